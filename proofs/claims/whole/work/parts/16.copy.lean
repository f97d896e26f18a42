/-! ===== super of a class that inherits; clone; arraycopy ===== -/
section GSU
variable {p : Program} {l : Launch} {e : Env} {R : Room} {s : State} {m : MethodId} {args : Array Value} {below : List Frame} {meth : Method} {c : Code}
theorem gw_callSUI {T : State} {locs : List Loc} {cells slots : Nat} (X : Stand p l e R s m args below meth c T locs cells slots) (hexec : p.tables.exec = Jvm.exec) {own owner : String} {index : Nat} {x : MethodName} {bytes : ByteArray} {maxL : Nat} {ret : Option FieldType}
    (hown : s.vm.findClass own = some m.cls) (hlink : (Cond.methodLink own index x).before args s = true) (hsame : (Cond.sameMethod x.cls owner x.name x.desc).before args s = true) (hsup : (Cond.superclass own x.cls).before args s = true) (hsup2 : (Cond.superclass x.cls owner).before args s = true)
    (hinst : (Cond.instanceMethod ⟨owner, x.name, x.desc⟩).before args s = true) (hcode : (Cond.code ⟨owner, x.name, x.desc⟩ bytes maxL ret).before args s = true) (hno : x.name ≠ "<init>")
    {W : Nat} {Pre : Pt → Array Value → Prop} {Post : Pt → Array Value → Option Value → Pt → Prop} (hK : Back l R p e below s args ⟨owner, x.name, x.desc⟩ 3 W Pre Post)
    {b : Addr} {cellB : Cell} {kB : Class} (hcell : T.heap[b]? = some cellB) (hobj : cellB.vm.isStatics = false) (hkB : s.vm.classes[cellB.cls]? = some kB)
    {g : JFrame} (hg : g.method = m) (hsize : g.locals.size = c.maxLocals) {argsL rest : List Value} (hlen : ∀ sig, parseMethodDescriptor x.desc = some sig → argsL.length = sig.parameters.length)
    (hstack : g.stack = argsL.reverse ++ .ref b :: rest) (hW : 2 * g.monitorRoom + (rest.map fun v => v.category).sum ≤ W) (hdg : decode c.code g.pc = .ok (.invokespecial index, 3))
    (hpre : ∀ vm₁, s.WarmedH vm₁ → Pre ⟨T.setVm vm₁, locs, cells, slots⟩ (Value.ref b :: argsL).toArray) :
    ∃ (v : Option Value) (vm₁ : Vm) (B : Pt), s.WarmedH vm₁ ∧ Stand p l e R s m args below meth c B.U B.locs B.cells B.slots ∧ Post ⟨T.setVm vm₁, locs, cells, slots⟩ (Value.ref b :: argsL).toArray v B ∧
      ∀ target, Steps p.tables e below (B.U.setTop { g with pc := g.pc + 3, stack := v.toList ++ rest }) target → Steps p.tables e below (T.setTop g) target := by
  obtain ⟨mk, methM, hnamed, hmethM, hstM, habM⟩ := Cond.instanceMethod_spec hinst
  obtain ⟨methM', cM, hmethM', -, -, -, -, -, -, hsigM⟩ := Cond.code_spec hnamed hcode
  cases hmethM.symm.trans hmethM'
  obtain ⟨ps, dk, kp, hps, hdk, hkp, hsuper, -, -, hnid⟩ := Cond.superclass_spec hown hsup
  obtain ⟨ps2, dk2, kp2, hps2, hdk2, hkp2, hsuper2, -, -, -⟩ := Cond.superclass_spec hps hsup2
  have hpm : ps2 = mk.cls := Option.some.inj (hps2.symm.trans (findClass_of_methodNamed hnamed))
  have hsz : 0 < s.vm.classes.size := by
    have := (Array.getElem?_eq_some_iff.mp hdk2).1
    omega
  have hsub : s.vm.isSubclass ps mk.cls = true := by
    rw [← hpm]
    obtain ⟨k, hk⟩ : ∃ k, s.vm.classes.size = k + 1 := ⟨s.vm.classes.size - 1, by omega⟩
    unfold Vm.isSubclass
    rw [hk]
    simp [Vm.isSubclassAux, hdk2, hsuper2]
  obtain ⟨vm₁, X₁, hstep₁⟩ := X.invokespecialUp hexec hown hlink hsame hnamed hmethM hstM habM hno hdk hnid hps hsuper hsub (a := b) (cell := cellB) hcell
    (fun z h => by rw [h] at hobj; cases hobj) hkB (g := g) hg (argsL := argsL) (rest := rest) (hlen _ hsigM) hstack hdg
  obtain ⟨v, B, X', hpost, hsteps⟩ := hK m meth c ⟨T.setVm vm₁, locs, cells, slots⟩ { g with stack := rest } (.invokespecial index) mk (Value.ref b :: argsL).toArray X₁ hg hsize hdg hW (X₁.named hnamed) (hpre vm₁ X₁.warmed)
  exact ⟨v, vm₁, B, X₁.warmed, X', hpost, fun target h => hstep₁ _ (by rw [doInvoke_state]; exact hsteps.trans h)⟩
end GSU
section GSV
variable {l : Launch} {D : va_G} {dA : Nat → ClassId} {b : Nat} {bs : gB} {Hb : Heap} {α β : Type} {Z : List Frame → Array Value → State → gH → α → gH → State → Prop}
variable {cc : ByteArray} {nL : Nat} {own nm : String} {ret : Option FieldType} {fr lo : Nat}
variable {ρ' : β → Option Value} {bytes : ByteArray} {maxL fr' lo' idx pc a t N : Nat} {ret' : Option FieldType} {g : gM β} {As st0 st : List Value} {C owner : String} {x : MethodName} {T : u_T}
theorem gRun.SUI (hM : gMt l D dA b bs Hb ⟨owner, x.name, x.desc⟩ bytes maxL ret' fr' lo' ρ' (.ref a :: As) g) (hf : gMf ⟨owner, x.name, x.desc⟩ bytes maxL ret' As.length) (hC : gCls t C T N) (h1 : Cond.methodLink own idx x ∈ gT) (h2 : Cond.sameMethod x.cls owner x.name x.desc ∈ gT) (h3 : Cond.superclass own x.cls ∈ gT) (h3' : Cond.superclass x.cls owner ∈ gT) (h4 : Cond.instanceMethod ⟨owner, x.name, x.desc⟩ ∈ gT) (hn : x.name ≠ "<init>")
    (hd : decode cc pc = .ok (.invokespecial idx, 3)) (hst : st0 = As.reverse ++ .ref a :: st) (hl : st.length ≤ 4) (hfr : fr' + 1 ≤ fr) (hlo : 8 + (maxL + 11) + lo' ≤ lo) : gRun l D dA b bs Hb cc nL own nm ret fr lo pc st0 st ρ' (fun h => ∃ n : Nat, h.1[a]? = some (t, n)) g := fun h v h1' ⟨n, ha⟩ hg => by
  obtain ⟨m1, m2⟩ := hM h v h1' hg
  refine ⟨m1, fun p e R s m args below meth c cx H locs ls cells slots hW hls hc hs => ?_⟩
  obtain ⟨hx, hb, hml, hown, hts, hK, hr, hlk, hnm, hRf, hRl⟩ := cx
  subst hst
  have hsg : ∀ sig, parseMethodDescriptor x.desc = some sig → (As.map (gtr b bs)).length = sig.parameters.length := fun sig h => by
    have h2 := hf.2.2.2
    rw [show (⟨owner, x.name, x.desc⟩ : MethodName).desc = x.desc from rfl, h] at h2
    rw [List.length_map]
    exact (Option.some.inj h2).symm
  obtain ⟨cellB, hcB, hoB, hclB⟩ := gRecv hK hW ha hC
  obtain ⟨kB, hkB, -⟩ := Vm.findClass_spec hclB
  have hKB : Back l R p e below s args ⟨owner, x.name, x.desc⟩ 3 8 (PreOf R (gc h1' - gc h) (gs h1' - gs h) (gPc D dA b bs Hb h (.ref a :: As))) (PostOf (gQc D dA b bs Hb h1' (ρ' v)) (gc h1' - gc h) (gs h1' - gs h) (fun q => b ≤ q)) :=
    back_of (bytes := bytes) (maxL := maxL) (ret := ret') m2 gBlind rfl rfl (by show fr' + 1 ≤ _; omega) (by show 8 + (maxL + 11) + lo' ≤ _; omega) (gPay hts hf.1) List.mem_cons_self (fun a' U hW => word_at hW (Or.inl (by first | rfl | simp [Cond.onTables, Cond.keeps, Cond.steady])) (hts _ hf.2.1))
  refine ⟨(Value.ref (b + a) :: As.map (gtr b bs)).toArray, fun T₀ hT X => ?_⟩
  obtain ⟨v', vm₁, ⟨U', l2, c2, s2⟩, hW₁, X', ⟨g', mk, t', L, e1, e2, hq, g1, hL, g2, g3⟩, st'⟩ := gw_callSUI X hx (bytes := bytes) (maxL := maxL) (ret := ret') hown (hts _ h1) (hts _ h2) (hts _ h3) (hts _ h3') (hts _ h4) (hts _ hf.1) hn hKB (by rw [hT]; exact hcB) hoB hkB (g := F0 m pc ls ((As.reverse ++ .ref a :: st).map (gtr b bs))) rfl (hls.trans hml.symm) (argsL := As.map (gtr b bs)) (rest := st.map (gtr b bs)) hsg (by simp [gtr]) (lv_room (gCat hl)) (by rw [hb]; exact hd)
    (fun vm₁ hW₁ => ⟨hc, hs, by simp [gtr], by show gW D dA b Hb h (T₀.setVm vm₁).heap; rw [show (T₀.setVm vm₁).heap = T₀.heap from rfl, hT]; exact hW, gKn.warm (U := T₀.setVm vm₁) hW₁ hK⟩)
  dsimp only [Pt.U, Pt.locs, Pt.cells, Pt.slots] at X' e1 e2 g1 g2 g3 st'
  subst g1; subst g2; subst g3
  exact ⟨v', (T₀.setVm vm₁).calling g' mk (Value.ref (b + a) :: As.map (gtr b bs)).toArray, t', U', L, hT, X', hL, e1, hq, st'⟩
theorem gS.clone {f : Nat → gM α} {L : List (Option Value)} {ad : String} (h1 : Cond.methodLink own idx ⟨"[I", "clone", "()Ljava/lang/Object;"⟩ ∈ gT) (h2 : Cond.sameMethod "[I" "java/lang/Object" "clone" "()Ljava/lang/Object;" ∈ gT) (h3 : Cond.native ⟨"java/lang/Object", "clone", "()Ljava/lang/Object;"⟩ ∈ gT) (h4 : Cond.instanceMethod ⟨"java/lang/Object", "clone", "()Ljava/lang/Object;"⟩ ∈ gT) (h5 : Cond.selects "[I" ⟨"[I", "clone", "()Ljava/lang/Object;"⟩ ⟨"java/lang/Object", "clone", "()Ljava/lang/Object;"⟩ ∈ gT) (hd : decode cc pc = .ok (.invokevirtual idx, 3)) (hl : st.length ≤ 4) (hfr : 1 ≤ fr) (hlo : 22 ≤ lo)
    (kk : ∀ v : Nat, gS l D dA b bs Hb cc nL own nm ret fr lo Z (pc + 3) L (.ref v :: st) (f v)) : gS l D dA b bs Hb cc nL own nm ret fr lo Z pc L (.ref a :: st) (mb (gClone a) f) := fun h r h' hf => by
  obtain ⟨v, h1', hg, hf⟩ := mb_spec hf
  unfold gClone at hg
  split at hg
  · cases hg
  rename_i q hq
  obtain ⟨t, n⟩ := q
  by_cases ht : t = 100
  · rw [if_pos ht] at hg
    subst ht
    have hg : some ((h.1.length, h.1 ++ [(100, n)], (fun x j => if x = h.1.length then h.2.1 a j else h.2.1 x j), fun x j => if x = h.1.length then none else h.2.2 x j) : Nat × gH) = some (v, h1') := hg
    cases hg
    obtain ⟨g1, g2⟩ := kk _ _ r h' hf
    obtain ⟨p1, p2⟩ := gc_push h 100 n (fun x j => if x = h.1.length then h.2.1 a j else h.2.1 x j) (fun x j => if x = h.1.length then none else h.2.2 x j)
    have g1' : gLe h h' := ⟨by have := g1.1; omega, by have := g1.2; omega⟩
    refine ⟨g1', fun p e R s m args below meth c h0 cx a1 a2 a3 H locs ls hW hlo' hh => ?_⟩
    have hK := cx.2.2.2.2.2.1
    have hts := cx.2.2.2.2.1
    have q1 := g1.1
    have q2 := g1.2
    have q3 := a1.1
    have q4 := a1.2
    have hcell := hW.arrI hq (by omega) (by omega)
    have hnm : s.vm.findClass "[I" = some (dA 100) := (hK.1.2 0 _ rfl).2
    obtain ⟨c0, t0', f1, f2, f3⟩ := Cond.castable_spec (va_Nw.use (A := args) rfl hK.2.2.2.2.2.2.1)
    have e0 : dA 100 = c0 := Option.some.inj (hnm.symm.trans f1)
    subst e0
    have hcat := gCat (b := b) (bs := bs) hl
    have hszA : (arrV (dA 100) n (fun j => .int (h.2.1 a j))).slots.size = n := arrV_size _ _ _
    intro T hT X
    obtain ⟨-, kA, hkA, comp, hkind⟩ := State.isArrayOf_alike X.warmed.alike ((hK.1.2 0 _ rfl).1 0 (fun _ => .null))
    obtain ⟨-, kS, hkS, compS, hkindS⟩ := (hK.1.2 0 _ rfl).1 0 (fun _ => .null)
    obtain ⟨vm', X', st'⟩ := X.cloneArray cx.1 cx.2.2.2.1 (hts _ h1) (hts _ h2) (hts _ h3) (hts _ h4) (hts _ h5) (a := b + a) (cell := arrV (dA 100) n (fun j => .int (h.2.1 a j))) (by rw [hT]; exact hcell) (fun k h => by cases h) (fun h => by cases h) hnm f2 f3
      (fun i v hv => by
        have hk' : T.vm.classes[dA 100]? = some kA := hkA
        have hv2 : fits .int v = true := by
          have hi : i < n := by
            have := (Array.getElem?_eq_some_iff.mp hv).1
            rw [hszA] at this; exact this
          rw [arrV_read _ _ hi] at hv
          cases hv; rfl
        simpa [State.fitsSlot, State.slotType?, arrV, hk', hkind] using hv2)
      (g := F0 m pc ls (.ref (b + a) :: st.map (gtr b bs))) rfl (hh.1.trans cx.2.2.1.symm) rfl (by rw [cx.2.1]; exact hd) (by rw [cx.2.2.2.2.2.2.2.2.2.1]; exact hfr) (by show 2 * 0 + _ + 14 ≤ _; rw [cx.2.2.2.2.2.2.2.2.2.2]; omega) (by omega) (by rw [hszA]; omega) (hloader := Vm.clonesLoader_of_array hkS hkindS)
    rw [hszA] at X'
    have hce : ({ cls := (arrV (dA 100) n (fun j => .int (h.2.1 a j))).cls, slots := (arrV (dA 100) n (fun j => .int (h.2.1 a j))).slots } : Cell) = arrV (dA 100) n (fun j => .int (h.2.1 a j)) := rfl
    rw [hce] at X' st'
    generalize hH1 : H.push (arrV (dA 100) n (fun j => .int (h.2.1 a j))) = H1
    have z1 : H1.size = H.size + 1 := by rw [← hH1, Array.size_push]
    have y1 : H1[H.size]? = some (arrV (dA 100) n (fun j => .int (h.2.1 a j))) := by rw [← hH1, Array.getElem?_push_size]
    have o1 : ∀ q : Nat, q < H.size → H1[q]? = H[q]? := fun q hq => by rw [← hH1, Array.getElem?_push, if_neg (Nat.ne_of_lt hq)]
    have w := g2 p e R s m args below meth c h0 cx ⟨by omega, by omega⟩ a2 a3 H1 locs ls (hW.pushG (t := 100) (n := n) (iv0 := h.2.1 a) (rv0 := fun _ => none) z1 o1 (by unfold gCell; rw [if_neg (by omega), if_pos (by omega), ← hW.1]; exact y1)) hlo' hh
    have p1' : gc h - gc h0 + 1 = gc h + 1 - gc h0 := by omega
    have p2' : gs h - gs h0 + n = gs h + n - gs h0 := by omega
    rw [p1', p2'] at X'
    rw [p1, p2] at w
    obtain ⟨t2, b1, b2⟩ := w ((T.setVm vm').pushCell (arrV (dA 100) n (fun j => .int (h.2.1 a j)))) (by rw [← hH1, ← hT]; rfl) X'
    refine ⟨t2, st' t2 ?_, b2⟩
    rw [hT, hW.1]
    exact b1
  · rw [if_neg ht] at hg; cases hg
theorem gS.castI {f : gM α} {L : List (Option Value)} (h1 : Cond.classLink own idx "[I" ∈ gT) (hd : decode cc pc = .ok (.checkcast idx, 3))
    (kk : gS l D dA b bs Hb cc nL own nm ret fr lo Z (pc + 3) L (.ref a :: st) f) : gS l D dA b bs Hb cc nL own nm ret fr lo Z pc L (.ref a :: st) (mv [100] a f) := fun h r h' hf => by
  obtain ⟨t, n, ha, ht, hf⟩ := mv_spec hf
  have ht : t = 100 := by simpa using ht
  subst ht
  obtain ⟨g1, g2⟩ := kk h r h' hf
  refine ⟨g1, fun p e R s m args below meth c h0 cx a1 a2 a3 H locs ls hW hl hh => ?_⟩
  have hK := cx.2.2.2.2.2.1
  have hcell := hW.arrI ha (by omega) (by omega)
  have hnm : s.vm.findClass "[I" = some (dA 100) := (hK.1.2 0 _ rfl).2
  intro T hT X
  obtain ⟨vm', X', st'⟩ := X.checkcastYes cx.1 cx.2.2.2.1 (cx.2.2.2.2.1 _ h1) (cell := arrV (dA 100) n (fun j => .int (h.2.1 a j))) (by rw [hT]; exact hcell) rfl hnm (va_asg _ _) (g := F0 m pc ls (.ref (b + a) :: st.map (gtr b bs))) rfl rfl (by rw [cx.2.1]; exact hd)
  obtain ⟨t, b1, b2⟩ := g2 p e R s m args below meth c h0 cx a1 a2 a3 H locs ls hW hl hh (T.setVm vm') hT X'
  exact ⟨t, st' t b1, b2⟩
theorem gS.copy {f : gM α} {L : List (Option Value)} {a0 : Nat} {sp dp n : Int32} (h1 : Cond.methodLink own idx arraycopyName ∈ gT) (h2 : Cond.native arraycopyName ∈ gT) (h3 : Cond.static arraycopyName ∈ gT) (h4 : Cond.initialized "java/lang/System" ∈ gT) (hd : decode cc pc = .ok (.invokestatic idx, 3)) (hl : st.length ≤ 4) (hfr : 1 ≤ fr) (hlo : 8 + (nativeFrameWords "java/lang/System" "arraycopy" 5 + 11) ≤ lo)
    (kk : gS l D dA b bs Hb cc nL own nm ret fr lo Z (pc + 3) L st f) : gS l D dA b bs Hb cc nL own nm ret fr lo Z pc L (.int n :: .int dp :: .ref a :: .int sp :: .ref a0 :: st) (mb (gCopy a0 sp a dp n) fun _ => f) := fun h r h' hf => by
  obtain ⟨_, h1', hg, hf⟩ := mb_spec hf
  unfold gCopy at hg
  split at hg
  · rename_i q q1 hq hq1
    split at hg
    · rename_i hc
      obtain ⟨t0, n0⟩ := q
      obtain ⟨t1, n1⟩ := q1
      obtain ⟨e0, e1, c1, c2, c3, c4, c5⟩ := hc
      have e0 : t0 = 100 := e0
      have e1 : t1 = 100 := e1
      subst e0; subst e1
      cases hg
      obtain ⟨g1, g2⟩ := kk _ r h' hf
      refine ⟨g1, fun p e R s m args below meth c h0 cx a1 a2 a3 H locs ls hW hlo' hh => ?_⟩
      have hK := cx.2.2.2.2.2.1
      have hts := cx.2.2.2.2.1
      have hc0 := hW.arrI hq (by omega) (by omega)
      have hc1 := hW.arrI hq1 (by omega) (by omega)
      have hcat := gCat (b := b) (bs := bs) hl
      have nn : ∀ z : Int32, ¬ z < 0 → z.toInt = (z.toNatClampNeg : Int) := by
        intro z hz
        have hz0 : (0 : Int) ≤ z.toInt := by
          have := Int32.not_lt.mp hz
          simpa using Int32.le_iff_toInt_le.mp this
        show z.toInt = ((z.toInt.toNat : Nat) : Int)
        omega
      intro T hT X
      obtain ⟨-, k0, hk0, cm0, hkk0⟩ := (hK.1.2 0 _ rfl).1 n0 (fun j => .int (h.2.1 a0 j))
      obtain ⟨vm', X', step⟩ := X.arraycopy cx.1 cx.2.2.2.1 (hts _ h1) (hts _ h2) (hts _ h3) (hts _ h4) (src := b + a0) (dst := b + a) (cs := arrV (dA 100) n0 (fun j => .int (h.2.1 a0 j))) (cd := arrV (dA 100) n1 (fun j => .int (h.2.1 a j))) (srcPos := sp) (destPos := dp) (n := n) (by rw [hT]; exact hc0) (by rw [hT]; exact hc1)
        (fun _ h => by cases h) (fun _ h => by cases h) (fun h => by cases h) (fun h => by cases h) hk0 hk0 hkk0 hkk0 (by simp [refKind]) c1 c2 c3
        (by rw [nn sp c1, nn n c3, arrV_size]; omega) (by rw [nn dp c2, nn n c3, arrV_size]; omega)
        (fun vm₁ _ i hi => by
          have e : (arrV (dA 100) n0 (fun j => .int (h.2.1 a0 j))).slots.getD (sp.toNatClampNeg + i) .null = .int (h.2.1 a0 (sp.toNatClampNeg + i)) := by
            rw [Array.getD_eq_getD_getElem?, arrV_read _ _ (by omega)]
            rfl
          refine ⟨?_, ?_⟩
          · rw [e]; rfl
          · rw [e]; exact trivial)
        (g := F0 m pc ls (.int n :: .int dp :: .ref (b + a) :: .int sp :: .ref (b + a0) :: st.map (gtr b bs))) rfl (hh.1.trans cx.2.2.1.symm) (rest := st.map (gtr b bs)) rfl (by rw [cx.2.1]; exact hd) (by rw [cx.2.2.2.2.2.2.2.2.2.1]; exact hfr) (by show 2 * 0 + _ + _ ≤ _; rw [cx.2.2.2.2.2.2.2.2.2.2]; omega)
      have e1 : copied (arrV (dA 100) n0 (fun j => .int (h.2.1 a0 j))) (arrV (dA 100) n1 (fun j => .int (h.2.1 a j))) sp dp n = arrV (dA 100) n1 (fun j => .int (va_cpy (h.2.1 a0) (h.2.1 a) sp.toNatClampNeg dp.toNatClampNeg n.toNatClampNeg j)) := va_copied (fun z => .int z) _ _ _ _ c4
      rw [e1] at X' step
      have hl1 : b + a < H.size := (Array.getElem?_eq_some_iff.mp hc1).1
      generalize hC : arrV (dA 100) n1 (fun j => .int (va_cpy (h.2.1 a0) (h.2.1 a) sp.toNatClampNeg dp.toNatClampNeg n.toNatClampNeg j)) = C1 at X' step
      have hheap : ((T.setVm vm').setCell (b + a) C1).heap = H.setIfInBounds (b + a) C1 := by rw [← hT]; rfl
      have w := g2 p e R s m args below meth c h0 cx a1 a2 a3 (H.setIfInBounds (b + a) C1) _ ls (hW.set (iv' := fun x j => if x = a then va_cpy (h.2.1 a0) (h.2.1 a) sp.toNatClampNeg dp.toNatClampNeg n.toNatClampNeg j else h.2.1 x j) (rv' := h.2.2) hq1 (fun q hq => by funext j; simp [hq]) (fun _ _ => rfl) (by simp) (fun q hq => by simp [Array.getElem?_setIfInBounds, Ne.symm hq]) (by
        unfold gCell
        rw [if_neg (by omega), if_pos (by omega)]
        simp only [if_true]
        rw [hC]
        simp [Array.getElem?_setIfInBounds, hl1])) (fun q hq => ?_) hh _ hheap X'
      · obtain ⟨t2, b1, b2⟩ := w
        exact ⟨t2, step t2 b1, b2⟩
      · rcases List.mem_append.mp hq with h | h
        · exact hlo' q h
        · obtain ⟨z, -, hz⟩ := List.mem_map.mp h
          rw [← hz]
          exact Nat.le_add_right _ _
    · cases hg
  · cases hg
end GSV

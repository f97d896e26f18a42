/-! ===== a row of rows: how the machine makes it ===== -/
/-- the row of rows, i of its rows made -/
def mnO (c : ClassId) (N h0 i : Nat) : Cell := arrV c N (fun j => if j < i then .ref (h0 + 1 + j) else .null)
def mnI (c : ClassId) (K : Nat) : Cell := arrV c K (fun _ => .int 0)
def mnU (s : State) (c d : ClassId) (N K : Nat) : Nat → State
  | 0 => s.pushCell (mnO c N s.heap.size 0)
  | i + 1 => ((mnU s c d N K i).pushCell (mnI d K)).setCell s.heap.size (mnO c N s.heap.size (i + 1))
theorem mnO_next (c : ClassId) (N h0 i : Nat) : (mnO c N h0 i).setSlot i (.ref (h0 + 1 + i)) = mnO c N h0 (i + 1) := by
  unfold mnO
  rw [arrV_store]
  refine congrArg (arrV c N) (funext fun j => ?_)
  unfold updV
  by_cases e : j = i
  · rw [if_pos e, if_pos (by omega), e]
  · rw [if_neg e]
    show (if j < i then Value.ref (h0 + 1 + j) else Value.null) = _
    by_cases q : j < i
    · rw [if_pos q, if_pos (by omega)]
    · rw [if_neg q, if_neg (by omega)]
theorem mnU_size (s : State) (c d : ClassId) (N K : Nat) : ∀ i, (mnU s c d N K i).heap.size = s.heap.size + 1 + i
  | 0 => Array.size_push _
  | i + 1 => by
    show (((mnU s c d N K i).heap.push (mnI d K)).setIfInBounds s.heap.size _).size = _
    rw [Array.size_setIfInBounds, Array.size_push, mnU_size s c d N K i]
    omega
theorem mnU_top (s : State) (c d : ClassId) (N K : Nat) : ∀ i, (mnU s c d N K i).heap[s.heap.size]? = some (mnO c N s.heap.size i)
  | 0 => State.heap_pushCell_size _ _
  | i + 1 => by
    show (((mnU s c d N K i).heap.push (mnI d K)).setIfInBounds s.heap.size _)[s.heap.size]? = _
    rw [Array.getElem?_setIfInBounds, if_pos rfl, if_pos (by rw [Array.size_push, mnU_size]; omega)]
theorem mnU_vm (s : State) (c d : ClassId) (N K : Nat) : ∀ i, (mnU s c d N K i).vm = s.vm
  | 0 => rfl
  | i + 1 => mnU_vm s c d N K i
theorem mnU_used (s : State) (c d : ClassId) (N K : Nat) : ∀ i, (mnU s c d N K i).slotsUsed = s.slotsUsed + N + i * K
  | 0 => by
    show s.slotsUsed + (mnO c N s.heap.size 0).slots.size = _
    unfold mnO
    rw [arrV_size]
    omega
  | i + 1 => by
    show (mnU s c d N K i).slotsUsed + (mnI d K).slots.size = _
    unfold mnI
    rw [arrV_size, mnU_used s c d N K i, Nat.succ_mul]
    omega
theorem mnU_old (s : State) (c d : ClassId) (N K : Nat) {q : Nat} (hq : q < s.heap.size) : ∀ i, (mnU s c d N K i).heap[q]? = s.heap[q]?
  | 0 => by
    show (s.heap.push _)[q]? = _
    rw [Array.getElem?_push, if_neg (by omega)]
  | i + 1 => by
    show (((mnU s c d N K i).heap.push (mnI d K)).setIfInBounds s.heap.size _)[q]? = _
    rw [Array.getElem?_setIfInBounds, if_neg (by omega), Array.getElem?_push, mnU_size, if_neg (by omega)]
    exact mnU_old s c d N K hq i
theorem mnU_row (s : State) (c d : ClassId) (N K : Nat) : ∀ i j, j < i → (mnU s c d N K i).heap[s.heap.size + 1 + j]? = some (mnI d K)
  | 0, j, h => by omega
  | i + 1, j, h => by
    show (((mnU s c d N K i).heap.push (mnI d K)).setIfInBounds s.heap.size _)[s.heap.size + 1 + j]? = _
    rw [Array.getElem?_setIfInBounds, if_neg (by omega), Array.getElem?_push, mnU_size]
    by_cases e : j = i
    · rw [if_pos (by omega)]
    · rw [if_neg (by omega)]
      exact mnU_row s c d N K i j (by omega)
theorem mnU_setTop (s : State) (f : JFrame) (c d : ClassId) (N K : Nat) : ∀ i, mnU (s.setTop f) c d N K i = (mnU s c d N K i).setTop f
  | 0 => rfl
  | i + 1 => by
    show ((mnU (s.setTop f) c d N K i).pushCell (mnI d K)).setCell s.heap.size (mnO c N s.heap.size (i + 1)) = _
    rw [mnU_setTop s f c d N K i]
    rfl
section MNEW
variable {E : CtlPost} {e : Env} {d : Bool} {acts : List Action} {s : State}
/-- one row -/
theorem mn_arr {c cc : ClassId} {k : Class} {ty : FieldType} {n : Nat} {v : Value} (hk : s.vm.classes[c]? = some k) (hkind : k.kind = .array cc ty) (h1 : n ≤ e.platform.arrayLengthLimit) (h2 : n * componentBytes ty ≤ e.platform.maxHeapBytes) (hv : fits ty v = true) (hd : v.isDefault = true) (h3 : s.heap.size < e.platform.maxCells) (h4 : s.slotsUsed + n ≤ e.platform.maxSlots) {Q : Addr → Pre} (hq : ∀ acts', Q s.heap.size d acts' (s.pushCell (arrV c n (fun _ => v)))) : wp (Jvm.newArray c n v) Q E e d acts s := by
  have a1 : ¬ n > e.platform.arrayLengthLimit := by omega
  have a2 : ¬ n * componentBytes ty > e.platform.maxHeapBytes := by omega
  have a3 : ¬ n > e.platform.maxSlots := by omega
  have hf : ∀ i w, (Array.replicate n v)[i]? = some w → s.fitsSlot c .none i w = true := fun i w hw => by
    rw [Array.getElem?_replicate] at hw
    split at hw
    · cases hw
      simp [State.fitsSlot, State.slotType?, hk, hkind, hv]
    · cases hw
  simp only [Jvm.newArray, Jvm.arrayFits, wp_bind', W.ask, W.ite, a1, a2, a3, if_false, wp_pure', W.theClass, hk, hkind, W.alloc, Option.some.injEq, exists_eq_left', Array.size_replicate]
  refine ⟨h3, h4, hf, ?_⟩
  rw [arrV_new]
  exact hq _
/-- all rows -/
theorem mn_make {cA cB cC : ClassId} {kA kB : Class} {n k : Int32} (hkA : s.vm.classes[cA]? = some kA) (hA : kA.kind = .array cB (.array .int)) (hkB : s.vm.classes[cB]? = some kB) (hB : kB.kind = .array cC .int) (hn : ¬ n < 0) (hk : ¬ k < 0)
    (l1 : n.toNatClampNeg ≤ e.platform.arrayLengthLimit) (b1 : n.toNatClampNeg * componentBytes (.array .int) ≤ e.platform.maxHeapBytes) (l2 : k.toNatClampNeg ≤ e.platform.arrayLengthLimit) (b2 : k.toNatClampNeg * componentBytes .int ≤ e.platform.maxHeapBytes)
    (hc : s.heap.size + 1 + n.toNatClampNeg ≤ e.platform.maxCells) (hs : s.slotsUsed + n.toNatClampNeg + n.toNatClampNeg * k.toNatClampNeg ≤ e.platform.maxSlots) {Q : Addr → Pre} (hq : ∀ d' acts', Q s.heap.size d' acts' (mnU s cA cB n.toNatClampNeg k.toNatClampNeg n.toNatClampNeg)) : wp (multianewarray.make cA [n, k]) Q E e d acts s := by
  have neg : ([k].find? (· < 0)) = none := by simp [hk]
  generalize hN : n.toNatClampNeg = N at *
  generalize hK : k.toNatClampNeg = K at *
  have one : ∀ {U : State} {d' : Bool} {acts' : List Action} {Q' : Addr → Pre} (i : Nat), i < N → U = mnU s cA cB N K i → (∀ acts'', Q' U.heap.size d' acts'' (U.pushCell (mnI cB K))) → wp (multianewarray.make cB [k]) Q' E e d' acts' U := fun {U} {d'} {acts'} {Q'} i hi hU h => by
    have z1 := mnU_size s cA cB N K i
    have z2 := mnU_used s cA cB N K i
    have z3 := mnU_vm s cA cB N K i
    rw [← hU] at z1 z2 z3
    have hkB' : U.vm.classes[cB]? = some kB := by rw [z3]; exact hkB
    have hm : i * K + K ≤ N * K := by
      have := Nat.mul_le_mul_right K (show i + 1 ≤ N from hi)
      rw [Nat.succ_mul] at this
      exact this
    rw [multianewarray.make]
    simp only [wp_bind', W.ite, hk, if_false, wp_pure', W.theClass, hkB', hB, Option.some.injEq, exists_eq_left', hK]
    exact mn_arr hkB' hB l2 b2 rfl rfl (by omega) (by omega) h
  rw [multianewarray.make]
  simp only [wp_bind', W.ite, hn, if_false, wp_pure', W.theClass, hkA, hA, Option.some.injEq, exists_eq_left', hN]
  refine mn_arr hkA hA l1 b1 rfl rfl (by omega) (by have := Nat.zero_le (N * K); omega) (fun acts' => ?_)
  simp only [neg]
  rw [ite_self, wp_bind', Std.Legacy.Range.forIn_eq_forIn_range']
  have hsz : ([:N] : Std.Legacy.Range).size = N := by simp [Std.Legacy.Range.size]
  rw [hsz]
  have e0 : s.pushCell (arrV cA N (fun _ => .null)) = mnU s cA cB N K 0 := by
    show _ = s.pushCell (mnO cA N s.heap.size 0)
    refine congrArg _ (congrArg (arrV cA N) (funext fun j => ?_))
    rw [if_neg (by omega)]
  rw [e0]
  show wp (forIn (List.range' 0 N 1) PUnit.unit _) _ E e d acts' _
  refine wp_forIn_inv (fun r U => ∃ i, i ≤ N ∧ r = List.range' i (N - i) ∧ U = mnU s cA cB N K i) _ _ ⟨0, Nat.zero_le _, rfl, rfl⟩ ?_ ?_
  · intro x r U d' a' Q' hI hnext
    obtain ⟨i, hi, hl, hU⟩ := hI
    have hlt : i < N := by
      rcases Nat.lt_or_ge i N with h | h
      · exact h
      · have : N - i = 0 := by omega
        rw [this] at hl
        cases hl
    have e1 : N - i = (N - (i + 1)) + 1 := by omega
    rw [e1, List.range'_succ] at hl
    obtain ⟨rfl, rfl⟩ := List.cons.inj hl
    simp only [wp_bind']
    refine one x hlt hU (fun a'' => ?_)
    have z1 := mnU_size s cA cB N K x
    have z3 := mnU_vm s cA cB N K x
    have z4 := mnU_top s cA cB N K x
    rw [← hU] at z1 z3 z4
    simp only [wp_bind', W.writeLoc, wp_pure']
    refine ⟨mnO cA N s.heap.size x, ?_, ?_, ?_, ?_, ?_⟩
    · show (U.heap.push _)[s.heap.size]? = _
      rw [Array.getElem?_push, if_neg (by omega)]
      exact z4
    · intro q
      cases q
    · unfold mnO
      rw [arrV_size]
      exact hlt
    · have hkA' : U.vm.classes[cA]? = some kA := by rw [z3]; exact hkA
      have hkA2 : (U.pushCell (mnI cB K)).vm.classes[cA]? = some kA := hkA'
      show (U.pushCell (mnI cB K)).fitsSlot cA .none x (.ref U.heap.size) = true
      have ht : (U.pushCell (mnI cB K)).slotType? cA .none x = some (.array .int) := by
        unfold State.slotType?
        rw [hkA2]
        show (match kA.kind with
          | .array _ ty => some ty
          | _ => kA.instanceTypes[x]?) = _
        rw [hA]
      unfold State.fitsSlot
      rw [ht]
      rfl
    · refine hnext _ _ _ ⟨x + 1, hlt, rfl, ?_⟩
      rw [z1, mnO_next, hU]
      rfl
  · intro U d' a' hI
    obtain ⟨i, hi, hl, hU⟩ := hI
    have : i = N := by
      rcases Nat.lt_or_ge i N with h | h
      · have e1 : N - i = (N - (i + 1)) + 1 := by omega
        rw [e1, List.range'_succ] at hl
        cases hl
      · omega
    subst this
    simp only [wp_pure']
    rw [hU]
    exact hq _ _
end MNEW
section MNEW2
variable {p : Program} {l : Launch} {e : Env} {R : Room} {s : State} {m : MethodId} {args : Array Value} {below : List Frame} {meth : Method} {c : Code} {T : State} {locs : List Loc} {cells slots : Nat}
theorem mn_stand (X : Stand p l e R s m args below meth c T locs cells slots) (cA cB : ClassId) (N K : Nat) : ∀ i, Stand p l e R s m args below meth c (mnU T cA cB N K i) (locs ++ (List.range i).map fun j => ⟨T.heap.size, j⟩) (cells + 1 + i) (slots + N + i * K)
  | 0 => by
    have h := X.pushed (mnO cA N T.heap.size 0)
    have e1 : (mnO cA N T.heap.size 0).slots.size = N := arrV_size _ _ _
    rw [e1] at h
    have e2 : slots + N + 0 * K = slots + N := by omega
    rw [e2, List.range_zero, List.map_nil, List.append_nil]
    exact h
  | i + 1 => by
    have Xi := mn_stand X cA cB N K i
    have z1 := mnU_size T cA cB N K i
    have z4 := mnU_top T cA cB N K i
    have hc : ((mnU T cA cB N K i).pushCell (mnI cB K)).heap[T.heap.size]? = some (mnO cA N T.heap.size i) := by
      show ((mnU T cA cB N K i).heap.push _)[T.heap.size]? = _
      rw [Array.getElem?_push, if_neg (by omega)]
      exact z4
    have h := (Xi.pushed (mnI cB K)).stored hc i (.ref (T.heap.size + 1 + i))
    have e1 : (mnI cB K).slots.size = K := arrV_size _ _ _
    rw [e1, mnO_next] at h
    have e3 : slots + N + (i + 1) * K = slots + N + i * K + K := by rw [Nat.succ_mul]; omega
    rw [e3, List.range_succ, List.map_append, ← List.append_assoc]
    exact h
theorem W.mn {H : Heap} {Q : State → Prop} {cc : ByteArray} (hexec : p.tables.exec = Jvm.exec) (hb : c.code = cc) {own : String} {index : Nat} (hown : s.vm.findClass own = some m.cls) (hclink : (Cond.classLink own index "[[I").before args s = true) (hover : va_Nw (.arrayOver (.array .int)) s) (harr : (Cond.arrayClass .int).before args s = true)
    {g : JFrame} (hg : g.method = m) (hdg : decode cc g.pc = .ok (.multianewarray index 2, 4)) {n k : Int32} {rest : List Value} (hstack : g.stack = .int k :: .int n :: rest) (hn : ¬ n < 0) (hk : ¬ k < 0) (n1 : n.toNatClampNeg ≤ 1000) (k1 : k.toNatClampNeg ≤ 1000)
    (hcells : cells + (1 + n.toNatClampNeg) ≤ R.cells) (hslots : slots + (n.toNatClampNeg + n.toNatClampNeg * k.toNatClampNeg) ≤ R.slots)
    (kk : ∀ (H1 : Heap) (cA cB : ClassId), s.vm.findClass "[[I" = some cA → s.vm.findClass "[I" = some cB → H1.size = H.size + 1 + n.toNatClampNeg → (∀ q : Nat, q < H.size → H1[q]? = H[q]?) → H1[H.size]? = some (mnO cA n.toNatClampNeg H.size n.toNatClampNeg) → (∀ j, j < n.toNatClampNeg → H1[H.size + 1 + j]? = some (mnI cB k.toNatClampNeg)) →
      W p l e R s m args below meth c H1 locs (cells + 1 + n.toNatClampNeg) (slots + n.toNatClampNeg + n.toNatClampNeg * k.toNatClampNeg) Q { g with pc := g.pc + 4, stack := .ref H.size :: rest }) : W p l e R s m args below meth c H locs cells slots Q g := by
  intro T hT X
  subst hg
  have hpl : e.platform.magicAccessors = ({} : Platform).magicAccessors := by rw [X.admits.platform]
  obtain ⟨cB, cA, kA, f1, -, q1, q2, f2⟩ := arrayOverA_spec (args := #[]) (first := s) (s := s) (o := none) (idx := []) hover
  obtain ⟨cB', kB, cC, f3, q3, q4⟩ := Cond.arrayClass_spec (args := args) (first := s) (s := s) (o := none) (idx := []) harr
  have eB : cB' = cB := Option.some.inj (f3.symm.trans f1)
  subst eB
  obtain ⟨c0, f0, hcl⟩ := Cond.classLink_spec hown hclink e.platform hpl
  have e0 : c0 = cA := Option.some.inj (f0.symm.trans f2)
  subst e0
  obtain ⟨hg1, hw1, hr1⟩ := State.classEntry (e := e) X.warmed hcl
  generalize T.vm.noted g.method.cls index (.cls c0) = v1 at hg1 hw1 hr1
  obtain ⟨kA1, qA, eA⟩ := hw1.alike.2.2 _ _ q1
  obtain ⟨kB1, qB, eB⟩ := hw1.alike.2.2 _ _ q3
  have kdA : kA1.kind = .array cB' (.array .int) := by rw [eA]; exact q2
  have kdB : kB1.kind = .array cC .int := by rw [eB]; exact q4
  obtain ⟨r1, r2⟩ := X.roomAbove hcells hslots
  have X1 := X.noted hw1
  have XF := mn_stand X1 c0 cB' n.toNatClampNeg k.toNatClampNeg n.toNatClampNeg
  have XD : Stand p l e R s g.method args below meth c (mnU (T.setVm v1) c0 cB' n.toNatClampNeg k.toNatClampNeg n.toNatClampNeg) locs (cells + 1 + n.toNatClampNeg) (slots + n.toNatClampNeg + n.toNatClampNeg * k.toNatClampNeg) := by
    refine XF.dropFresh (fun x hx => ?_)
    obtain ⟨j, -, rfl⟩ := List.mem_map.mp hx
    exact X.heapGrown
  have zs := mnU_size (T.setVm v1) c0 cB' n.toNatClampNeg k.toNatClampNeg n.toNatClampNeg
  have zo := fun (q : Nat) (hq : q < (T.setVm v1).heap.size) => mnU_old (T.setVm v1) c0 cB' n.toNatClampNeg k.toNatClampNeg hq n.toNatClampNeg
  have zt := mnU_top (T.setVm v1) c0 cB' n.toNatClampNeg k.toNatClampNeg n.toNatClampNeg
  have zr := mnU_row (T.setVm v1) c0 cB' n.toNatClampNeg k.toNatClampNeg n.toNatClampNeg
  have hT1 : (T.setVm v1).heap = H := hT
  rw [hT1] at zs zo zt zr
  obtain ⟨t, a1, b1⟩ := kk _ c0 cB' f2 f1 zs zo zt zr (mnU (T.setVm v1) c0 cB' n.toNatClampNeg k.toNatClampNeg n.toNatClampNeg) rfl XD
  refine ⟨t, ?_, b1⟩
  have lim : ∀ x : Nat, x ≤ 1000 → x ≤ e.platform.arrayLengthLimit := fun x hx => by rw [Launch.admits_arrayLengthLimit X.admits]; omega
  have byt : ∀ x : Nat, x ≤ 1000 → x * 4 ≤ e.platform.maxHeapBytes := fun x hx => by rw [Launch.admits_maxHeapBytes X.admits]; omega
  jvm_step X.here [hexec, hb, hdg]
  simp only [multianewarray.sem, wp_bind', W.resolveClassAt_links (State.method?_setTop g X.here.top) hg1]
  rw [W.popN, if_neg (by decide)]
  refine ⟨g, State.topJava?_setTop' (s := T.setVm v1) g X.here.top, [.int n, .int k], rest, rfl, hstack, ?_⟩
  simp only [List.mapM_cons, List.mapM_nil, wp_bind', wp_pure']
  refine mn_make (kA := kA1) (kB := kB1) (cB := cB') (cC := cC) qA kdA qB kdB hn hk (lim _ n1) (byt _ n1) (lim _ k1) (byt _ k1) (by show T.heap.size + 1 + _ ≤ _; omega) (by show T.slotsUsed + _ + _ ≤ _; omega) (fun d' acts' => ?_)
  have eS : ((T.setTop g).setVm v1).setTop { g with stack := rest } = (T.setVm v1).setTop { g with stack := rest } := by
    show ((T.setVm v1).setTop g).setTop _ = _
    rw [State.setTop_setTop]
  rw [eS, mnU_setTop]
  simp only [wp_bind', W.mark, W.pushRef, State.topJava?_setTop' _ XD.here.top, Option.some.injEq, exists_eq_left', State.setTop_setTop, State.heap_setTop]
  intro acts
  simp [jvm, XD.here.top]
  rw [hT]
  exact a1
end MNEW2
theorem mn_gc (h : gH) (N K : Nat) (iv : Nat → Nat → Int32) (rv : Nat → Nat → Option Nat) : gc (h.1 ++ (106, N) :: List.replicate N (100, K), iv, rv) = gc h + 1 + N ∧ gs (h.1 ++ (106, N) :: List.replicate N (100, K), iv, rv) = gs h + N + N * K := by
  unfold gc gs
  dsimp only
  refine ⟨?_, ?_⟩
  · rw [List.length_append, List.length_cons, List.length_replicate]
    omega
  · rw [List.map_append, List.sum_append, List.map_cons, List.sum_cons, List.map_replicate, List.sum_replicate_nat]
    dsimp only
    omega
theorem gMnew_ok : gMnew := by
  intro α l D dA b bs Hb Z cc nL own nm ret fr lo pc idx L st f n k h1 h2 hd kk h r h' hf
  obtain ⟨v, hm, hg, hf⟩ := mb_spec hf
  by_cases hin : ¬ n < 0 ∧ ¬ k < 0 ∧ n.toNatClampNeg ≤ 1000 ∧ k.toNatClampNeg ≤ 1000
  · rw [gNewM, if_pos hin] at hg
    cases hg
    obtain ⟨g1, g2⟩ := kk _ _ r h' hf
    obtain ⟨p1, p2⟩ := mn_gc h n.toNatClampNeg k.toNatClampNeg (fun q j => if h.1.length ≤ q then 0 else h.2.1 q j) (fun q j => if q = h.1.length then (if j < n.toNatClampNeg then some (h.1.length + 1 + j) else none) else if h.1.length < q then none else h.2.2 q j)
    have g1' : gLe h h' := ⟨by have := g1.1; omega, by have := g1.2; have := Nat.zero_le (n.toNatClampNeg * k.toNatClampNeg); omega⟩
    refine ⟨g1', fun p e R s m args below meth c h0 cx a1 a2 a3 H locs ls hW hl hh => ?_⟩
    have hK := cx.2.2.2.2.2.1.1
    have hS := cx.2.2.2.2.2.1.2
    have q1 := g1.1
    have q2 := g1.2
    have q3 := a1.1
    have q4 := a1.2
    refine W.mn cx.1 cx.2.1 cx.2.2.2.1 (cx.2.2.2.2.1 _ h1) hS.2.2.1 (cx.2.2.2.2.1 _ h2) rfl hd rfl hin.1 hin.2.1 hin.2.2.1 hin.2.2.2 (by omega) (by omega) fun H1 cA cB f1 f2 z1 z2 z3 z4 => ?_
    have hA : cA = dA 106 := Option.some.inj (f1.symm.trans (hK.2 6 _ rfl).2)
    have hB : cB = dA 100 := Option.some.inj (f2.symm.trans (hK.2 0 _ rfl).2)
    subst hA
    subst hB
    have W1 : gW D dA b Hb (h.1 ++ (106, n.toNatClampNeg) :: List.replicate n.toNatClampNeg (100, k.toNatClampNeg), (fun q j => if h.1.length ≤ q then 0 else h.2.1 q j), fun q j => if q = h.1.length then (if j < n.toNatClampNeg then some (h.1.length + 1 + j) else none) else if h.1.length < q then none else h.2.2 q j) H1 := by
      obtain ⟨w1, w2, w3, w4⟩ := hW
      refine ⟨?_, w2, fun q hq => by rw [z2 q (by omega)]; exact w3 q hq, fun a t N he => ?_⟩
      · rw [z1, w1]
        show _ = b + (h.1 ++ (106, n.toNatClampNeg) :: List.replicate n.toNatClampNeg (100, k.toNatClampNeg)).length
        rw [List.length_append, List.length_cons, List.length_replicate]
        omega
      · have he : (h.1 ++ (106, n.toNatClampNeg) :: List.replicate n.toNatClampNeg (100, k.toNatClampNeg))[a]? = some (t, N) := he
        show gCell D dA b (fun j => if h.1.length ≤ a then (0 : Int32) else h.2.1 a j) (fun j => if a = h.1.length then (if j < n.toNatClampNeg then some (h.1.length + 1 + j) else none) else if h.1.length < a then none else h.2.2 a j) a t N H1
        by_cases c1 : a < h.1.length
        · rw [List.getElem?_append_left c1] at he
          simp only [show ¬ h.1.length ≤ a by omega, show ¬ a = h.1.length by omega, show ¬ h.1.length < a by omega, if_false]
          exact (w4 a t N he).kept (z2 _ (by omega))
        · rw [List.getElem?_append_right (by omega)] at he
          by_cases c2 : a = h.1.length
          · subst c2
            rw [Nat.sub_self] at he
            cases he
            unfold gCell
            rw [if_neg (by omega), if_neg (by omega), ← w1, z3]
            unfold mnO
            refine congrArg some (congrArg (arrV _ _) (funext fun j => ?_))
            dsimp only
            rw [if_pos rfl]
            by_cases c3 : j < n.toNatClampNeg
            · rw [if_pos c3, if_pos c3, w1]
              exact congrArg Value.ref (show b + h.1.length + 1 + j = b + (h.1.length + 1 + j) by omega)
            · rw [if_neg c3, if_neg c3]
              rfl
          · have e1 : a - h.1.length = (a - h.1.length - 1) + 1 := by omega
            rw [e1, List.getElem?_cons_succ, List.getElem?_replicate] at he
            split at he
            · rename_i c3
              cases he
              unfold gCell
              rw [if_neg (by omega), if_pos (by omega)]
              have e2 : b + a = H.size + 1 + (a - h.1.length - 1) := by omega
              rw [e2, z4 _ c3]
              unfold mnI
              refine congrArg some (congrArg (arrV _ _) (funext fun j => ?_))
              dsimp only
              rw [if_pos (by omega)]
            · cases he
    have w := g2 p e R s m args below meth c h0 cx ⟨by omega, by have := Nat.zero_le (n.toNatClampNeg * k.toNatClampNeg); omega⟩ a2 a3 H1 locs ls W1 hl hh
    have p1' : gc h - gc h0 + 1 + n.toNatClampNeg = gc h + 1 + n.toNatClampNeg - gc h0 := by omega
    have p2' : gs h - gs h0 + n.toNatClampNeg + n.toNatClampNeg * k.toNatClampNeg = gs h + n.toNatClampNeg + n.toNatClampNeg * k.toNatClampNeg - gs h0 := by omega
    have p3 : Value.ref H.size = Value.ref (b + h.1.length) := by rw [hW.1]
    rw [p1', p2', p3]
    rw [p1, p2] at w
    exact w
  · rw [gNewM, if_neg hin] at hg; cases hg

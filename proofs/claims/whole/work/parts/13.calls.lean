/-! ===== ends, starts, calls ===== -/
def gZm (D : va_G) (dA : Nat → ClassId) (b : Nat) (bs : gB) (Hb : Heap) {α : Type} (ρ : α → Option Value) : List Frame → Array Value → State → gH → α → gH → State → Prop := fun below args s h0 r h' => MQ below (gQc D dA b bs Hb h' (ρ r)) args s (gc h' - gc h0) (gs h' - gs h0) (fun q => b ≤ q)
/-- 0 or 1 -/
def mz (v : Int32) : gM Int32 := fun h => if v = 0 ∨ v = 1 then some (v, h) else none
/-- what is known of a method by the tables -/
def gMf (y : MethodName) (bytes : ByteArray) (maxL : Nat) (ret : Option FieldType) (n : Nat) : Prop := Cond.code y bytes maxL ret ∈ gT ∧ Cond.initialized y.cls ∈ gT ∧ (y.cls ≠ "java/lang/invoke/MethodHandle" ∧ y.cls ≠ "java/lang/invoke/VarHandle") ∧ (parseMethodDescriptor y.desc).map (fun d => d.parameters.length) = some n
section GC
variable {l : Launch} {D : va_G} {dA : Nat → ClassId} {b : Nat} {bs : gB} {Hb : Heap} {α β : Type} {Z : List Frame → Array Value → State → gH → α → gH → State → Prop}
variable {cc : ByteArray} {nL : Nat} {own nm : String} {ret : Option FieldType} {fr lo : Nat}
theorem gS.iret {pc : Nat} {L : List (Option Value)} (v : Int32) (hd : decode cc pc = .ok (.ireturn, 1)) : gS l D dA b bs Hb cc nL own nm (some .int) fr lo (gZm D dA b bs Hb rI) pc L [.int v] (mp v) := fun h r h' hf => by
  cases hf
  exact ⟨gLe.rf _, fun p e R s m args below meth c h0 cx a1 a2 a3 H locs ls hW hl hh => W.iret cx.1 cx.2.1 cx.2.2.2.2.2.2.1 (fun t ht _ => ⟨rfl, by rw [ht]; exact hW⟩) hl hd cx.2.2.2.2.2.2.2.1⟩
theorem gS.zret {pc : Nat} {L : List (Option Value)} (v : Int32) (hd : decode cc pc = .ok (.ireturn, 1)) : gS l D dA b bs Hb cc nL own nm (some .boolean) fr lo (gZm D dA b bs Hb rI) pc L [.int v] (mz v) := fun h r h' hf => by
  by_cases hv : v = 0 ∨ v = 1
  · rw [mz, if_pos hv] at hf
    cases hf
    exact ⟨gLe.rf _, fun p e R s m args below meth c h0 cx a1 a2 a3 H locs ls hW hl hh => W.zret cx.1 cx.2.1 cx.2.2.2.2.2.2.1 (by rcases hv with rfl | rfl <;> rfl) (fun t ht _ => ⟨rfl, by rw [ht]; exact hW⟩) hl hd cx.2.2.2.2.2.2.2.1⟩
  · rw [mz, if_neg hv] at hf; cases hf
theorem gS.vret {pc : Nat} {L : List (Option Value)} (hd : decode cc pc = .ok (.return_, 1)) : gS l D dA b bs Hb cc nL own nm none fr lo (gZm D dA b bs Hb rV) pc L [] (mp ()) := fun h r h' hf => by
  cases hf
  exact ⟨gLe.rf _, fun p e R s m args below meth c h0 cx a1 a2 a3 H locs ls hW hl hh => W.vret cx.1 cx.2.1 cx.2.2.2.2.2.2.1 (fun t ht _ => ⟨rfl, by rw [ht]; exact hW⟩) hl hd cx.2.2.2.2.2.2.2.1⟩
theorem gS.aretQ {pc : Nat} {L : List (Option Value)} (v : Option Nat) {rt : FieldType} (hrt : (∃ n, rt = .object n) ∨ ∃ t, rt = .array t) (hd : decode cc pc = .ok (.areturn, 1)) : gS l D dA b bs Hb cc nL own nm (some rt) fr lo (gZm D dA b bs Hb rQ) pc L [va_rf v] (mp v) := fun h r h' hf => by
  cases hf
  refine ⟨gLe.rf _, fun p e R s m args below meth c h0 cx a1 a2 a3 H locs ls hW hl hh => ?_⟩
  have e0 : [va_rf v].map (gtr b bs) = [gtr b bs (va_rf v)] := rfl
  rw [e0]
  exact W.aret cx.1 cx.2.1 cx.2.2.2.2.2.2.1 hrt (by rw [gtr_rf]; exact va_rf_or _) (fun t ht _ => ⟨rfl, by rw [ht]; exact hW⟩) hl hd cx.2.2.2.2.2.2.2.1
theorem gS.aretR {pc : Nat} {L : List (Option Value)} (v : Nat) {rt : FieldType} (hrt : (∃ n, rt = .object n) ∨ ∃ t, rt = .array t) (hd : decode cc pc = .ok (.areturn, 1)) : gS l D dA b bs Hb cc nL own nm (some rt) fr lo (gZm D dA b bs Hb rR) pc L [.ref v] (mp v) := fun h r h' hf => by
  cases hf
  refine ⟨gLe.rf _, fun p e R s m args below meth c h0 cx a1 a2 a3 H locs ls hW hl hh => ?_⟩
  exact W.aret (v := .ref (b + v)) cx.1 cx.2.1 cx.2.2.2.2.2.2.1 hrt (Or.inr ⟨_, rfl⟩) (fun t ht _ => ⟨rfl, by rw [ht]; exact hW⟩) hl hd cx.2.2.2.2.2.2.2.1
/-- the locals at a method's start -/
def gEf (av : List Value) : List (Option Value) := av.flatMap fun v => if v.category = 2 then [some v, none] else [some v]
def gEn (av : List Value) (nL : Nat) : List (Option Value) := gEf av ++ List.replicate (nL - (gEf av).length) none
theorem gtr_cat (v : Value) (h : ∀ x, v ≠ .double x) : (gtr b bs v).category = v.category := by
  cases v <;> rfl
def gLv (n : Nat) (l : List Value) : List (Nat × Value) := lv_args n l
theorem gEn_at : ∀ (av : List Value) (i n : Nat) (v : Value), (av.flatMap fun v => if v.category = 2 then [some v, none] else [some v])[i]? = some (some v) → (n + i, gtr b bs v) ∈ lv_args n (av.map (gtr b bs))
  | [], i, n, v, h => by simp at h
  | w :: r, i, n, v, h => by
    have hc : (gtr b bs w).category = w.category := by cases w <;> rfl
    show _ ∈ lv_args n (gtr b bs w :: r.map (gtr b bs))
    rw [List.flatMap_cons] at h
    by_cases h2 : w.category = 2
    · rw [if_pos h2] at h
      match i, h with
      | 0, h =>
        have e : w = v := by simpa using h
        subst e
        simp [lv_args]
      | 1, h => simp at h
      | i + 2, h =>
        have h3 : (r.flatMap fun v => if v.category = 2 then [some v, none] else [some v])[i]? = some (some v) := by simpa using h
        have h4 := gEn_at r i (n + 2) v h3
        have e : n + (i + 2) = n + 2 + i := by omega
        rw [e]
        simp only [lv_args, hc, h2]
        exact List.mem_cons_of_mem _ (by simpa using h4)
    · rw [if_neg h2] at h
      match i, h with
      | 0, h =>
        have e : w = v := by simpa using h
        subst e
        simp [lv_args]
      | i + 1, h =>
        have h3 : (r.flatMap fun v => if v.category = 2 then [some v, none] else [some v])[i]? = some (some v) := by simpa using h
        have h4 := gEn_at r i (n + 1) v h3
        have e : n + (i + 1) = n + 1 + i := by omega
        have hc1 : w.category = 1 := (lv_cat w).resolve_right h2
        rw [e]
        simp only [lv_args, hc, hc1]
        exact List.mem_cons_of_mem _ (by simpa using h4)
theorem gMt.of {ρ : α → Option Value} {y : MethodName} {av : List Value} {L : List (Option Value)} {f : gM α} (hy : plainName y.cls = true) (hL : gEn av nL = L) (hlen : (lg_sl (av.map (gtr b bs))).length ≤ nL)
    (k : gS l D dA b bs Hb cc nL y.cls y.name ret fr lo (gZm D dA b bs Hb ρ) 0 L [] f) : gMt l D dA b bs Hb y cc nL ret fr lo ρ av f := fun h r h' hf => by
  obtain ⟨g1, g2⟩ := k h r h' hf
  refine ⟨g1, Met.ofW (cc := cc) (maxL := nL) (ret := ret) hy rfl ?_⟩
  intro p e s m args below meth c s₁ B hml hv
  obtain ⟨rfl, hW, hK⟩ := hv
  have hts := atoms_spec (ws := .code y cc nL ret :: gT) B.pre
  have cx : gCx D dA b bs Hb p s m ((av.map (gtr b bs)).toArray) meth c cc nL y.cls y.name ret (headSpec (.code y cc nL ret :: gT) { frames := fr, cells := gc h' - gc h, slots := gs h' - gs h, locals := lo }).room fr lo :=
    ⟨B.exec, B.bytes, hml, findClass_of_methodNamed B.named, fun w hw => hts w (List.mem_cons_of_mem _ hw), hK, B.returns, B.notSynchronized, (name_of_methodNamed B.named B.method).1, rfl, rfl⟩
  have hl := lv_entry (av.map (gtr b bs)) (n := nL) hlen
  rw [lg_entry_eq]
  generalize (lg_sl (av.map (gtr b bs)) ++ List.replicate (nL - (lg_sl (av.map (gtr b bs))).length) Slot.unset).toArray = ls at hl ⊢
  have w := g2 p e _ s m _ below meth c h cx (gLe.rf _) (Nat.le_refl _) (Nat.le_refl _) s.heap [] ls hW (fun q hq => by cases hq) ⟨hl.1, hl.2.1, fun i v hi => by
    subst hL
    unfold gEn at hi
    rcases Nat.lt_or_ge i (gEf av).length with h1 | h1
    · rw [List.getElem?_append_left h1] at hi
      have := gEn_at (b := b) (bs := bs) av i 0 v hi
      rw [Nat.zero_add] at this
      exact hl.2.2 _ this
    · rw [List.getElem?_append_right h1, List.getElem?_replicate] at hi
      split at hi <;> simp at hi⟩
  rw [Nat.sub_self, Nat.sub_self] at w
  exact w
/-- a call: what the machine does, and what the function says -/
def gRun (l : Launch) (D : va_G) (dA : Nat → ClassId) (b : Nat) (bs : gB) (Hb : Heap) (cc : ByteArray) (nL : Nat) (own nm : String) (ret : Option FieldType) (fr lo pc : Nat) (st0 st : List Value) {β : Type} (ρ' : β → Option Value) (pre : gH → Prop) (g : gM β) : Prop :=
  ∀ (h : gH) (v : β) (h1 : gH), pre h → g h = some (v, h1) → gLe h h1 ∧ ∀ (p : Program) (e : Env) (R : Room) (s : State) (m : MethodId) (args : Array Value) (below : List Frame) (meth : Method) (c : Code), gCx D dA b bs Hb p s m args meth c cc nL own nm ret R fr lo →
    ∀ (H : Heap) (locs : List Loc) (ls : Array Slot) (cells slots : Nat), gW D dA b Hb h H → ls.size = nL → cells + (gc h1 - gc h) ≤ R.cells → slots + (gs h1 - gs h) ≤ R.slots →
      ∃ a' : Array Value, CallRun p l e R s m args below meth c H locs cells slots (gc h1 - gc h) (gs h1 - gs h) (F0 m pc ls (st0.map (gtr b bs))) (st.map (gtr b bs)) (gQc D dA b bs Hb h1 (ρ' v) a') (fun q => b ≤ q)
theorem gS.call {ρ' : β → Option Value} {pc : Nat} {L : List (Option Value)} {st0 st : List Value} {g : gM β} {kf : β → gM α} (hr : gRun l D dA b bs Hb cc nL own nm ret fr lo pc st0 st ρ' (fun _ => True) g)
    (kk : ∀ v : β, gS l D dA b bs Hb cc nL own nm ret fr lo Z (pc + 3) L ((ρ' v).toList ++ st) (kf v)) : gS l D dA b bs Hb cc nL own nm ret fr lo Z pc L st0 (mb g kf) := fun h r h' hf => by
  obtain ⟨v, h1, hg, hf⟩ := mb_spec hf
  obtain ⟨r1, r2⟩ := hr h v h1 trivial hg
  obtain ⟨g1, g2⟩ := kk v h1 r h' hf
  refine ⟨r1.tr g1, fun p e R s m args below meth c h0 cx a1 a2 a3 H locs ls hW hl hh => ?_⟩
  have q1 := r1.1
  have q2 := r1.2
  have q3 := g1.1
  have q4 := g1.2
  have q5 := a1.1
  have q6 := a1.2
  obtain ⟨a', hrun⟩ := r2 p e R s m args below meth c cx H locs ls (gc h - gc h0) (gs h - gs h0) hW hh.1 (by omega) (by omega)
  intro T hT X
  obtain ⟨v', st₀, t, T', L', e0, X', hL', e1, ⟨hv, hW1⟩, st'⟩ := hrun T hT X
  have hv : v' = (ρ' v).map (gtr b bs) := Outcome.returned.inj hv
  subst hv
  have w := g2 p e R s m args below meth c h0 cx (a1.tr r1) a2 a3 T'.heap (locs ++ L') ls (by rw [e1]; exact hW1) (fun q hq => (List.mem_append.mp hq).elim (hl q) (hL' q)) hh
  have p1 : gc h - gc h0 + (gc h1 - gc h) = gc h1 - gc h0 := by omega
  have p2 : gs h - gs h0 + (gs h1 - gs h) = gs h1 - gs h0 := by omega
  rw [p1, p2] at X'
  obtain ⟨t2, b1, b2⟩ := w T' rfl X'
  refine ⟨t2, st' t2 ?_, b2⟩
  have e2 : ((ρ' v).map (gtr b bs)).toList ++ st.map (gtr b bs) = ((ρ' v).toList ++ st).map (gtr b bs) := by
    cases ρ' v <;> simp
  rw [e2]
  exact b1
theorem gRun.mv {ρ' : β → Option Value} {pc : Nat} {st0 st : List Value} {g : gM β} {t a : Nat} (h : gRun l D dA b bs Hb cc nL own nm ret fr lo pc st0 st ρ' (fun h => ∃ n : Nat, h.1[a]? = some (t, n)) g) : gRun l D dA b bs Hb cc nL own nm ret fr lo pc st0 st ρ' (fun _ => True) (mv [t] a g) := fun h' v h1 _ hg => by
  obtain ⟨t', n, ha, ht, hg2⟩ := mv_spec hg
  have e : t' = t := by simpa using ht
  rw [e] at ha
  exact h h' v h1 ⟨n, ha⟩ hg2
/-- the function goes by the receiver's kind -/
def gVk {β : Type} (a : Nat) (cs : List (Nat × gM β)) : gM β := fun h => match h.1[a]? with
  | none => none
  | some q => match cs.find? (fun z => z.1 == q.1) with
    | none => none
    | some z => z.2 h
theorem gRun.vk {ρ' : β → Option Value} {pc : Nat} {st0 st : List Value} {a : Nat} {cs : List (Nat × gM β)} (h : ∀ z ∈ cs, gRun l D dA b bs Hb cc nL own nm ret fr lo pc st0 st ρ' (fun h => ∃ n : Nat, h.1[a]? = some (z.1, n)) z.2) : gRun l D dA b bs Hb cc nL own nm ret fr lo pc st0 st ρ' (fun _ => True) (gVk a cs) := fun h' v h1 _ hg => by
  unfold gVk at hg
  split at hg
  · cases hg
  · rename_i q hq
    split at hg
    · cases hg
    · rename_i z hz
      have hm := List.mem_of_find?_eq_some hz
      have e : z.1 = q.1 := by have := List.find?_some hz; simpa using this
      exact h z hm h' v h1 ⟨q.2, by rw [hq, e]⟩ hg
theorem gBlind {h : gH} {av : List Value} : FrameBlind (gPc D dA b bs Hb h av) := fun a U g mk q => ⟨q.1, q.2.1, gKn.same (s := U) (U := U.calling g mk a) rfl q.2.2⟩
theorem gRecv {h : gH} {H : Heap} {s : State} {a t n N : Nat} {C : String} {T : u_T} (hK : gKn D dA b bs Hb s) (hW : gW D dA b Hb h H) (ha : h.1[a]? = some (t, n)) (hC : gCls t C T N) : ∃ cellB : Cell, H[b + a]? = some cellB ∧ cellB.vm.isStatics = false ∧ s.vm.findClass C = some cellB.cls := by
  obtain ⟨cell, q1, q2, q3, -⟩ := hW.obj ha hC
  exact ⟨cell, q1, by rw [q3]; rfl, by rw [q2]; exact (hK.1.1 t _ hC.1).2.1⟩
theorem gCat {st : List Value} (h : st.length ≤ 4) : ((st.map (gtr b bs)).map fun v => v.category).sum ≤ 8 := by
  have : ∀ l : List Value, (l.map fun v => v.category).sum ≤ 2 * l.length := by
    intro l
    induction l with
    | nil => simp
    | cons v r ih =>
      have := lv_cat v
      simp only [List.map_cons, List.sum_cons, List.length_cons]
      omega
  have h1 := this (st.map (gtr b bs))
  rw [List.length_map] at h1
  omega
theorem gPay {s : State} {args : Array Value} (hts : ∀ w ∈ gT, w.before args s = true) {y : MethodName} {bytes : ByteArray} {maxL : Nat} {r : Option FieldType} (h : Cond.code y bytes maxL r ∈ gT) : ∀ w ∈ (.code y bytes maxL r :: gT : List Cond), ∀ (a' : Array Value) (U : State), s.WarmedH U.vm → w.before a' U = true := pay_in hts (gT_in h)
section RUNS
variable {ρ' : β → Option Value} {y : MethodName} {bytes : ByteArray} {maxL fr' lo' idx pc a t N : Nat} {ret' : Option FieldType} {g : gM β} {As st0 st : List Value} {C : String} {T : u_T}
theorem gRun.V (hM : gMt l D dA b bs Hb y bytes maxL ret' fr' lo' ρ' (.ref a :: As) g) (hf : gMf y bytes maxL ret' As.length) (hC : gCls t C T N) (h1 : Cond.methodLink own idx y ∈ gT) (h2 : Cond.instanceMethod y ∈ gT) (h3 : Cond.selects C y y ∈ gT)
    (hd : decode cc pc = .ok (.invokevirtual idx, 3)) (hst : st0 = As.reverse ++ .ref a :: st) (hl : st.length ≤ 4) (hfr : fr' + 1 ≤ fr) (hlo : 8 + (maxL + 11) + lo' ≤ lo) : gRun l D dA b bs Hb cc nL own nm ret fr lo pc st0 st ρ' (fun h => ∃ n : Nat, h.1[a]? = some (t, n)) g := fun h v h1' ⟨n, ha⟩ hg => by
  obtain ⟨m1, m2⟩ := hM h v h1' hg
  refine ⟨m1, fun p e R s m args below meth c cx H locs ls cells slots hW hls hc hs => ?_⟩
  obtain ⟨hx, hb, hml, hown, hts, hK, hr, hlk, hnm, hRf, hRl⟩ := cx
  subst hst
  exact ⟨_, W.runV (Ts := gT) (C := C) (As := As.map (gtr b bs)) ⟨hx, hb, hml, hown, hts⟩ m2 ⟨callB_of (ws' := gT) _ hts (gT_in hf.1) rfl rfl rfl (hts _ hf.2.1) (hts _ h1) ⟨hf.2.2.1.1, hf.2.2.1.2, hf.2.2.2⟩ ⟨by show fr' + 1 ≤ _; omega, by show 8 + (maxL + 11) + lo' ≤ _; omega⟩, hts _ h2, hts _ h3⟩ ⟨gBlind, gRecv hK hW ha hC, fun U hU hWm => ⟨by simp [gtr], by rw [hU]; exact hW, gKn.warm hWm hK⟩⟩ rfl (by simp) hls (by simp [gtr]) (lv_room (gCat hl)) hd ⟨hc, hs⟩⟩
theorem gRun.S (hM : gMt l D dA b bs Hb y bytes maxL ret' fr' lo' ρ' As g) (hf : gMf y bytes maxL ret' As.length) (h1 : Cond.methodLink own idx y ∈ gT) (h2 : Cond.static y ∈ gT)
    (hd : decode cc pc = .ok (.invokestatic idx, 3)) (hst : st0 = As.reverse ++ st) (hl : st.length ≤ 4) (hfr : fr' + 1 ≤ fr) (hlo : 8 + (maxL + 11) + lo' ≤ lo) : gRun l D dA b bs Hb cc nL own nm ret fr lo pc st0 st ρ' (fun _ => True) g := fun h v h1' _ hg => by
  obtain ⟨m1, m2⟩ := hM h v h1' hg
  refine ⟨m1, fun p e R s m args below meth c cx H locs ls cells slots hW hls hc hs => ?_⟩
  obtain ⟨hx, hb, hml, hown, hts, hK, hr, hlk, hnm, hRf, hRl⟩ := cx
  subst hst
  exact ⟨_, W.runS (Ts := gT) (As := As.map (gtr b bs)) ⟨hx, hb, hml, hown, hts⟩ m2 ⟨callB_of (ws' := gT) _ hts (gT_in hf.1) rfl rfl rfl (hts _ hf.2.1) (hts _ h1) ⟨hf.2.2.1.1, hf.2.2.1.2, hf.2.2.2⟩ ⟨by show fr' + 1 ≤ _; omega, by show 8 + (maxL + 11) + lo' ≤ _; omega⟩, hts _ h2⟩ ⟨gBlind, fun U hU hWm => ⟨rfl, by rw [hU]; exact hW, gKn.warm hWm hK⟩⟩ rfl (by simp) hls (by simp) (lv_room (gCat hl)) hd ⟨hc, hs⟩⟩
theorem gRun.I {ρ' : Unit → Option Value} {g : gM Unit} (hM : gMt l D dA b bs Hb y bytes maxL none fr' lo' ρ' (.ref a :: As) g) (hf : gMf y bytes maxL none As.length) (h1 : Cond.methodLink own idx y ∈ gT) (h2 : Cond.instanceMethod y ∈ gT) (hn : y.name = "<init>")
    (hd : decode cc pc = .ok (.invokespecial idx, 3)) (hst : st0 = As.reverse ++ .ref a :: st) (hl : st.length ≤ 4) (hfr : fr' + 1 ≤ fr) (hlo : 8 + (maxL + 11) + lo' ≤ lo) : gRun l D dA b bs Hb cc nL own nm ret fr lo pc st0 st ρ' (fun _ => True) g := fun h v h1' _ hg => by
  obtain ⟨m1, m2⟩ := hM h v h1' hg
  refine ⟨m1, fun p e R s m args below meth c cx H locs ls cells slots hW hls hc hs => ?_⟩
  obtain ⟨hx, hb, hml, hown, hts, hK, hr, hlk, hnm, hRf, hRl⟩ := cx
  subst hst
  exact ⟨_, W.runI (Ts := gT) (b := b + a) (As := As.map (gtr b bs)) ⟨hx, hb, hml, hown, hts⟩ m2 ⟨callB_of (ws' := gT) _ hts (gT_in hf.1) rfl rfl rfl (hts _ hf.2.1) (hts _ h1) ⟨hf.2.2.1.1, hf.2.2.1.2, hf.2.2.2⟩ ⟨by show fr' + 1 ≤ _; omega, by show 8 + (maxL + 11) + lo' ≤ _; omega⟩, hn, hts _ h2⟩ ⟨gBlind, fun U hU hWm => ⟨by simp [gtr], by rw [hU]; exact hW, gKn.warm hWm hK⟩⟩ rfl (by simp) hls (by simp [gtr]) (lv_room (gCat hl)) hd ⟨hc, hs⟩⟩
/-- a nest mate's private constructor -/
theorem gRun.IN {host : String} {ρ' : Unit → Option Value} {g : gM Unit} (hM : gMt l D dA b bs Hb y bytes maxL none fr' lo' ρ' (.ref a :: As) g) (hf : gMf y bytes maxL none As.length) (h1 : Cond.methodLinkNest own idx y host ∈ gNest) (h2 : Cond.instanceMethod y ∈ gT) (hn : y.name = "<init>")
    (hd : decode cc pc = .ok (.invokespecial idx, 3)) (hst : st0 = As.reverse ++ .ref a :: st) (hl : st.length ≤ 4) (hfr : fr' + 1 ≤ fr) (hlo : 8 + (maxL + 11) + lo' ≤ lo) : gRun l D dA b bs Hb cc nL own nm ret fr lo pc st0 st ρ' (fun _ => True) g := fun h v h1'' _ hg => by
  obtain ⟨m1, m2⟩ := hM h v h1'' hg
  refine ⟨m1, fun p e R s m args below meth c cx H locs ls cells slots hW hls hc hs => ?_⟩
  obtain ⟨hx, hb, hml, hown, hts, hK, hr, hlk, hnm, hRf, hRl⟩ := cx
  subst hst
  exact ⟨_, (va_runIN (Ts := gT) (b := b + a) (As := As.map (gtr b bs)) ⟨hx, hb, hml, hown, hts⟩ m2 ⟨va_cnB (ws' := gT) _ hts (gT_in hf.1) rfl rfl rfl (hK.2.1 _ h1) (hts _ hf.2.1) ⟨hf.2.2.1.1, hf.2.2.1.2, hf.2.2.2⟩ ⟨by show fr' + 1 ≤ _; omega, by show 8 + (maxL + 11) + lo' ≤ _; omega⟩, hn, hts _ h2⟩ ⟨gBlind, fun U hU hWm => ⟨by simp [gtr], by rw [hU]; exact hW, gKn.warm hWm hK⟩⟩ rfl (by simp) hls (by simp [gtr]) (lv_room (gCat hl)) hd ⟨hc, hs⟩).run⟩
/-- what the reference names is x; the receiver's class takes y -/
theorem gRun.U {x : MethodName} {owner : String} {b0 : ByteArray} {m0 : Nat} {r0 : Option FieldType} (hM : gMt l D dA b bs Hb y bytes maxL ret' fr' lo' ρ' (.ref a :: As) g) (hf : gMf y bytes maxL ret' As.length) (hC : gCls t C T N) (h1 : Cond.methodLink own idx x ∈ gT) (h2 : Cond.sameMethod x.cls owner x.name x.desc ∈ gT) (h3 : Cond.selects C x y ∈ gT) (h4 : Cond.instanceMethod y ∈ gT) (h5 : Cond.instanceMethod ⟨owner, x.name, x.desc⟩ ∈ gT) (h6 : Cond.code ⟨owner, x.name, x.desc⟩ b0 m0 r0 ∈ gT) (ho : owner ≠ "java/lang/invoke/MethodHandle" ∧ owner ≠ "java/lang/invoke/VarHandle") (hnp : (parseMethodDescriptor x.desc).map (fun d => d.parameters.length) = some As.length)
    (hd : decode cc pc = .ok (.invokevirtual idx, 3)) (hst : st0 = As.reverse ++ .ref a :: st) (hl : st.length ≤ 4) (hfr : fr' + 1 ≤ fr) (hlo : 8 + (maxL + 11) + lo' ≤ lo) : gRun l D dA b bs Hb cc nL own nm ret fr lo pc st0 st ρ' (fun h => ∃ n : Nat, h.1[a]? = some (t, n)) g := fun h v h1' ⟨n, ha⟩ hg => by
  obtain ⟨m1, m2⟩ := hM h v h1' hg
  refine ⟨m1, fun p e R s m args below meth c cx H locs ls cells slots hW hls hc hs => ?_⟩
  obtain ⟨hx, hb, hml, hown, hts, hK, hr, hlk, hnm, hRf, hRl⟩ := cx
  subst hst
  have hsg : ∀ sig, parseMethodDescriptor x.desc = some sig → As.length = sig.parameters.length := fun sig h => by
    have h2 := hnp
    rw [h] at h2
    exact (Option.some.inj h2).symm
  exact ⟨_, (va_runU (Ts := gT) (C := C) (owner := owner) (x := x) (b := b + a) (As := As.map (gtr b bs)) ⟨hx, hb, hml, hown, hts⟩ m2 ⟨⟨rfl, rfl, by show fr' + 1 ≤ _; omega, by show 8 + (maxL + 11) + lo' ≤ _; omega, gPay hts hf.1, List.mem_cons_self⟩, hts _ hf.1, hts _ hf.2.1, ho, hsg, hts _ h1, hts _ h2, va_Decl.of (hts _ h5) (hts _ h6), hts _ h3, hts _ h4⟩ ⟨gBlind, gRecv hK hW ha hC, fun U hU hWm => ⟨by simp [gtr], by rw [hU]; exact hW, gKn.warm hWm hK⟩⟩ rfl (List.length_map _) hls (by simp [gtr]) (lv_room (gCat hl)) hd ⟨hc, hs⟩).run⟩
/-- super.y() -/
theorem gRun.SU (hM : gMt l D dA b bs Hb y bytes maxL ret' fr' lo' ρ' (.ref a :: As) g) (hf : gMf y bytes maxL ret' As.length) (hC : gCls t C T N) (h1 : Cond.methodLink own idx y ∈ gT) (h2 : Cond.sameMethod y.cls y.cls y.name y.desc ∈ gT) (h3 : Cond.superclass own y.cls ∈ gT) (h4 : Cond.instanceMethod y ∈ gT) (hn : y.name ≠ "<init>")
    (hd : decode cc pc = .ok (.invokespecial idx, 3)) (hst : st0 = As.reverse ++ .ref a :: st) (hl : st.length ≤ 4) (hfr : fr' + 1 ≤ fr) (hlo : 8 + (maxL + 11) + lo' ≤ lo) : gRun l D dA b bs Hb cc nL own nm ret fr lo pc st0 st ρ' (fun h => ∃ n : Nat, h.1[a]? = some (t, n)) g := fun h v h1' ⟨n, ha⟩ hg => by
  obtain ⟨m1, m2⟩ := hM h v h1' hg
  refine ⟨m1, fun p e R s m args below meth c cx H locs ls cells slots hW hls hc hs => ?_⟩
  obtain ⟨hx, hb, hml, hown, hts, hK, hr, hlk, hnm, hRf, hRl⟩ := cx
  subst hst
  have hsg : ∀ sig, parseMethodDescriptor y.desc = some sig → As.length = sig.parameters.length := fun sig h => by
    have h2 := hf.2.2.2
    rw [h] at h2
    exact (Option.some.inj h2).symm
  exact ⟨_, (va_runSU (Ts := gT) (C := C) (b := b + a) (As := As.map (gtr b bs)) (hK.1.1 t _ hC.1).2 ⟨hx, hb, hml, hown, hts⟩ m2 ⟨⟨rfl, rfl, by show fr' + 1 ≤ _; omega, by show 8 + (maxL + 11) + lo' ≤ _; omega, gPay hts hf.1, List.mem_cons_self⟩, hts _ h1, hts _ h2, hts _ h3, hts _ h4, hts _ hf.2.1, hts _ hf.1, hn, hsg⟩ ⟨gBlind, gRecv hK hW ha hC, fun U hU hWm => ⟨by simp [gtr], by rw [hU]; exact hW, gKn.warm hWm hK⟩⟩ rfl (List.length_map _) hls (by simp [gtr]) (lv_room (gCat hl)) hd ⟨hc, hs⟩).run⟩
end RUNS
end GC

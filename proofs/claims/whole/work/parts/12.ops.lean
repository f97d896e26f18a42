/-! ===== arrays, new cells, ends ===== -/
theorem gTys_i {dA : Nat → ClassId} : (gTys dA)[0]? = some (dA 100, .int) := rfl
theorem gNb (x : Int32) : narrow .byte (.int x) = .int (vp_nar .byte x) := by
  simp [vp_nar, narrow]
section GA
variable {p : Program} {l : Launch} {e : Env} {R : Room} {s : State} {m : MethodId} {args : Array Value} {below : List Frame} {meth : Method} {c : Code}
variable {D : va_G} {dA : Nat → ClassId} {b : Nat} {bs : gB} {Hb : Heap} {α : Type} {Z : List Frame → Array Value → State → gH → α → gH → State → Prop}
variable {cc : ByteArray} {nL : Nat} {own nm : String} {ret : Option FieldType} {fr lo : Nat}
theorem gS.iald {pc : Nat} {L : List (Option Value)} {st : List Value} {f : Int32 → gM α} {a : Nat} {i : Int32} (hd : decode cc pc = .ok (.iaload, 1))
    (kk : ∀ v : Int32, gS l D dA b bs Hb cc nL own nm ret fr lo Z (pc + 1) L (.int v :: st) (f v)) : gS l D dA b bs Hb cc nL own nm ret fr lo Z pc L (.int i :: .ref a :: st) (mb (gLdI 100 a i) f) := fun h r h' hf => by
  obtain ⟨v, h1, hg, hf⟩ := mb_spec hf
  obtain ⟨n, ha, hin, hg⟩ := mi_spec hg
  cases hg
  obtain ⟨g1, g2⟩ := kk _ h r h' hf
  have hlt : i.toNatClampNeg < n := Nat.not_le.mp fun q => hin (Or.inr q)
  refine ⟨g1, fun p e R s m args below meth c h0 cx a1 a2 a3 H locs ls hW hl hh => ?_⟩
  have hK := cx.2.2.2.2.2.1.1
  exact W.iald (v := .int (h.2.1 a i.toNatClampNeg)) cx.1 cx.2.1 (hW.arrI ha (by omega) (by omega)) ((hK.2 0 _ rfl).1 n (fun j => .int (h.2.1 a j))) (fun q => by cases q) (by rw [arrV_size]; exact hin) (by rw [arrV_read _ _ hlt]) rfl rfl hd (g2 p e R s m args below meth c h0 cx a1 a2 a3 H locs ls hW hl hh)
theorem gS.bald {pc : Nat} {L : List (Option Value)} {st : List Value} {f : Int32 → gM α} {a : Nat} {i : Int32} (hd : decode cc pc = .ok (.baload, 1))
    (kk : ∀ v : Int32, gS l D dA b bs Hb cc nL own nm ret fr lo Z (pc + 1) L (.int v :: st) (f v)) : gS l D dA b bs Hb cc nL own nm ret fr lo Z pc L (.int i :: .ref a :: st) (mb (gLdI 101 a i) f) := fun h r h' hf => by
  obtain ⟨v, h1, hg, hf⟩ := mb_spec hf
  obtain ⟨n, ha, hin, hg⟩ := mi_spec hg
  cases hg
  obtain ⟨g1, g2⟩ := kk _ h r h' hf
  have hlt : i.toNatClampNeg < n := Nat.not_le.mp fun q => hin (Or.inr q)
  refine ⟨g1, fun p e R s m args below meth c h0 cx a1 a2 a3 H locs ls hW hl hh => ?_⟩
  have hK := cx.2.2.2.2.2.1.1
  exact W.bald (v := .int (h.2.1 a i.toNatClampNeg)) cx.1 cx.2.1 (hW.arrI ha (by omega) (by omega)) ((hK.2 1 _ rfl).1 n (fun j => .int (h.2.1 a j))) (fun q => by cases q) (by rw [arrV_size]; exact hin) (by rw [arrV_read _ _ hlt]) rfl rfl hd (g2 p e R s m args below meth c h0 cx a1 a2 a3 H locs ls hW hl hh)
theorem gLocs {b a k : Nat} {locs : List Loc} (h : ∀ q ∈ locs, b ≤ q.base) : ∀ q ∈ locs ++ [(⟨b + a, k⟩ : Loc)], b ≤ q.base := by
  intro q hq
  rcases List.mem_append.mp hq with h1 | h1
  · exact h q h1
  · rw [List.mem_singleton.mp h1]; exact Nat.le_add_right _ _
theorem gS.iast {pc : Nat} {L : List (Option Value)} {st : List Value} {f : gM α} {a : Nat} {i v : Int32} (hd : decode cc pc = .ok (.iastore, 1))
    (kk : gS l D dA b bs Hb cc nL own nm ret fr lo Z (pc + 1) L st f) : gS l D dA b bs Hb cc nL own nm ret fr lo Z pc L (.int v :: .int i :: .ref a :: st) (mb (gStI 100 a i v) fun _ => f) := fun h r h' hf => by
  obtain ⟨_, h1, hg, hf⟩ := mb_spec hf
  obtain ⟨n, ha, hin, hg⟩ := mi_spec hg
  cases hg
  obtain ⟨g1, g2⟩ := kk _ r h' hf
  refine ⟨g1, fun p e R s m args below meth c h0 cx a1 a2 a3 H locs ls hW hl hh => ?_⟩
  have hK := cx.2.2.2.2.2.1.1
  refine W.iast cx.1 cx.2.1 (hW.arrI ha (by omega) (by omega)) ((hK.2 0 _ rfl).1 n (fun j => .int (h.2.1 a j))) (fun q => by cases q) (by rw [arrV_size]; exact hin) rfl rfl hd fun H1 e1 e2 e3 => ?_
  refine g2 p e R s m args below meth c h0 cx a1 a2 a3 H1 _ ls (hW.set ha (fun q hq => u2_ne _ _ _ _ hq) (fun _ _ => rfl) e2 e3 ?_) (gLocs hl) hh
  unfold gCell
  rw [if_neg (by omega), if_pos (by omega), e1, arrV_store]
  congr 2
  funext j
  by_cases hj : j = i.toNatClampNeg <;> simp [updV, u2, hj, gtr]
/-- a row of bytes keeps the lowest eight bits -/
def gStB (a : Nat) (i v : Int32) : gM Unit := gStI 101 a i (vp_nar .byte v)
theorem gS.bast {pc : Nat} {L : List (Option Value)} {st : List Value} {f : gM α} {a : Nat} {i v : Int32} (hd : decode cc pc = .ok (.bastore, 1))
    (kk : gS l D dA b bs Hb cc nL own nm ret fr lo Z (pc + 1) L st f) : gS l D dA b bs Hb cc nL own nm ret fr lo Z pc L (.int v :: .int i :: .ref a :: st) (mb (gStB a i v) fun _ => f) := fun h r h' hf => by
  obtain ⟨_, h1, hg, hf⟩ := mb_spec hf
  have hg : gStI 101 a i (vp_nar .byte v) h = _ := hg
  obtain ⟨n, ha, hin, hg⟩ := mi_spec hg
  cases hg
  obtain ⟨g1, g2⟩ := kk _ r h' hf
  refine ⟨g1, fun p e R s m args below meth c h0 cx a1 a2 a3 H locs ls hW hl hh => ?_⟩
  have hK := cx.2.2.2.2.2.1.1
  refine W.bast cx.1 cx.2.1 (hW.arrI ha (by omega) (by omega)) ((hK.2 1 _ rfl).1 n (fun j => .int (h.2.1 a j))) (fun q => by cases q) (by rw [arrV_size]; exact hin) rfl rfl hd fun H1 e1 e2 e3 => ?_
  refine g2 p e R s m args below meth c h0 cx a1 a2 a3 H1 _ ls (hW.set ha (fun q hq => u2_ne _ _ _ _ hq) (fun _ _ => rfl) e2 e3 ?_) (gLocs hl) hh
  unfold gCell
  rw [if_neg (by omega), if_pos (by omega), e1, gNb, arrV_store]
  congr 2
  funext j
  by_cases hj : j = i.toNatClampNeg <;> simp [updV, u2, hj]
/-- rows of places: kind 102 and on -/
theorem gS.aald {pc : Nat} {L : List (Option Value)} {st : List Value} {f : Nat → gM α} {t a : Nat} {i : Int32} (ht : 102 ≤ t ∧ t ≤ 106) (hd : decode cc pc = .ok (.aaload, 1))
    (kk : ∀ v : Nat, gS l D dA b bs Hb cc nL own nm ret fr lo Z (pc + 1) L (.ref v :: st) (f v)) : gS l D dA b bs Hb cc nL own nm ret fr lo Z pc L (.int i :: .ref a :: st) (mb (gLdR t a i) f) := fun h r h' hf => by
  obtain ⟨v, h1, hg, hf⟩ := mb_spec hf
  obtain ⟨n, ha, hin, hg⟩ := mi_spec hg
  cases hz : h.2.2 a i.toNatClampNeg with
  | none => rw [hz] at hg; cases hg
  | some y =>
    rw [hz] at hg
    cases hg
    obtain ⟨g1, g2⟩ := kk _ h r h' hf
    have hlt : i.toNatClampNeg < n := Nat.not_le.mp fun q => hin (Or.inr q)
    refine ⟨g1, fun p e R s m args below meth c h0 cx a1 a2 a3 H locs ls hW hl hh => ?_⟩
    have hK := cx.2.2.2.2.2.1.1
    have hT : ∃ (k : Nat) (ty : FieldType), (gTys dA)[k]? = some (dA t, ty) ∧ ty.isReference = true := by
      rcases (by omega : t = 102 ∨ t = 103 ∨ t = 104 ∨ t = 105 ∨ t = 106) with rfl | rfl | rfl | rfl | rfl
      · exact ⟨2, _, rfl, rfl⟩
      · exact ⟨3, _, rfl, rfl⟩
      · exact ⟨4, _, rfl, rfl⟩
      · exact ⟨5, _, rfl, rfl⟩
      · exact ⟨6, _, rfl, rfl⟩
    obtain ⟨k, ty, hk, hrf⟩ := hT
    exact W.aald (v := .ref (b + v)) cx.1 cx.2.1 (hW.arrR ha ht.1) ((hK.2 k _ hk).1 n (fun j => va_rf (gAd b (h.2.2 a j)))) hrf (fun q => by cases q) (by rw [arrV_size]; exact hin) (by rw [arrV_read _ _ hlt, hz]; rfl) rfl rfl hd (g2 p e R s m args below meth c h0 cx a1 a2 a3 H locs ls hW hl hh)
theorem gS.alen {pc : Nat} {L : List (Option Value)} {st : List Value} {f : Int32 → gM α} {a : Nat} (hd : decode cc pc = .ok (.arraylength, 1))
    (kk : ∀ v : Int32, gS l D dA b bs Hb cc nL own nm ret fr lo Z (pc + 1) L (.int v :: st) (f v)) : gS l D dA b bs Hb cc nL own nm ret fr lo Z pc L (.ref a :: st) (mb (mv [100] a (gLen a)) f) := fun h r h' hf => by
  obtain ⟨v, h1, hg, hf⟩ := mb_spec hf
  obtain ⟨t, n, ha, ht, hg⟩ := mv_spec hg
  have ht : t = 100 := by simpa using ht
  subst ht
  simp only [gLen, ha] at hg
  cases hg
  obtain ⟨g1, g2⟩ := kk _ h r h' hf
  refine ⟨g1, fun p e R s m args below meth c h0 cx a1 a2 a3 H locs ls hW hl hh => ?_⟩
  have hK := cx.2.2.2.2.2.1.1
  exact W.alen cx.1 cx.2.1 (hW.arrI ha (by omega) (by omega)) ((hK.2 0 _ rfl).1 n (fun j => .int (h.2.1 a j))) (by rw [arrV_size]) rfl rfl hd (g2 p e R s m args below meth c h0 cx a1 a2 a3 H locs ls hW hl hh)
theorem gc_push (h : gH) (t n : Nat) (x : Nat → Nat → Int32) (y : Nat → Nat → Option Nat) : gc (h.1 ++ [(t, n)], x, y) = gc h + 1 ∧ gs (h.1 ++ [(t, n)], x, y) = gs h + n := by
  simp [gc, gs]
theorem gS.anew {pc : Nat} {L : List (Option Value)} {st : List Value} {f : Nat → gM α} {n : Int32} (hc : Cond.arrayClass .int ∈ gT) (hd : decode cc pc = .ok (.newarray .int, 2))
    (kk : ∀ v : Nat, gS l D dA b bs Hb cc nL own nm ret fr lo Z (pc + 2) L (.ref v :: st) (f v)) : gS l D dA b bs Hb cc nL own nm ret fr lo Z pc L (.int n :: st) (mb (gNewA 100 n) f) := fun h r h' hf => by
  obtain ⟨v, h1, hg, hf⟩ := mb_spec hf
  by_cases hn : ¬ n < 0 ∧ n.toNatClampNeg ≤ 100000
  · rw [gNewA, if_pos hn] at hg
    cases hg
    obtain ⟨g1, g2⟩ := kk _ _ r h' hf
    obtain ⟨p1, p2⟩ := gc_push h 100 n.toNatClampNeg (fun q j => if q = h.1.length then 0 else h.2.1 q j) (fun q j => if q = h.1.length then none else h.2.2 q j)
    have g1' : gLe h h' := ⟨by have := g1.1; omega, by have := g1.2; omega⟩
    refine ⟨g1', fun p e R s m args below meth c h0 cx a1 a2 a3 H locs ls hW hl hh => ?_⟩
    have hK := cx.2.2.2.2.2.1.1
    have q1 := g1.1
    have q2 := g1.2
    have q3 := a1.1
    have q4 := a1.2
    refine va_newaK cx.1 cx.2.1 (atype := .int) (cx.2.2.2.2.1 _ hc) rfl hd rfl hn.1 rfl (by show n.toNatClampNeg * 4 ≤ _; omega) (by omega) (by omega) hW.1 fun H1 cA e1 e2 e3 e4 e5 => ?_
    have hcA : cA = dA 100 := by
      have h1 := (hK.2 0 _ rfl).2
      exact Option.some.inj (e5.symm.trans h1)
    subst hcA
    have w := g2 p e R s m args below meth c h0 cx ⟨by omega, by omega⟩ a2 a3 H1 locs ls (hW.push (t := 100) (n := n.toNatClampNeg) (by rw [e2, hW.1]) (fun q hq => e3 q (by rw [← hW.1]; exact hq)) (by unfold gCell; rw [if_neg (by omega), if_pos (by omega)]; exact e1)) hl hh
    have p1' : gc h - gc h0 + 1 = gc h + 1 - gc h0 := by omega
    have p2' : gs h - gs h0 + n.toNatClampNeg = gs h + n.toNatClampNeg - gs h0 := by omega
    rw [p1', p2']
    rw [p1, p2] at w
    exact w
  · rw [gNewA, if_neg hn] at hg; cases hg
theorem gS.bnew {pc : Nat} {L : List (Option Value)} {st : List Value} {f : Nat → gM α} {n : Int32} (hc : Cond.arrayClass .byte ∈ gT) (hd : decode cc pc = .ok (.newarray .byte, 2))
    (kk : ∀ v : Nat, gS l D dA b bs Hb cc nL own nm ret fr lo Z (pc + 2) L (.ref v :: st) (f v)) : gS l D dA b bs Hb cc nL own nm ret fr lo Z pc L (.int n :: st) (mb (gNewA 101 n) f) := fun h r h' hf => by
  obtain ⟨v, h1, hg, hf⟩ := mb_spec hf
  by_cases hn : ¬ n < 0 ∧ n.toNatClampNeg ≤ 100000
  · rw [gNewA, if_pos hn] at hg
    cases hg
    obtain ⟨g1, g2⟩ := kk _ _ r h' hf
    obtain ⟨p1, p2⟩ := gc_push h 101 n.toNatClampNeg (fun q j => if q = h.1.length then 0 else h.2.1 q j) (fun q j => if q = h.1.length then none else h.2.2 q j)
    have g1' : gLe h h' := ⟨by have := g1.1; omega, by have := g1.2; omega⟩
    refine ⟨g1', fun p e R s m args below meth c h0 cx a1 a2 a3 H locs ls hW hl hh => ?_⟩
    have hK := cx.2.2.2.2.2.1.1
    have q1 := g1.1
    have q2 := g1.2
    have q3 := a1.1
    have q4 := a1.2
    refine va_newaK cx.1 cx.2.1 (atype := .byte) (cx.2.2.2.2.1 _ hc) rfl hd rfl hn.1 rfl (by show n.toNatClampNeg * 1 ≤ _; omega) (by omega) (by omega) hW.1 fun H1 cA e1 e2 e3 e4 e5 => ?_
    have hcA : cA = dA 101 := by
      have h1 := (hK.2 1 _ rfl).2
      exact Option.some.inj (e5.symm.trans h1)
    subst hcA
    have w := g2 p e R s m args below meth c h0 cx ⟨by omega, by omega⟩ a2 a3 H1 locs ls (hW.push (t := 101) (n := n.toNatClampNeg) (by rw [e2, hW.1]) (fun q hq => e3 q (by rw [← hW.1]; exact hq)) (by unfold gCell; rw [if_neg (by omega), if_pos (by omega)]; exact e1)) hl hh
    have p1' : gc h - gc h0 + 1 = gc h + 1 - gc h0 := by omega
    have p2' : gs h - gs h0 + n.toNatClampNeg = gs h + n.toNatClampNeg - gs h0 := by omega
    rw [p1', p2']
    rw [p1, p2] at w
    exact w
  · rw [gNewA, if_neg hn] at hg; cases hg
/-- a new object -/
theorem gS.new {pc idx : Nat} {L : List (Option Value)} {st : List Value} {f : Nat → gM α} {t N : Nat} {C : String} {T : u_T} (hC : gCls t C T N) (h1 : Cond.classLink own idx C ∈ gT) (h2 : Cond.instantiable C N ∈ gT) (h3 : Cond.initialized C ∈ gT) (hd : decode cc pc = .ok (.new idx, 3))
    (hz : ∀ j, j < N → defaultValue (gFt t j) = gV 0 (gFt t) (fun _ => 0) (fun _ => none) j)
    (kk : ∀ v : Nat, gS l D dA b bs Hb cc nL own nm ret fr lo Z (pc + 3) L (.ref v :: st) (f v)) : gS l D dA b bs Hb cc nL own nm ret fr lo Z pc L st (mb (gNew t N) f) := fun h r h' hf => by
  obtain ⟨v, h1', hg, hf⟩ := mb_spec hf
  cases hg
  obtain ⟨g1, g2⟩ := kk _ _ r h' hf
  obtain ⟨p1, p2⟩ := gc_push h t N (fun q j => if q = h.1.length then 0 else h.2.1 q j) (fun q j => if q = h.1.length then none else h.2.2 q j)
  have g1' : gLe h h' := ⟨by have := g1.1; omega, by have := g1.2; omega⟩
  refine ⟨g1', fun p e R s m args below meth c h0 cx a1 a2 a3 H locs ls hW hl hh => ?_⟩
  obtain ⟨hx, hb, hml, hown, hts, ⟨hK, -⟩, -⟩ := id cx
  have q1 := g1.1
  have q2 := g1.2
  have q3 := a1.1
  have q4 := a1.2
  have hKn := hK.1 t _ hC.1
  refine W.newcK hx hb hown (hts _ h1) (hts _ h2) (hts _ h3) rfl hd (by omega) (by omega) hKn.2.1 hW.1 fun H1 kC hkC e1 e2 e3 => ?_
  have w := g2 p e R s m args below meth c h0 cx ⟨by omega, by omega⟩ a2 a3 H1 locs ls (hW.push (t := t) (n := N) (by rw [e2, hW.1]) (fun q hq => e3 q (by rw [← hW.1]; exact hq)) (by
    unfold gCell
    rw [if_pos hC.2.2.2.2]
    exact ⟨_, hC.1, (u_born (gFt t) hts hC.2.1 hKn hkC e1 hC.2.2.1).to fun j hj => by rw [hz j hj]; simp [gV, gAd]⟩)) hl hh
  have p1' : gc h - gc h0 + 1 = gc h + 1 - gc h0 := by omega
  have p2' : gs h - gs h0 + N = gs h + N - gs h0 := by omega
  rw [p1', p2']
  rw [p1, p2] at w
  exact w
/-- Object's constructor -/
theorem gS.objInit {pc idx : Nat} {L : List (Option Value)} {st : List Value} {f : gM α} {a : Nat} (h1 : Cond.methodLink own idx objectInit ∈ gT) (h2 : Cond.instanceMethod objectInit ∈ gT) (h3 : Cond.code objectInit ⟨#[0xb1]⟩ 1 none ∈ gT) (hd : decode cc pc = .ok (.invokespecial idx, 3)) (hst : st = []) (hfr : 1 ≤ fr) (hlo : 12 ≤ lo)
    (kk : gS l D dA b bs Hb cc nL own nm ret fr lo Z (pc + 3) L st f) : gS l D dA b bs Hb cc nL own nm ret fr lo Z pc L (.ref a :: st) f := by
  subst hst
  exact gS.step (fun _ _ _ _ _ _ _ _ _ cx _ _ _ _ _ _ hh w => W.objInit cx.1 cx.2.1 cx.2.2.2.1 (cx.2.2.2.2.1 _ h1) (cx.2.2.2.2.1 _ h2) (cx.2.2.2.2.1 _ h3) rfl (hh.1.trans cx.2.2.1.symm) rfl hd (by have := cx.2.2.2.2.2.2.2.2.2.1; omega) (by have := cx.2.2.2.2.2.2.2.2.2.2; show 2 * 0 + 0 + 12 ≤ _; omega) w) kk
end GA

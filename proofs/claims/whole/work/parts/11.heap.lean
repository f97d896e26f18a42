/-! ===== the heap's rows ===== -/
def gCls (t : Nat) (C : String) (T : u_T) (N : Nat) : Prop := vwCl[t]? = some (C, T, N) ∧ (∀ w ∈ u_ws C T N, w ∈ gT) ∧ (∀ k, k < N → parseFieldDescriptor (T k).2.2.1 = some (gFt t k)) ∧ (∀ a, a < N → ∀ b, b < N → a ≠ b → (T a).2.1 ≠ (T b).2.1) ∧ t < 100
/-- pool entry idx of the class own names field k of the objects of kind t -/
def gFldG (own : String) (idx t k : Nat) : Prop := ∃ (C : String) (T : u_T) (N : Nat) (ref : String), gCls t C T N ∧ k < N ∧ Cond.fieldLink own idx ref (T k).2.1 (T k).2.2.1 ∈ gT ∧ (ref = (T k).1 ∨ Cond.sameField ref (T k).1 (T k).2.1 (T k).2.2.1 ∈ gT)
def gFld (own : String) (idx t k : Nat) : Prop := ∃ (C : String) (T : u_T) (N : Nat) (ref : String), gCls t C T N ∧ k < N ∧ Cond.fieldLink own idx ref (T k).2.1 (T k).2.2.1 ∈ gT ∧ (ref = (T k).1 ∨ Cond.sameField ref (T k).1 (T k).2.1 (T k).2.2.1 ∈ gT) ∧ ((T k).2.2.2 = false ∨ ((T k).2.2.2 = true ∧ (T k).1 = own))
theorem gFld.g {own : String} {idx t k : Nat} (h : gFld own idx t k) : gFldG own idx t k := by
  obtain ⟨C, T, N, ref, h1, h2, h3, h4, -⟩ := h
  exact ⟨C, T, N, ref, h1, h2, h3, h4⟩
theorem mv_spec {α : Type} {ts : List Nat} {a : Nat} {f : gM α} {h : gH} {x : α × gH} (hf : mv ts a f h = some x) : ∃ t n : Nat, h.1[a]? = some (t, n) ∧ t ∈ ts ∧ f h = some x := by
  unfold mv at hf
  split at hf
  · cases hf
  · rename_i q hq
    by_cases hc : ts.contains q.1 = true
    · rw [if_pos hc] at hf
      exact ⟨q.1, q.2, hq, by simpa using hc, hf⟩
    · rw [if_neg hc] at hf; cases hf
theorem mi_spec {α : Type} {t a : Nat} {i : Int32} {f : gM α} {h : gH} {x : α × gH} (hf : mi t a i f h = some x) : ∃ n : Nat, h.1[a]? = some (t, n) ∧ ¬ (i < 0 ∨ n ≤ i.toNatClampNeg) ∧ f h = some x := by
  unfold mi at hf
  split at hf
  · cases hf
  · rename_i q hq
    by_cases hc : q.1 = t ∧ ¬ (i < 0 ∨ q.2 ≤ i.toNatClampNeg)
    · rw [if_pos hc] at hf
      obtain ⟨q1, q2⟩ := q
      obtain ⟨h1, h2⟩ := hc
      subst h1
      exact ⟨q2, hq, h2, hf⟩
    · rw [if_neg hc] at hf; cases hf
theorem mb_spec {α β : Type} {x : gM α} {f : α → gM β} {h : gH} {y : β × gH} (hf : mb x f h = some y) : ∃ (a : α) (h1 : gH), x h = some (a, h1) ∧ f a h1 = some y := by
  unfold mb at hf
  split at hf
  · cases hf
  · rename_i q hq
    exact ⟨q.1, q.2, hq, hf⟩
theorem gW.obj {D : va_G} {dA : Nat → ClassId} {b : Nat} {Hb : Heap} {h : gH} {H : Heap} (hW : gW D dA b Hb h H) {a t n N : Nat} {C : String} {T : u_T} (ha : h.1[a]? = some (t, n)) (hC : gCls t C T N) : t_OB (b + a) (D.1 t) N (D.2 t) H (gV b (gFt t) (h.2.1 a) (h.2.2 a)) := by
  have h1 := hW.2.2.2 a t n ha
  unfold gCell at h1
  rw [if_pos hC.2.2.2.2] at h1
  obtain ⟨r, h2, h3⟩ := h1
  have hr : r = (C, T, N) := Option.some.inj (h2.symm.trans hC.1)
  subst hr
  exact h3
theorem gW.arrI {D : va_G} {dA : Nat → ClassId} {b : Nat} {Hb : Heap} {h : gH} {H : Heap} (hW : gW D dA b Hb h H) {a t n : Nat} (ha : h.1[a]? = some (t, n)) (h1 : 100 ≤ t) (h2 : t < 102) : H[b + a]? = some (arrV (dA t) n (fun j => .int (h.2.1 a j))) := by
  have h3 := hW.2.2.2 a t n ha
  unfold gCell at h3
  rwa [if_neg (by omega), if_pos h2] at h3
theorem gW.arrR {D : va_G} {dA : Nat → ClassId} {b : Nat} {Hb : Heap} {h : gH} {H : Heap} (hW : gW D dA b Hb h H) {a t n : Nat} (ha : h.1[a]? = some (t, n)) (h1 : 102 ≤ t) : H[b + a]? = some (arrV (dA t) n (fun j => va_rf (gAd b (h.2.2 a j)))) := by
  have h3 := hW.2.2.2 a t n ha
  unfold gCell at h3
  rwa [if_neg (by omega), if_neg (by omega)] at h3
def gLst (N : Nat) (V : Nat → Value) : List Value := (List.range N).map V
theorem gLst_at {N k : Nat} {V : Nat → Value} (h : k < N) : (gLst N V)[k]? = some (V k) := by
  simp [gLst, h]
theorem u2_at {α : Type} (f : Nat → Nat → α) (a k : Nat) (x : α) (j : Nat) : u2 f a k x a j = if j = k then x else f a j := by
  simp [u2]
theorem u2_ne {α : Type} (f : Nat → Nat → α) (a k : Nat) (x : α) {q : Nat} (h : q ≠ a) : u2 f a k x q = f q := by
  funext j
  simp [u2, h]
section GH
variable {p : Program} {l : Launch} {e : Env} {R : Room} {s : State} {m : MethodId} {args : Array Value} {below : List Frame} {meth : Method} {c : Code}
variable {D : va_G} {dA : Nat → ClassId} {b : Nat} {bs : gB} {Hb : Heap} {α : Type} {Z : List Frame → Array Value → State → gH → α → gH → State → Prop}
variable {cc : ByteArray} {nL : Nat} {own nm : String} {ret : Option FieldType} {fr lo : Nat}
/-- reading a field: the machine's side -/
theorem gw_get (cx : gCx D dA b bs Hb p s m args meth c cc nL own nm ret R fr lo) {pc idx : Nat} {h : gH} {H : Heap} {locs : List Loc} {cells slots : Nat} {Q : State → Prop} {ls : Array Slot} {rest : List Value} {a t n k : Nat} (hW : gW D dA b Hb h H) (ha : h.1[a]? = some (t, n)) (hF : gFldG own idx t k) (hd : decode cc pc = .ok (.getfield idx, 3))
    (kk : W p l e R s m args below meth c H locs cells slots Q (F0 m (pc + 3) ls (gV b (gFt t) (h.2.1 a) (h.2.2 a) k :: rest))) : W p l e R s m args below meth c H locs cells slots Q (F0 m pc ls (.ref (b + a) :: rest)) := by
  obtain ⟨hx, hb, hml, hown, hts, ⟨hK, -⟩, -⟩ := cx
  obtain ⟨C, T, N, ref, hC, hk, hl, hs⟩ := hF
  have hP : va_P D vwCl [(b + a, .inr (t, gLst N (gV b (gFt t) (h.2.1 a) (h.2.2 a))))] H := by
    intro i q hq
    have hi : i = 0 := by
      have := (List.getElem?_eq_some_iff.mp hq).1
      simp at this; exact this
    subst hi
    cases hq
    exact ⟨_, hC.1, (hW.obj ha hC).to fun j hj => by simp [vp_V, List.getD, gLst_at hj]⟩
  refine va_get hx hb hts hC.2.1 hown hK hP 0 rfl hC.1 k hk (hts _ hl) ?_ (gLst_at hk) hd kk
  rcases hs with rfl | hs
  · exact fun _ h => h
  · exact fun x hx => u_same (hts _ hs) x hx
/-- writing a field: the machine's side -/
theorem gw_put (cx : gCx D dA b bs Hb p s m args meth c cc nL own nm ret R fr lo) {pc idx : Nat} {h : gH} {H : Heap} {locs : List Loc} {cells slots : Nat} {Q : State → Prop} {ls : Array Slot} {rest : List Value} {a t n k : Nat} (hW : gW D dA b Hb h H) (ha : h.1[a]? = some (t, n)) (hF : gFld own idx t k) (hin : nm = "<init>" ∨ ∀ (C : String) (T : u_T) (N : Nat), vwCl[t]? = some (C, T, N) → (T k).2.2.2 = false) (hd : decode cc pc = .ok (.putfield idx, 3))
    {v : Value} (hn : narrow (gFt t k) v = v) (hfit : fits (gFt t k) v = true) {iv' : Nat → Nat → Int32} {rv' : Nat → Nat → Option Nat} (hi : ∀ q, q ≠ a → iv' q = h.2.1 q) (hr : ∀ q, q ≠ a → rv' q = h.2.2 q)
    (hv : ∀ j, updV (gV b (gFt t) (h.2.1 a) (h.2.2 a)) k v j = gV b (gFt t) (iv' a) (rv' a) j)
    (kk : ∀ (H1 : Heap), gW D dA b Hb (h.1, iv', rv') H1 → W p l e R s m args below meth c H1 (locs ++ [⟨b + a, D.2 t k⟩]) cells slots Q (F0 m (pc + 3) ls rest)) : W p l e R s m args below meth c H locs cells slots Q (F0 m pc ls (v :: .ref (b + a) :: rest)) := by
  obtain ⟨hx, hb, hml, hown, hts, ⟨hK, -⟩, -, -, hnm, -⟩ := cx
  obtain ⟨C, T, N, ref, hC, hk, hl, hs, hfin⟩ := hF
  obtain ⟨cell, q1, q2, q3, q4⟩ := hW.obj ha hC
  obtain ⟨hS, hfc, kC, hkC, hkind⟩ := hK.1 t _ hC.1
  obtain ⟨cf, kf, fi, f, hfi, hsl⟩ := hS k hk
  have hsame : s.fieldFound? ref (T k).2.1 (T k).2.2.1 = some (cf, kf, fi, f) := by
    rcases hs with rfl | hs
    · exact hfi
    · exact u_same (hts _ hs) _ hfi
  have hst := (u_facts hfc hkC (u_lays hts hC.2.1 hk) hfi).1
  have hap := va_apart (own := own) hts hC.2.1 (gFt t) hC.2.2.1 hC.2.2.2.1 hK hC.1
  have hlay := hts _ (hC.2.1 _ (u_in_lay hk))
  unfold u_lay at hlay
  have done : ∀ H' : Heap, H'[b + a]? = some (cell.setSlot f.slot v) → H'.size = H.size → (∀ q, q ≠ b + a → H'[q]? = H[q]?) → W p l e R s m args below meth c H' (locs ++ [⟨b + a, f.slot⟩]) cells slots Q (F0 m (pc + 3) ls rest) := by
    intro H' e1 e2 e3
    rw [hsl] at e1 ⊢
    refine kk H' (hW.set ha hi hr e2 e3 ?_)
    unfold gCell
    rw [if_pos hC.2.2.2.2]
    exact ⟨_, hC.1, _, e1, q2, q3, fun j hj => by rw [← hv j]; exact t_set q4 hap hk v j hj⟩
  by_cases hff : (T k).2.2.2 = false
  · rw [if_neg (by rw [hff]; decide)] at hlay
    have h6 := u_store hfc hkC hkind hlay hfi (hC.2.2.1 k hk) hn hfit
    exact W.putK hx hb (f := f) ⟨hown, hts _ hl, ⟨_, _, _, hsame⟩, hst⟩ (by rw [q2]; exact h6) q1 q3 (by rw [hsl]; exact k2_hasslot (q4 k hk)) rfl rfl hd done
  · have hft : (T k).2.2.2 = true := by
      cases h : (T k).2.2.2
      · exact absurd h hff
      · rfl
    have hnm2 : nm = "<init>" := hin.resolve_right fun h => hff (h C T N hC.1)
    have hdecl : (T k).1 = own := by
      rcases hfin with h | h
      · exact absurd h hff
      · exact h.2
    rw [if_pos hft] at hlay
    have hcf : m.cls = cf := by
      obtain ⟨_, _, c', _, _, _, -, -, hf', -, -, -, hown2, -⟩ := Cond.laysFinal_spec hlay
      have e1 : c' = cf := by have := hfi.symm.trans hf'; simp at this; exact this.1.symm
      rw [hdecl] at hown2
      rw [← e1]; exact Option.some.inj (hown.symm.trans hown2)
    have h6 := u_fits hfc hkC hkind (Or.inr hlay) hfi (hC.2.2.1 k hk) hn hfit
    exact W.putFinK hx hb hown (hts _ hl) hsame hst hcf (by rw [hnm]; exact hnm2) (by rw [q2]; exact h6) q1 q3 (by rw [hsl]; exact k2_hasslot (q4 k hk)) rfl rfl hd done
theorem gS.getI {pc idx : Nat} {L : List (Option Value)} {st : List Value} {f : Int32 → gM α} {ts : List Nat} {a k : Nat} (hd : decode cc pc = .ok (.getfield idx, 3)) (hF : ∀ t ∈ ts, gFldG own idx t k ∧ gIsR (gFt t k) = false)
    (kk : ∀ v : Int32, gS l D dA b bs Hb cc nL own nm ret fr lo Z (pc + 3) L (.int v :: st) (f v)) : gS l D dA b bs Hb cc nL own nm ret fr lo Z pc L (.ref a :: st) (mb (gGetI ts a k) f) := fun h r h' hf => by
  obtain ⟨v, h1, hg, hf⟩ := mb_spec hf
  obtain ⟨t, n, ha, ht, hg⟩ := mv_spec hg
  cases hg
  obtain ⟨g1, g2⟩ := kk _ h r h' hf
  refine ⟨g1, fun p e R s m args below meth c h0 cx a1 a2 a3 H locs ls hW hl hh => gw_get cx hW ha (hF t ht).1 hd ?_⟩
  have e1 : gV b (gFt t) (h.2.1 a) (h.2.2 a) k = .int (h.2.1 a k) := by simp [gV, (hF t ht).2]
  rw [e1]
  exact g2 p e R s m args below meth c h0 cx a1 a2 a3 H locs ls hW hl hh
theorem gS.getR {pc idx : Nat} {L : List (Option Value)} {st : List Value} {f : Nat → gM α} {ts : List Nat} {a k : Nat} (hd : decode cc pc = .ok (.getfield idx, 3)) (hF : ∀ t ∈ ts, gFldG own idx t k ∧ gIsR (gFt t k) = true)
    (kk : ∀ v : Nat, gS l D dA b bs Hb cc nL own nm ret fr lo Z (pc + 3) L (.ref v :: st) (f v)) : gS l D dA b bs Hb cc nL own nm ret fr lo Z pc L (.ref a :: st) (mb (gGetR ts a k) f) := fun h r h' hf => by
  obtain ⟨v, h1, hg, hf⟩ := mb_spec hf
  obtain ⟨t, n, ha, ht, hg⟩ := mv_spec hg
  cases hz : h.2.2 a k with
  | none => rw [hz] at hg; cases hg
  | some y =>
    rw [hz] at hg
    cases hg
    obtain ⟨g1, g2⟩ := kk _ h r h' hf
    refine ⟨g1, fun p e R s m args below meth c h0 cx a1 a2 a3 H locs ls hW hl hh => gw_get cx hW ha (hF t ht).1 hd ?_⟩
    have e1 : gV b (gFt t) (h.2.1 a) (h.2.2 a) k = .ref (b + v) := by simp [gV, (hF t ht).2, hz, gAd, va_rf]
    rw [e1]
    exact g2 p e R s m args below meth c h0 cx a1 a2 a3 H locs ls hW hl hh
theorem gS.putI {pc idx : Nat} {L : List (Option Value)} {st : List Value} {f : gM α} {ts : List Nat} {a k : Nat} {v : Int32} (hd : decode cc pc = .ok (.putfield idx, 3)) (hF : ∀ t ∈ ts, gFld own idx t k ∧ gFt t k = .int ∧ (nm = "<init>" ∨ ∀ (C : String) (T : u_T) (N : Nat), vwCl[t]? = some (C, T, N) → (T k).2.2.2 = false))
    (kk : gS l D dA b bs Hb cc nL own nm ret fr lo Z (pc + 3) L st f) : gS l D dA b bs Hb cc nL own nm ret fr lo Z pc L (.int v :: .ref a :: st) (mb (gPutI ts a k v) fun _ => f) := fun h r h' hf => by
  obtain ⟨_, h1, hg, hf⟩ := mb_spec hf
  obtain ⟨t, n, ha, ht, hg⟩ := mv_spec hg
  cases hg
  obtain ⟨g1, g2⟩ := kk _ r h' hf
  refine ⟨g1, fun p e R s m args below meth c h0 cx a1 a2 a3 H locs ls hW hl hh => gw_put cx hW ha (hF t ht).1 (hF t ht).2.2 hd (by rw [(hF t ht).2.1]; rfl) (by rw [(hF t ht).2.1]; rfl) (fun q hq => u2_ne _ _ _ _ hq) (fun _ _ => rfl) (fun j => ?_) fun H1 hW1 => g2 p e R s m args below meth c h0 cx a1 a2 a3 H1 _ ls hW1 ?_ hh⟩
  · by_cases e1 : j = k
    · subst e1; simp [updV, gV, u2, (hF t ht).2.1, gIsR, gtr]
    · simp [updV, gV, u2, e1]
  · intro q hq
    rcases List.mem_append.mp hq with h1 | h1
    · exact hl q h1
    · rw [List.mem_singleton.mp h1]; exact Nat.le_add_right _ _
/-- a boolean field -/
def gPutZ (ts : List Nat) (a k : Nat) (v : Int32) : gM Unit := fun h => if v = 0 ∨ v = 1 then gPutI ts a k v h else none
theorem gS.putZ {pc idx : Nat} {L : List (Option Value)} {st : List Value} {f : gM α} {ts : List Nat} {a k : Nat} {v : Int32} (hd : decode cc pc = .ok (.putfield idx, 3)) (hF : ∀ t ∈ ts, gFld own idx t k ∧ gFt t k = .boolean ∧ (nm = "<init>" ∨ ∀ (C : String) (T : u_T) (N : Nat), vwCl[t]? = some (C, T, N) → (T k).2.2.2 = false))
    (kk : gS l D dA b bs Hb cc nL own nm ret fr lo Z (pc + 3) L st f) : gS l D dA b bs Hb cc nL own nm ret fr lo Z pc L (.int v :: .ref a :: st) (mb (gPutZ ts a k v) fun _ => f) := fun h r h' hf => by
  obtain ⟨_, h1, hg, hf⟩ := mb_spec hf
  by_cases hv : v = 0 ∨ v = 1
  · rw [gPutZ, if_pos hv] at hg
    obtain ⟨t, n, ha, ht, hg⟩ := mv_spec hg
    cases hg
    obtain ⟨g1, g2⟩ := kk _ r h' hf
    refine ⟨g1, fun p e R s m args below meth c h0 cx a1 a2 a3 H locs ls hW hl hh => gw_put cx hW ha (hF t ht).1 (hF t ht).2.2 hd (by rw [(hF t ht).2.1]; rcases hv with rfl | rfl <;> rfl) (by rw [(hF t ht).2.1]; rcases hv with rfl | rfl <;> rfl) (fun q hq => u2_ne _ _ _ _ hq) (fun _ _ => rfl) (fun j => ?_) fun H1 hW1 => g2 p e R s m args below meth c h0 cx a1 a2 a3 H1 _ ls hW1 ?_ hh⟩
    · by_cases e1 : j = k
      · subst e1; simp [updV, gV, u2, (hF t ht).2.1, gIsR, gtr]
      · simp [updV, gV, u2, e1]
    · intro q hq
      rcases List.mem_append.mp hq with h1 | h1
      · exact hl q h1
      · rw [List.mem_singleton.mp h1]; exact Nat.le_add_right _ _
  · rw [gPutZ, if_neg hv] at hg; cases hg
theorem gS.putR {pc idx : Nat} {L : List (Option Value)} {st : List Value} {f : gM α} {ts : List Nat} {a k : Nat} {v : Option Nat} (hd : decode cc pc = .ok (.putfield idx, 3)) (hF : ∀ t ∈ ts, gFld own idx t k ∧ gIsR (gFt t k) = true ∧ (nm = "<init>" ∨ ∀ (C : String) (T : u_T) (N : Nat), vwCl[t]? = some (C, T, N) → (T k).2.2.2 = false))
    (kk : gS l D dA b bs Hb cc nL own nm ret fr lo Z (pc + 3) L st f) : gS l D dA b bs Hb cc nL own nm ret fr lo Z pc L (va_rf v :: .ref a :: st) (mb (gPutR ts a k v) fun _ => f) := fun h r h' hf => by
  obtain ⟨_, h1, hg, hf⟩ := mb_spec hf
  obtain ⟨t, n, ha, ht, hg⟩ := mv_spec hg
  cases hg
  obtain ⟨g1, g2⟩ := kk _ r h' hf
  have hR := (hF t ht).2.1
  have e0 : (va_rf v :: .ref a :: st : List Value).map (gtr b bs) = va_rf (gAd b v) :: .ref (b + a) :: st.map (gtr b bs) := by
    simp only [List.map_cons, gtr_rf]; rfl
  rw [e0]
  refine ⟨g1, fun p e R s m args below meth c h0 cx a1 a2 a3 H locs ls hW hl hh => gw_put cx hW ha (hF t ht).1 (hF t ht).2.2 hd ?_ ?_ (fun _ _ => rfl) (fun q hq => u2_ne _ _ _ _ hq) (fun j => ?_) fun H1 hW1 => g2 p e R s m args below meth c h0 cx a1 a2 a3 H1 _ ls hW1 ?_ hh⟩
  · revert hR
    cases gFt t k <;> cases v <;> simp [gIsR, narrow, va_rf, gAd]
  · revert hR
    cases gFt t k <;> cases v <;> simp [gIsR, fits, va_rf, gAd]
  · by_cases e1 : j = k
    · subst e1; simp [updV, gV, u2, hR]
    · simp [updV, gV, u2, e1]
  · intro q hq
    rcases List.mem_append.mp hq with h1 | h1
    · exact hl q h1
    · rw [List.mem_singleton.mp h1]; exact Nat.le_add_right _ _
end GH

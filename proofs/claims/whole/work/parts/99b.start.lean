theorem gW_0 {D : va_G} {dA : Nat → ClassId} {H : Heap} : gW D dA H.size H gH0 H := ⟨rfl, rfl, fun _ _ => rfl, fun a t n h => by simp [gH0] at h⟩
set_option maxHeartbeats 4000000 in
/-- from the entry, for every script of at most 320 ints, the law comes to its end with true -/
theorem whole_start {p : Program} {e : Env} {s : State} {m : MethodId} {below : List Frame} {meth : Method} {c : Code} (l : Launch) (hflags : l.flags = flags0) {b L : Nat} {xs : Nat → Int32} (hL : L ≤ 320) (C0 : lw_At p s m meth c b L xs) : W p l e room_1 s m #[Value.ref b] below meth c s.heap [] 0 0 (lw_Z below #[Value.ref b] s) (entryFrame m ([Value.ref b] : List Value).toArray 4) := by
  obtain ⟨hx, hb, hr, hml, hown, hts, hX, hbl, hlocks, hgv⟩ := id C0
  have htg : ∀ w ∈ gT, w.before #[Value.ref b] s = true := fun w hw => hts w (List.mem_filter.mp hw).1
  obtain ⟨D, hD⟩ := gStart_D htg
  obtain ⟨dA, hA⟩ := gStart_A hts
  obtain ⟨ad, had, hS⟩ := gStart_S hts hgv hX
  have hK : gKn D dA s.heap.size (ad, L, xs) s.heap s := ⟨⟨hD, hA⟩, hS⟩
  obtain ⟨h', hf, hc, hs⟩ := pure_law (ad, L, xs) hL
  have cx : gCx D dA s.heap.size (ad, L, xs) s.heap p s m #[Value.ref b] meth c cL_law 4 RL meth.name (some .boolean) room_1 2048 84000 := ⟨hx, hb, hml, hown, htg, hK, hr, hlocks, rfl, rfl, rfl⟩
  have g2 := (ML_law gMnew_ok (l := l) (D := D) (dA := dA) (b := s.heap.size) (bs := (ad, L, xs)) (Hb := s.heap) (nm := meth.name) gH0 1 h' hf).2 p e room_1 s m #[Value.ref b] below meth c gH0 cx (gLe.rf _) (Nat.le_trans (Nat.sub_le _ _) hc) (Nat.le_trans (Nat.sub_le _ _) hs)
  have hl := lv_entry ([.ref b]) (n := 4) (Nat.le_of_ble_eq_true rfl)
  rw [lg_entry_eq]
  generalize (lg_sl ([.ref b]) ++ List.replicate (4 - (lg_sl ([.ref b])).length) Slot.unset).toArray = ls at hl ⊢
  have hl : lv_has ls 4 [(0, .ref b)] := hl
  have w := g2 s.heap [] ls gW_0 (fun q hq => by cases hq) ⟨hl.1, hl.2.1, fun i v hi => by
    match i, hi with
    | 0, hi =>
      have e1 : v = .float 0 := by simpa using hi.symm
      subst e1
      have := hl.2.2 (0, .ref b) List.mem_cons_self
      show ls[0]? = some (.val (.ref (ad 0)))
      rw [had]; exact this
    | 1, hi => simp at hi
    | 2, hi => simp at hi
    | 3, hi => simp at hi
    | i + 4, hi => simp at hi⟩
  intro T hT X
  obtain ⟨t, b1, b2⟩ := w T hT X
  exact ⟨t, b1, b2 ⟨rfl, rfl, Nat.le_trans (Nat.sub_le _ _) hc, Nat.le_trans (Nat.sub_le _ _) hs⟩⟩

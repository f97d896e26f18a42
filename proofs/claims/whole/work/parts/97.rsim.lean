/-! ===== the reference reads a condition as it is told ===== -/
section RSIM
variable {M : Nat} {b : Nat → Int → Int} {h : gH} {g : Int → Int} {f k o : Int} {S w : List Int}
theorem okTop (a r : Bool) {w : List Int} (hw : base w) : ∀ x l, aS a ++ (oS r ++ w) = x :: l → 7 < x := by
  intro x l e
  cases a with
  | true =>
    have e : (8 : Int) :: (oS r ++ w) = x :: l := e
    injection e with e1 _
    omega
  | false =>
    cases r with
    | true =>
      have e : (9 : Int) :: w = x :: l := e
      injection e with e1 _
      omega
    | false =>
      have e : w = x :: l := e
      rcases hw with q | ⟨r', q⟩
      · rw [q] at e; cases e
      · rw [q] at e
        injection e with e1 _
        omega
theorem Fails.more {s s' : gH} {o o' : Int} {k0 k1 k' : Int} {p : Nat} (hp : (p : Int) ≤ k1 - k0) (hs : ∀ n : Nat, Lp M (n + p) o 1 1 s = Lp M n o' 1 1 s') (H : Fails M b h o' s' k1 k') : Fails M b h o s k0 k' := by
  obtain ⟨q, g', k2, S2, w2, h1, h2, h3⟩ := H
  refine ⟨q + p, g', k2, S2, w2, by omega, h2, fun n => ?_⟩
  have e : n + (q + p) = (n + q) + p := by omega
  rw [e, hs, h3]
theorem OneR_of (hM : OKM M h) (B : BR b) {d : Nat} (ho : 0 ≤ o ∧ o ≤ 4) (hrc : o < 4 → ∀ (k : Int) (g : Int → Int) (S w : List Int), QR g (-1) k S w → (S.length : Int) + w.length ≤ k → k ≤ CT b → base w → CondR M b h (pC (CD b) d (o + 1) k) (o + 1) k g S w w) : OneR M b h (pO (CD b) (pC (CD b) d) o) o := by
  intro k g S w Q hl hk hw
  have io : i32 o := ⟨by omega, by omega⟩
  have h0 := Q.2.2.2.2.1
  have n0 := B.CN.1
  have hn := pN_b B.CN 252 k h0 hk
  have hn2 := (pN_n B.CN h0 hk).2
  obtain ⟨Q1, e1⟩ := L_nots (h := h) hM B io (pN (CD b) 252 k) k w Q (by omega) hn.2.1
  have hln : (((List.replicate (pN (CD b) 252 k) 7 ++ w : List Int).length : Nat) : Int) = (pN (CD b) 252 k : Int) + w.length := by rw [List.length_append, List.length_replicate]; omega
  have h7 := fun S' : List Int => stl7 hw (pN (CD b) 252 k) S'
  have hpb := pB_b B.CN (fun o k => pC_b B.CN d o k) (o := o) (k := k + pN (CD b) 252 k) (by omega) hn.1
  -- behind the nots
  have key : ((pB (CD b) (pC (CD b) d) o (k + pN (CD b) 252 k)).1 = true → ∃ (q : Nat) (g' : Int → Int), (q : Int) ≤ (pB (CD b) (pC (CD b) d) o (k + pN (CD b) 252 k)).2.1 - (k + pN (CD b) 252 k) ∧ QR g' (-1) (pB (CD b) (pC (CD b) d) o (k + pN (CD b) 252 k)).2.1 (S ++ ((pB (CD b) (pC (CD b) d) o (k + pN (CD b) 252 k)).2.2.1 ++ List.replicate (pN (CD b) 252 k) 7)) w ∧ ∀ n : Nat, Lp M (n + q) o 1 1 (mK M (rSt b g (-1) (k + pN (CD b) 252 k) S (List.replicate (pN (CD b) 252 k) 7 ++ w)) h) = Lp M n o 0 1 (mK M (rSt b g' (-1) (pB (CD b) (pC (CD b) d) o (k + pN (CD b) 252 k)).2.1 (S ++ ((pB (CD b) (pC (CD b) d) o (k + pN (CD b) 252 k)).2.2.1 ++ List.replicate (pN (CD b) 252 k) 7)) w) h)) ∧
      ((pB (CD b) (pC (CD b) d) o (k + pN (CD b) 252 k)).1 = false → Fails M b h o (mK M (rSt b g (-1) (k + pN (CD b) 252 k) S (List.replicate (pN (CD b) 252 k) 7 ++ w)) h) (k + pN (CD b) 252 k) (pB (CD b) (pC (CD b) d) o (k + pN (CD b) 252 k)).2.1) := by
    generalize hj : pN (CD b) 252 k = j at *
    generalize hk0 : k + (j : Int) = k0 at *
    have k00 : 0 ≤ k0 := by omega
    unfold pB
    by_cases c1 : CD b k0 = 2040
    · have kN : k0 < CT b := by
        rcases Int.lt_or_le k0 (CT b) with q | q
        · exact q
        · have := B.CN.2.1 _ q; omega
      rw [if_pos c1]
      by_cases c2 : o < 4
      · rw [if_pos c2]
        have hop := fun n => L_open (h := h) hM B Q1 (by rw [hln]; omega) c1 n (o := o) ⟨ho.1, c2⟩
        have Q2 := (Q1.push (x := 10) ⟨by omega, by omega⟩ (by rw [hln]; omega)).nx
        have hl2 : (S.length : Int) + (10 :: (List.replicate j 7 ++ w) : List Int).length ≤ k0 + 1 := by
          rw [List.length_cons]
          omega
        obtain ⟨ok, no⟩ := hrc c2 (k0 + 1) g S (10 :: (List.replicate j 7 ++ w)) Q2 hl2 (by omega) (Or.inr ⟨_, rfl⟩)
        have hcb := pC_b B.CN d (o + 1) (k0 + 1) (by omega) (by omega)
        generalize pC (CD b) d (o + 1) (k0 + 1) = x at *
        by_cases c3 : x.1 = true
        · rw [if_pos c3]
          obtain ⟨q, g1, S1, a, r, p1, p2, p3, p4, p5, p6, p7⟩ := ok c3
          obtain ⟨g2, z1, z2⟩ := L_close (h := h) hM B p5 hcb.2.1 p3 p4 (o := o + 1) ⟨by omega, by omega⟩ (stl9 (Or.inr ⟨_, rfl⟩) a r)
          rw [h7] at z1 z2
          dsimp only at z1 z2
          have eo : o + 1 - 1 = o := by omega
          have es : S ++ S1 ++ aS a ++ oS r ++ List.replicate j 7 = S ++ (x.2.2.1 ++ List.replicate j 7) := by
            rw [p2]
            simp only [List.append_assoc]
          rw [es] at z1 z2
          by_cases c4 : CD b x.2.1 = 2041
          · rw [if_pos c4, if_pos c4] at z1 z2
            rw [if_pos c4]
            refine ⟨fun _ => ⟨q + 2, g2, by dsimp only; omega, z1, fun n => ?_⟩, fun z => by cases z⟩
            have en : n + (q + 2) = ((n + 1) + q) + 1 := by omega
            rw [en, hop, p7, z2, eo]
          · rw [if_neg c4, if_neg c4] at z1 z2
            rw [if_neg c4]
            have pa := B.a (k := x.2.1) (by omega)
            obtain ⟨g3, y1, y2⟩ := L_out (h := h) (o := o + 1 - 1) (a := 0) (m := 1) hM z1 ⟨by omega, by omega⟩ (Or.inr ⟨rfl, by omega⟩)
            refine ⟨fun z => (by cases z), fun _ => ⟨q + 3, g3, _, _, _, by dsimp only; omega, y1, fun n => ?_⟩⟩
            have en : n + (q + 3) = (((n + 1) + 1) + q) + 1 := by omega
            rw [en, hop, p7, z2, y2]
        · have c3' : x.1 = false := by
            revert c3; cases x.1 <;> simp
          rw [if_neg c3]
          exact ⟨fun z => absurd z c3, fun _ => Fails.more (p := 1) (by omega) hop (no c3')⟩
      · rw [if_neg c2]
        have o4 : o = 4 := by omega
        subst o4
        have pa := B.a k00
        have hop := fun n => L_open4 (h := h) hM B Q1 c1 n
        obtain ⟨g3, y1, y2⟩ := L_out (h := h) (o := 4) (a := 1) (m := 1) hM (Q1.fa (pA0_i B k00)) ⟨by omega, by omega⟩ (Or.inr ⟨rfl, by omega⟩)
        refine ⟨fun z => (by cases z), fun _ => ⟨2, g3, _, _, _, by dsimp only; omega, y1, fun n => ?_⟩⟩
        have en : n + 2 = (n + 1) + 1 := by omega
        rw [en, hop, y2]
    · rw [if_neg c1]
      have hab := pA_b B.CN k00 hn.1
      obtain ⟨g', q1, q2⟩ := L_ask (h := h) (o := o) hM B Q1 (by rw [hln]; omega) hn.1 hn2 c1
      rw [h7] at q1 q2
      dsimp only at q1 q2
      generalize pA (CD b) k0 = x at *
      have es : S ++ x.2.2.map ct ++ List.replicate j 7 = S ++ (x.2.2.map ct ++ List.replicate j 7) := List.append_assoc _ _ _
      rw [es] at q1 q2
      by_cases c3 : x.1 = true
      · have ef : fl b x.1 x.2.1 = -1 := by rw [c3]; rfl
        rw [ef] at q1 q2
        refine ⟨fun _ => ⟨1, g', by have := hab.2.2.2 c3; dsimp only; omega, q1, q2⟩, fun z => absurd z (by dsimp only; rw [c3]; simp)⟩
      · have c3' : x.1 = false := by
          revert c3; cases x.1 <;> simp
        have hx1 : 0 ≤ x.2.1 := by omega
        have pa := B.a hx1
        have ef : fl b x.1 x.2.1 = pA0 b x.2.1 := by rw [c3']; rfl
        rw [ef] at q1 q2
        obtain ⟨g3, y1, y2⟩ := L_out (h := h) (o := o) (a := 0) (m := 1) hM q1 io (Or.inr ⟨rfl, by omega⟩)
        refine ⟨fun z => absurd z c3, fun _ => ⟨2, g3, _, _, _, by dsimp only; omega, y1, fun n => ?_⟩⟩
        have en : n + 2 = (n + 1) + 1 := by omega
        rw [en, q2, y2]
  unfold pO
  generalize pB (CD b) (pC (CD b) d) o (k + pN (CD b) 252 k) = x at *
  by_cases c3 : x.1 = true
  · rw [if_pos c3]
    refine ⟨fun _ => ?_, fun z => by cases z⟩
    obtain ⟨q, g', z1, z2, z3⟩ := key.1 c3
    refine ⟨q + pN (CD b) 252 k, g', by dsimp only; omega, z2, fun n => ?_⟩
    have en : n + (q + pN (CD b) 252 k) = (n + q) + pN (CD b) 252 k := by omega
    rw [en, e1, z3]
  · have c3' : x.1 = false := by
      revert c3; cases x.1 <;> simp
    rw [if_neg c3]
    exact ⟨fun z => absurd z c3, fun _ => Fails.more (by omega) e1 (key.2 c3')⟩
theorem CondL_of (hM : OKM M h) (B : BR b) {one : Int → Rs} (hb : ∀ k, 0 ≤ k → k ≤ CT b → RB (CT b) k (one k)) (hone : OneR M b h one o) : ∀ (m : Nat) (a r : Bool) (k : Int) (g : Int → Int) (S w : List Int), CT b - k < m → QR g (-1) k S (aS a ++ (oS r ++ w)) → (S.length : Int) + (aS a ++ (oS r ++ w)).length ≤ k → k ≤ CT b → base w → CondR M b h (pJ (CD b) one m a r k) o k g S (aS a ++ (oS r ++ w)) w
  | 0, a, r, k, g, S, w, hm, Q, hl, hk, hw => by omega
  | m + 1, a, r, k, g, S, w, hm, Q, hl, hk, hw => by
    have h0 := Q.2.2.2.2.1
    have n0 := B.CN.1
    obtain ⟨ok, no⟩ := hone k g S (aS a ++ (oS r ++ w)) Q hl hk (okTop a r hw)
    have hob := hb k h0 hk
    unfold CondR
    rw [pJ]
    generalize one k = x at *
    by_cases c1 : x.1 = true
    · rw [if_pos c1]
      obtain ⟨q, g1, z1, z2, z3⟩ := ok c1
      have hx := hob.2.2.2.2 c1
      have hls : (((S ++ x.2.2.1).length : Nat) : Int) = (S.length : Int) + x.2.2.1.length := by rw [List.length_append]; omega
      have hla : (((aS a ++ (oS r ++ w)).length : Nat) : Int) = ((aS a).length : Int) + (oS r).length + w.length := by rw [List.length_append, List.length_append]; omega
      by_cases c2 : CD b x.2.1 = 1019
      · have kN : x.2.1 < CT b := by
          rcases Int.lt_or_le x.2.1 (CT b) with q | q
          · exact q
          · have := B.CN.2.1 _ q; omega
        rw [if_pos c2]
        obtain ⟨g2, y1, y2⟩ := L_and (h := h) (o := o) hM B z2 (by omega) (x := 8) (Or.inl ⟨rfl, c2⟩)
        rw [stl8 hw] at y1 y2
        dsimp only at y1 y2
        have hlA : (((S ++ x.2.2.1 ++ aS a).length : Nat) : Int) = (S.length : Int) + x.2.2.1.length + (aS a).length := by rw [List.length_append]; omega
        have hlt : (((aS true ++ (oS r ++ w)).length : Nat) : Int) = 1 + (oS r).length + w.length := by
          show (((8 :: (oS r ++ w) : List Int).length : Nat) : Int) = _
          rw [List.length_cons, List.length_append]; omega
        obtain ⟨ok2, no2⟩ := CondL_of hM B hb hone m true r (x.2.1 + 1) g2 (S ++ x.2.2.1 ++ aS a) w (by omega) y1 (by omega) (by omega) hw
        have st : ∀ n : Nat, Lp M (n + (q + 1)) o 1 1 (mK M (rSt b g (-1) k S (aS a ++ (oS r ++ w))) h) = Lp M n o 1 1 (mK M (rSt b g2 (-1) (x.2.1 + 1) (S ++ x.2.2.1 ++ aS a) (aS true ++ (oS r ++ w))) h) := fun n => by
          have en : n + (q + 1) = (n + 1) + q := by omega
          rw [en, z3, y2]; rfl
        refine ⟨fun c3 => ?_, fun c3 => Fails.more (by omega) st (no2 c3)⟩
        obtain ⟨q', g3, S1, a', r', p1, p2, p3, p4, p5, p6, p7⟩ := ok2 c3
        have es : S ++ x.2.2.1 ++ aS a ++ S1 = S ++ (x.2.2.1 ++ aS a ++ S1) := by simp only [List.append_assoc]
        rw [es] at p5 p6 p7
        refine ⟨q' + (q + 1), g3, x.2.2.1 ++ aS a ++ S1, a', r', by dsimp only; omega, ?_, p3, p4, p5, p6, fun n => ?_⟩
        · dsimp only
          rw [p2]
          simp only [List.append_assoc]
        · have en : n + (q' + (q + 1)) = (n + q') + (q + 1) := by omega
          rw [en, st, p7]
      · rw [if_neg c2]
        by_cases c3 : CD b x.2.1 = 1018
        · have kN : x.2.1 < CT b := by
            rcases Int.lt_or_le x.2.1 (CT b) with q | q
            · exact q
            · have := B.CN.2.1 _ q; omega
          rw [if_pos c3]
          obtain ⟨g2, y1, y2⟩ := L_and (h := h) (o := o) hM B z2 (by omega) (x := 9) (Or.inr ⟨rfl, c3⟩)
          rw [stl9 hw] at y1 y2
          dsimp only at y1 y2
          have hlA : (((S ++ x.2.2.1 ++ aS a ++ oS r).length : Nat) : Int) = (S.length : Int) + x.2.2.1.length + (aS a).length + (oS r).length := by rw [List.length_append, List.length_append]; omega
          have hlt : (((aS false ++ (oS true ++ w)).length : Nat) : Int) = 1 + w.length := by
            show (((9 :: w : List Int).length : Nat) : Int) = _
            rw [List.length_cons]; omega
          obtain ⟨ok2, no2⟩ := CondL_of hM B hb hone m false true (x.2.1 + 1) g2 (S ++ x.2.2.1 ++ aS a ++ oS r) w (by omega) y1 (by omega) (by omega) hw
          have st : ∀ n : Nat, Lp M (n + (q + 1)) o 1 1 (mK M (rSt b g (-1) k S (aS a ++ (oS r ++ w))) h) = Lp M n o 1 1 (mK M (rSt b g2 (-1) (x.2.1 + 1) (S ++ x.2.2.1 ++ aS a ++ oS r) (aS false ++ (oS true ++ w))) h) := fun n => by
            have en : n + (q + 1) = (n + 1) + q := by omega
            rw [en, z3, y2]; rfl
          refine ⟨fun c4 => ?_, fun c4 => Fails.more (by omega) st (no2 c4)⟩
          obtain ⟨q', g3, S1, a', r', p1, p2, p3, p4, p5, p6, p7⟩ := ok2 c4
          have es : S ++ x.2.2.1 ++ aS a ++ oS r ++ S1 = S ++ (x.2.2.1 ++ aS a ++ oS r ++ S1) := by simp only [List.append_assoc]
          rw [es] at p5 p6 p7
          refine ⟨q' + (q + 1), g3, x.2.2.1 ++ aS a ++ oS r ++ S1, a', r', by dsimp only; omega, ?_, p3, p4, p5, p6, fun n => ?_⟩
          · dsimp only
            rw [p2]
            simp only [List.append_assoc]
          · have en : n + (q' + (q + 1)) = (n + q') + (q + 1) := by omega
            rw [en, st, p7]
        · rw [if_neg c3]
          refine ⟨fun _ => ⟨q, g1, x.2.2.1, a, r, z1, rfl, c2, c3, z2, by dsimp only; omega, z3⟩, fun z => by cases z⟩
    · have c1' : x.1 = false := by
        revert c1; cases x.1 <;> simp
      rw [if_neg c1]
      exact ⟨fun z => absurd z c1, fun _ => no c1'⟩
theorem Cond_of (hM : OKM M h) (B : BR b) : ∀ (d : Nat) (o : Int), 0 ≤ o → o ≤ 4 → 5 ≤ o + d → ∀ (k : Int) (g : Int → Int) (S w : List Int), QR g (-1) k S w → (S.length : Int) + w.length ≤ k → k ≤ CT b → base w → CondR M b h (pC (CD b) d o k) o k g S w w
  | 0, o, h0, h1, h2 => by omega
  | d + 1, o, h0, h1, h2 => by
    intro k g S w Q hl hk hw
    have n0 := B.CN.1
    rw [pC]
    exact CondL_of hM B (fun k q0 q1 => pO_b B.CN (fun o k => pC_b B.CN d o k) q0 q1) (OneR_of hM B ⟨h0, h1⟩ (fun o4 => Cond_of hM B d (o + 1) (by omega) (by omega) (by omega))) 252 false false k g S w (by have := Q.2.2.2.2.1; omega) Q hl hk hw
/-- the reference's condition -/
theorem R_wantCond (hM : OKM M h) (B : BR b) (Q : QR g (-1) k S []) (hl : (S.length : Int) ≤ k) (hk : k ≤ CT b) :
    ((pC (CD b) 6 0 k).1 = true → ∃ g', QR g' (-1) (pC (CD b) 6 0 k).2.1 (S ++ (pC (CD b) 6 0 k).2.2.1) [] ∧ m12_wantCond M (mK M (rSt b g (-1) k S []) h) = some ((), mK M (rSt b g' (-1) (pC (CD b) 6 0 k).2.1 (S ++ (pC (CD b) 6 0 k).2.2.1) []) h)) ∧
    ((pC (CD b) 6 0 k).1 = false → ∃ g' k2 S2 w2, QR g' (pA0 b (pC (CD b) 6 0 k).2.1) k2 S2 w2 ∧ m12_wantCond M (mK M (rSt b g (-1) k S []) h) = some ((), mK M (rSt b g' (pA0 b (pC (CD b) 6 0 k).2.1) k2 S2 w2) h)) := by
  have h0 := Q.2.2.2.2.1
  have n0 := B.CN.1
  have hcb := pC_b B.CN 6 0 k h0 hk
  obtain ⟨ok, no⟩ := Cond_of hM B 6 0 (by omega) (by omega) (by omega) k g S [] Q (by rw [List.length_nil]; omega) hk (Or.inl rfl)
  have e20 : s3 (rSt b g (-1) k S []) 0 20 0 = rSt b g (-1) k S [] := by
    funext q j
    by_cases e : q = 0 ∧ j = 20
    · rw [e.1, e.2, s3_at, rSt_20]; rfl
    · rw [s3_ne (by omega)]
  have start : ∀ x, (Lp M FU 0 1 1 (mK M (rSt b g (-1) k S []) h) = x) → m12_wantCond M (mK M (rSt b g (-1) k S []) h) = x := fun x hx => by
    rw [← hx]
    unfold m12_wantCond
    simp (config := { maxSteps := 1000000 }) (disch := first | assumption | exact W.i _ _ | exact sLine_i W _ _ _ | exact W1.i _ _ | exact hg _ _ | exact W3.i _ _ | (refine ⟨?_, ?_⟩ <;> omega) | omega | (simp only [sW_1, sW_2, sW_3, sW_4, sW_5, sW_8] <;> first | assumption | omega | (refine ⟨?_, ?_⟩ <;> omega)) | (simp only [sT_1, sT_2, sT_3, sT_4, sT_5, sT_8] <;> first | assumption | omega | (refine ⟨?_, ?_⟩ <;> omega)) | (simp only [List.length_append, List.length_cons, List.length_nil, Nat.reduceAdd] <;> omega)) only [Int.reduceEq, Int.reduceLT, Int.reduceLE, Int.reduceNeg, Int.reduceAdd, Int.reduceSub, Int.reduceMul, if_true, if_false, not_true, not_false_eq_true, false_or, or_false, true_or, or_true, true_and, and_true, false_and, and_false, iI_on, iI_mul, iI_add, iI_sub, iI_neg, ap_if, mp_eq, mz_0, mz_1, mz_b, b2_0, b2_1, iI_lt, iI_le, iI_inj, mb_div, mb_rem, hM.m, hM.a1, hM.a2, hM.a3, hM.a4, hM.a5, hM.a6, hM.a7, hM.a8, hM.a9, hM.a10, hM.a11, hM.a12, hM.a13, hM.a14, hM.a15, hM.a16, hM.a17, hM.a18, hM.a19, hM.a20, hM.a21, hM.a22, hM.a23, hM.a24, hM.a25, hM.a26, hM.a27, hM.a28, hM.l1, hM.l2, hM.l3, hM.l4, hM.l5, hM.l6, hM.l7, hM.l8, hM.l9, hM.l10, hM.l11, hM.l12, hM.l13, hM.l14, hM.l15, hM.l16, hM.l17, hM.l18, hM.l19, hM.l20, hM.l21, hM.l22, hM.l23, hM.l24, hM.l25, hM.l26, hM.l27, hM.l28, hM.c10, hM.c11, hM.c12, hM.c13, hM.c14, hM.c15, hM.c19, hM.c20, hM.c23, hM.c27, hM.c36, hM.c37, hM.c38, hM.c40, hM.c41, hM.c42, hM.c44, hM.w1, hM.w2, hM.w3, hM.w4, hM.w5, hM.w6, hM.w7, hM.w8, hM.w9, hM.w10, hM.w11, hM.w12, hM.w13, hM.w14, hM.w15, hM.w16, hM.w17, hM.w18, hM.w19, hM.w20, hM.w21, hM.w22, hM.w23, hM.w24, hM.w25, hM.w26, hM.w27, hM.w28, hM.p10, hM.p11, hM.p12, hM.p13, hM.p14, hM.p15, hM.p19, hM.p20, hM.p23, hM.p27, hM.p36, hM.p37, hM.p38, hM.p40, hM.p41, hM.p42, hM.p44, s3_at, s3_nk, s3_nj, hM.ps 20, e20]
  generalize pC (CD b) 6 0 k = x at *
  refine ⟨fun c1 => ?_, fun c1 => ?_⟩
  · obtain ⟨q, g1, S1, a, r, p1, p2, p3, p4, p5, p6, p7⟩ := ok c1
    obtain ⟨g2, y1, y2⟩ := L_out (h := h) (o := 0) (a := 0) (m := 0) hM p5 ⟨by omega, by omega⟩ (Or.inl rfl)
    rw [stl9 (Or.inl rfl)] at y1 y2
    dsimp only at y1 y2
    have es : S ++ S1 ++ aS a ++ oS r = S ++ x.2.2.1 := by
      rw [p2]
      simp only [List.append_assoc]
    rw [es] at y1 y2
    refine ⟨g2, y1, start _ ?_⟩
    obtain ⟨n, hn⟩ : ∃ n, FU = ((n + 1) + 1) + q := ⟨FU - q - 2, by unfold FU; omega⟩
    rw [hn, p7, L_end hM B p5 p3 p4, y2]
  · obtain ⟨q, g', k2, S2, w2, z1, z2, z3⟩ := no c1
    refine ⟨g', k2, S2, w2, z2, start _ ?_⟩
    obtain ⟨n, hn⟩ : ∃ n, FU = n + q := ⟨FU - q, by unfold FU; omega⟩
    rw [hn, z3]
end RSIM

/-! ===== words and codes: numbers alone ===== -/
/-- the words, the last letter first -/
def WL : List (List Int) := [[101, 118, 97, 114, 103], [115, 116, 110, 105, 111, 112], [100, 108, 111], [101, 103, 110, 97, 114], [112, 117], [110, 119, 111, 100], [101, 100, 105, 115, 101, 98], [107, 99, 97, 98], [110, 111, 112, 97, 101, 119], [116, 114, 117, 104], [100, 101, 112, 108, 101, 104], [101, 118, 97, 103], [103, 110, 117, 111, 121], [100, 101, 100, 97, 101, 108, 112], [100, 110, 105, 107], [101, 103, 97], [102, 105], [111, 116], [114, 111], [100, 110, 97], [116, 111, 110]]
/-- their numbers with the reference -/
def HsL : List Int := [4075709, 237742039, 11263, 9596021, 583, 90302, 31735670, 40187, 332713832, 173279, 117696460, 139109, 13596964, -2, 223456, 923, 249, 555, 423, 1111, 10631]
def Hs (i : Nat) : Int := HsL.getD i 0
def wix (run : List Int) : List (List Int) → Int → Int
  | [], _ => 3001
  | w :: r, i => if run = w then i else wix run r (i + 1)
theorem wix_b (run : List Int) : ∀ (ws : List (List Int)) (b : Int), wix run ws b = 3001 ∨ (b ≤ wix run ws b ∧ wix run ws b < b + ws.length)
  | [], _ => Or.inl rfl
  | w :: r, b => by
    have := wix_b run r (b + 1)
    rw [wix, List.length_cons]
    split <;> omega
theorem wix_at (run : List Int) : ∀ (ws : List (List Int)) (b : Int) (i : Nat), ws.Nodup → b + ws.length ≤ 3001 → b + i < 3001 → (wix run ws b = b + i ↔ ws[i]? = some run)
  | [], b, i, _, _, h => by
    rw [wix]
    constructor
    · intro e; omega
    · intro e; simp at e
  | w :: r, b, i, hn, hb, h => by
    rw [List.nodup_cons] at hn
    rw [List.length_cons] at hb
    have hw := wix_b run r (b + 1)
    rw [wix]
    by_cases c : run = w
    · rw [if_pos c]
      match i, h with
      | 0, _ =>
        rw [List.getElem?_cons_zero, c]
        constructor
        · intro _; rfl
        · intro _; omega
      | i + 1, _ =>
        rw [List.getElem?_cons_succ]
        constructor
        · intro e; omega
        · intro e
          rw [c] at e
          exact absurd (List.mem_of_getElem? e) hn.1
    · rw [if_neg c]
      match i, h with
      | 0, _ =>
        rw [List.getElem?_cons_zero]
        constructor
        · intro e; omega
        · intro e
          injection e with e
          exact absurd e.symm c
      | i + 1, h =>
        rw [List.getElem?_cons_succ, ← wix_at run r (b + 1) i hn.2 (by omega) (by omega)]
        have e : b + 1 + (i : Int) = b + ((i + 1 : Nat) : Int) := by omega
        rw [e]
theorem WL_nd : WL.Nodup := by decide +kernel
theorem WL_ln : WL.length = 21 := rfl
def okWb (r : List Int) : Bool := r.all fun d => decide (97 ≤ d) && decide (d ≤ 122)
theorem okWb_ok {r : List Int} (h : okWb r = true) : okW r := fun d hd => by
  unfold okWb at h
  rw [List.all_eq_true] at h
  have := h d hd
  rw [Bool.and_eq_true, decide_eq_true_eq, decide_eq_true_eq] at this
  exact this
theorem WL_all : ∀ i : Fin 21, okWb (WL.getD i.val []) = true ∧ (i.val ≠ 13 → Hs i.val = HR (WL.getD i.val []) ∧ (WL.getD i.val []).length ≤ 6 ∧ 1 ≤ Hs i.val) := by decide +kernel
theorem WL_13 : WL.getD 13 [] = [100, 101, 100, 97, 101, 108, 112] := rfl
theorem Hs_13 : Hs 13 = -2 := rfl
/-- the class's code of the token at a -/
def cc (t : Int → Int) (n a : Int) : Int := if a = n then 3000 else if cl (t a) = 1 then wix (rr t a (te t n a - a).toNat) WL 1000 else if cl (t a) = 2 then (if te t n a - a ≤ 3 then nm t a (te t n a - a).toNat else 3001) else 2000 + t a
section CODES
variable {t : Int → Int} {n a : Int}
theorem cc_ru (h : a < n) (hc : cl (t a) = 1) : okW (rr t a (te t n a - a).toNat) := by
  have hb := te_b t (Int.le_of_lt h)
  exact rr_ok t a _ (fun j j0 j1 => (te_in t h (Or.inl hc) j0 (by omega)).trans hc)
theorem cc_nm (h : a < n) (hc : cl (t a) = 2) {m : Nat} (hm : (m : Int) ≤ te t n a - a) (h3 : m ≤ 3) : 0 ≤ nm t a m ∧ nm t a m ≤ 999 := by
  have := nm_b t a m (fun j j0 j1 => (te_in t h (Or.inr hc) j0 (by omega)).trans hc) h3
  omega
theorem rr7 : rr t a 7 = [t (a + 6), t (a + 5), t (a + 4), t (a + 3), t (a + 2), t (a + 1), t a] := by
  have e6 : ((6 : Nat) : Int) = 6 := rfl
  have e5 : ((5 : Nat) : Int) = 5 := rfl
  have e4 : ((4 : Nat) : Int) = 4 := rfl
  have e3 : ((3 : Nat) : Int) = 3 := rfl
  have e2 : ((2 : Nat) : Int) = 2 := rfl
  have e1 : ((1 : Nat) : Int) = 1 := rfl
  have e0 : ((0 : Nat) : Int) = 0 := rfl
  show [t (a + ((6 : Nat) : Int)), t (a + ((5 : Nat) : Int)), t (a + ((4 : Nat) : Int)), t (a + ((3 : Nat) : Int)), t (a + ((2 : Nat) : Int)), t (a + ((1 : Nat) : Int)), t (a + ((0 : Nat) : Int))] = _
  rw [e6, e5, e4, e3, e2, e1, e0, Int.add_zero]
/-- a word is told alike -/
theorem cc_W (h1 : a ≤ n) (h0 : a < n → cl (t a) ≠ 0) (hz : 0 ≤ t a) (i : Nat) (hi : i < 21) : (tk t n a = 1 ∧ tv t n a = Hs i) ↔ cc t n a = 1000 + i := by
  obtain ⟨w1, w2⟩ : okWb (WL.getD i []) = true ∧ (i ≠ 13 → Hs i = HR (WL.getD i []) ∧ (WL.getD i []).length ≤ 6 ∧ 1 ≤ Hs i) := WL_all ⟨i, hi⟩
  unfold tk tv cc
  by_cases c : a = n
  · rw [if_pos c, if_pos c, if_pos c]
    constructor
    · intro q; omega
    · intro q; omega
  · rw [if_neg c, if_neg c, if_neg c]
    by_cases c1 : cl (t a) = 1
    · rw [if_pos c1, if_pos c1, if_pos c1, wix_at _ WL 1000 i WL_nd (by rw [WL_ln]; omega) (by omega)]
      have ew : WL[i]? = some (WL.getD i []) := by
        have : i < WL.length := by rw [WL_ln]; exact hi
        rw [List.getD_eq_getElem?_getD, List.getElem?_eq_getElem this]; rfl
      have hl := rr_len t a (te t n a - a).toNat
      have hb := te_b t h1
      rw [ew]
      have e1 : (some (WL.getD i []) = some (rr t a (te t n a - a).toNat)) ↔ WL.getD i [] = rr t a (te t n a - a).toNat := ⟨fun q => by injection q, fun q => by rw [q]⟩
      rw [e1]
      by_cases c6 : te t n a - a ≤ 6
      · rw [if_pos c6, hw_HR]
        by_cases c13 : i = 13
        · subst c13
          have := HR_0 (cc_ru (t := t) (n := n) (by omega) c1)
          constructor
          · intro q
            rw [Hs_13] at q
            omega
          · intro q
            have : (WL.getD 13 []).length = (te t n a - a).toNat := by rw [q, hl]
            have e7 : (WL.getD 13 []).length = 7 := rfl
            omega
        · obtain ⟨w2, w3, w4⟩ := w2 c13
          constructor
          · intro q
            exact (HR_inj (cc_ru (by omega) c1) (okWb_ok w1) (q.2.trans w2)).symm
          · intro q
            exact ⟨rfl, by rw [← q]; exact w2.symm⟩
      · rw [if_neg c6]
        by_cases c13 : i = 13
        · subst c13
          rw [Hs_13, WL_13]
          constructor
          · intro q
            by_cases cp : isPl t n a
            · have e7 : (te t n a - a).toNat = 7 := by omega
              rw [e7, rr7, cp.2.1, cp.2.2.1, cp.2.2.2.1, cp.2.2.2.2.1, cp.2.2.2.2.2.1, cp.2.2.2.2.2.2.1, cp.2.2.2.2.2.2.2]
            · rw [if_neg cp] at q
              omega
          · intro q
            have e7 : (te t n a - a).toNat = 7 := by
              have := congrArg List.length q
              rw [hl] at this
              exact this.symm
            rw [e7, rr7] at q
            simp only [List.cons.injEq, and_true] at q
            have cp : isPl t n a := ⟨by omega, by omega, by omega, by omega, by omega, by omega, by omega, by omega⟩
            exact ⟨rfl, if_pos cp⟩
        · obtain ⟨w2, w3, w4⟩ := w2 c13
          constructor
          · intro q
            have := q.2
            split at this <;> omega
          · intro q
            have := congrArg List.length q
            rw [hl] at this
            omega
    · rw [if_neg c1, if_neg c1, if_neg c1]
      by_cases c2 : cl (t a) = 2
      · rw [if_pos c2, if_pos c2, if_pos c2]
        have hb := te_b t h1
        by_cases c3 : te t n a - a ≤ 3
        · have := cc_nm (t := t) (n := n) (by omega) c2 (m := (te t n a - a).toNat) (by omega) (by omega)
          rw [if_pos c3, if_pos c3]
          omega
        · rw [if_neg c3, if_neg c3]
          omega
      · rw [if_neg c2, if_neg c2, if_neg c2]
        omega
theorem cc_M (h1 : a ≤ n) (h0 : a < n → cl (t a) ≠ 0) (hz : 0 ≤ t a ∧ t a ≤ 255) {b : Int} (hb : 0 ≤ b ∧ b ≤ 255) : (tk t n a = 3 ∧ tv t n a = b) ↔ cc t n a = 2000 + b := by
  unfold tk tv cc
  by_cases c : a = n
  · rw [if_pos c, if_pos c, if_pos c]
    omega
  · rw [if_neg c, if_neg c, if_neg c]
    by_cases c1 : cl (t a) = 1
    · rw [if_pos c1, if_pos c1, if_pos c1]
      have := wix_b (rr t a (te t n a - a).toNat) WL 1000
      rw [WL_ln] at this
      omega
    · rw [if_neg c1, if_neg c1, if_neg c1]
      by_cases c2 : cl (t a) = 2
      · rw [if_pos c2, if_pos c2, if_pos c2]
        have hq := te_b t h1
        by_cases c3 : te t n a - a ≤ 3
        · have := cc_nm (t := t) (n := n) (by omega) c2 (m := (te t n a - a).toNat) (by omega) (by omega)
          rw [if_pos c3, if_pos c3]
          omega
        · rw [if_neg c3, if_neg c3]
          omega
      · rw [if_neg c2, if_neg c2, if_neg c2]
        omega
theorem cc_N (h1 : a ≤ n) (h0 : a < n → cl (t a) ≠ 0) (hz : 0 ≤ t a) : ((tk t n a = 2 ∧ te t n a - a ≤ 3) ↔ cc t n a ≤ 999) ∧ (cc t n a ≤ 999 → tv t n a = cc t n a) ∧ 0 ≤ cc t n a := by
  unfold tk tv cc
  by_cases c : a = n
  · rw [if_pos c, if_pos c, if_pos c]
    omega
  · rw [if_neg c, if_neg c, if_neg c]
    by_cases c1 : cl (t a) = 1
    · rw [if_pos c1, if_pos c1, if_pos c1]
      have := wix_b (rr t a (te t n a - a).toNat) WL 1000
      rw [WL_ln] at this
      omega
    · rw [if_neg c1, if_neg c1, if_neg c1]
      by_cases c2 : cl (t a) = 2
      · rw [if_pos c2, if_pos c2, if_pos c2]
        have hq := te_b t h1
        by_cases c3 : te t n a - a ≤ 3
        · have := cc_nm (t := t) (n := n) (by omega) c2 (m := (te t n a - a).toNat) (by omega) (by omega)
          rw [if_pos c3, if_pos c3]
          omega
        · rw [if_neg c3, if_neg c3]
          omega
      · rw [if_neg c2, if_neg c2, if_neg c2]
        omega
theorem cc_E (h1 : a ≤ n) (hz : 0 ≤ t a ∧ t a ≤ 255) : tk t n a = 0 ↔ cc t n a = 3000 := by
  unfold tk cc
  by_cases c : a = n
  · rw [if_pos c, if_pos c]
    omega
  · rw [if_neg c, if_neg c]
    by_cases c1 : cl (t a) = 1
    · rw [if_pos c1, if_pos c1]
      have := wix_b (rr t a (te t n a - a).toNat) WL 1000
      rw [WL_ln] at this
      omega
    · rw [if_neg c1, if_neg c1]
      by_cases c2 : cl (t a) = 2
      · rw [if_pos c2, if_pos c2]
        have hq := te_b t h1
        by_cases c3 : te t n a - a ≤ 3
        · have := cc_nm (t := t) (n := n) (by omega) c2 (m := (te t n a - a).toNat) (by omega) (by omega)
          rw [if_pos c3]
          omega
        · rw [if_neg c3]
          omega
      · rw [if_neg c2, if_neg c2]
        omega
theorem cc_i (h1 : a ≤ n) (h0 : a < n → cl (t a) ≠ 0) (hz : 0 ≤ t a ∧ t a ≤ 255) : 0 ≤ cc t n a ∧ cc t n a ≤ 3001 := by
  have h2 := (cc_N h1 h0 hz.1).2.2
  refine ⟨h2, ?_⟩
  unfold cc
  by_cases c : a = n
  · rw [if_pos c]; omega
  · rw [if_neg c]
    by_cases c1 : cl (t a) = 1
    · rw [if_pos c1]
      have := wix_b (rr t a (te t n a - a).toNat) WL 1000
      rw [WL_ln] at this
      omega
    · rw [if_neg c1]
      by_cases c2 : cl (t a) = 2
      · rw [if_pos c2]
        have hq := te_b t h1
        by_cases c3 : te t n a - a ≤ 3
        · have := cc_nm (t := t) (n := n) (by omega) c2 (m := (te t n a - a).toNat) (by omega) (by omega)
          rw [if_pos c3]
          omega
        · rw [if_neg c3]; omega
      · rw [if_neg c2]; omega
theorem tv_i (h1 : a ≤ n) (h0 : a < n → cl (t a) ≠ 0) (hz : 0 ≤ t a ∧ t a ≤ 255) : i32 (tv t n a) := by
  unfold tv
  by_cases c : a = n
  · rw [if_pos c]; exact ⟨by omega, by omega⟩
  · rw [if_neg c]
    by_cases c1 : cl (t a) = 1
    · rw [if_pos c1]
      by_cases c6 : te t n a - a ≤ 6
      · rw [if_pos c6]
        have hb := te_b t h1
        have := hw_i t a (te t n a - a).toNat (fun j j0 j1 => (te_in t (n := n) (by omega) (Or.inl c1) j0 (by omega)).trans c1) (by omega)
        exact ⟨by omega, by omega⟩
      · rw [if_neg c6]
        split <;> exact ⟨by omega, by omega⟩
    · rw [if_neg c1]
      by_cases c2 : cl (t a) = 2
      · rw [if_pos c2]
        have hq := te_b t h1
        have := cc_nm (t := t) (n := n) (by omega) c2 (m := if te t n a - a ≤ 3 then (te t n a - a).toNat else 3) (by split <;> omega) (by split <;> omega)
        exact ⟨by omega, by omega⟩
      · rw [if_neg c2]; exact ⟨by omega, by omega⟩
/-! the class looks a word up -/
def scn (t : Int → Int) (a : Int) (len : Nat) : List Int → Int → Int → Int
  | [], _, _ => 3001
  | ch :: r, w, s => if ch = 32 then (if s = len then w else scn t a len r (w + 1) 0) else scn t a len r w (if 0 ≤ s ∧ s < len ∧ t (a + s) = ch then s + 1 else -1)
def sU (t : Int → Int) (a : Int) (len : Nat) (u : List Int) : Int := if u.length ≤ len ∧ rr t a u.length = u.reverse then (u.length : Int) else -1
theorem scn_go (len : Nat) (r : List Int) (w : Int) : ∀ (v u : List Int), (∀ d, d ∈ v → d ≠ 32) → scn t a len (v ++ 32 :: r) w (sU t a len u) = if rr t a len = (u ++ v).reverse then w else scn t a len r (w + 1) 0
  | [], u, _ => by
    rw [List.nil_append, List.append_nil, scn, if_pos rfl]
    have e : (sU t a len u = (len : Int)) ↔ rr t a len = u.reverse := by
      unfold sU
      constructor
      · intro q
        by_cases c : u.length ≤ len ∧ rr t a u.length = u.reverse
        · rw [if_pos c] at q
          have e2 : u.length = len := by omega
          rw [← e2]; exact c.2
        · rw [if_neg c] at q; omega
      · intro q
        have e2 : len = u.length := by
          have := congrArg List.length q
          rw [rr_len, List.length_reverse] at this
          exact this
        rw [if_pos ⟨by omega, by rw [← e2]; exact q⟩, e2]
    by_cases c : sU t a len u = (len : Int)
    · rw [if_pos c, if_pos (e.mp c)]
    · rw [if_neg c, if_neg (fun q => c (e.mpr q))]
  | d :: v, u, h => by
    rw [List.cons_append, scn, if_neg (h d List.mem_cons_self)]
    have es : (if 0 ≤ sU t a len u ∧ sU t a len u < len ∧ t (a + sU t a len u) = d then sU t a len u + 1 else -1) = sU t a len (u ++ [d]) := by
      have hl : (u ++ [d]).length = u.length + 1 := by rw [List.length_append]; rfl
      have hr : (u ++ [d]).reverse = d :: u.reverse := by rw [List.reverse_append]; rfl
      unfold sU
      rw [hl, hr, rr]
      by_cases c : u.length ≤ len ∧ rr t a u.length = u.reverse
      · rw [if_pos c]
        by_cases c2 : (u.length : Int) < len ∧ t (a + u.length) = d
        · rw [if_pos ⟨by omega, c2⟩, if_pos ⟨by omega, by rw [c2.2, c.2]⟩]
          omega
        · rw [if_neg (fun q => c2 q.2), if_neg (fun q => c2 ⟨by omega, by
            have := q.2
            injection this⟩)]
      · rw [if_neg c, if_neg (by omega), if_neg (fun q => c ⟨by omega, by
          have := q.2
          injection this⟩)]
    rw [es, scn_go len r w v (u ++ [d]) (fun x hx => h x (List.mem_cons_of_mem _ hx)), List.append_assoc]
    rfl
theorem scn_ws (len : Nat) : ∀ (ws : List (List Int)) (w : Int), (∀ x, x ∈ ws → ∀ d, d ∈ x → d ≠ 32) → scn t a len (ws.flatMap fun x => x.reverse ++ [32]) w 0 = wix (rr t a len) ws w
  | [], _, _ => rfl
  | x :: ws, w, h => by
    have e0 : sU t a len [] = 0 := if_pos ⟨Nat.zero_le _, rfl⟩
    rw [List.flatMap_cons, List.append_assoc, List.singleton_append, ← e0, scn_go len _ w x.reverse [] (fun d hd => h x List.mem_cons_self d (List.mem_reverse.mp hd)), List.nil_append, List.reverse_reverse, wix, scn_ws len ws (w + 1) (fun y hy => h y (List.mem_cons_of_mem _ hy))]
end CODES
/-- the signs of the text of the words -/
def gWz : List Int := WL.flatMap fun x => x.reverse ++ [32]
theorem gWz_ok : gWz.map iI = gWb := by decide +kernel
theorem gWz_ln : gWz.length = 107 := by decide +kernel
theorem WL_32 : (WL.all fun x => x.all fun d => decide (d ≠ 32)) = true := by decide +kernel
theorem scn_W (t : Int → Int) (a : Int) (len : Nat) : scn t a len gWz 1000 0 = wix (rr t a len) WL 1000 := scn_ws len WL 1000 (fun x hx d hd => by
  have := WL_32
  rw [List.all_eq_true] at this
  have := this x hx
  rw [List.all_eq_true] at this
  exact of_decide_eq_true (this d hd))

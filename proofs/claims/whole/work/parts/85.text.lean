/-! ===== a text, cut into tokens: numbers alone ===== -/
/-- what a byte is: 0 blank, 1 letter, 2 digit, 3 sign -/
def cl (b : Int) : Int := if b = 32 then 0 else if 97 ≤ b ∧ b ≤ 122 then 1 else if 48 ≤ b ∧ b ≤ 57 then 2 else 3
theorem cl_b (b : Int) : 0 ≤ cl b ∧ cl b ≤ 3 := by
  unfold cl
  repeat' split
  all_goals omega
theorem cl_1 {b : Int} (h : cl b = 1) : 97 ≤ b ∧ b ≤ 122 := by
  unfold cl at h
  repeat' split at h
  all_goals omega
theorem cl_2 {b : Int} (h : cl b = 2) : 48 ≤ b ∧ b ≤ 57 := by
  unfold cl at h
  repeat' split at h
  all_goals omega
/-- past the bytes of the kind c, m at most -/
def rn (t : Int → Int) (c : Int) : Nat → Int → Int
  | 0, i => i
  | m + 1, i => if cl (t i) = c then rn t c m (i + 1) else i
theorem rn_b (t : Int → Int) (c : Int) : ∀ (m : Nat) (i : Int), i ≤ rn t c m i ∧ rn t c m i ≤ i + m
  | 0, i => by show i ≤ i ∧ i ≤ i + ((0 : Nat) : Int); omega
  | m + 1, i => by
    have := rn_b t c m (i + 1)
    rw [rn]
    split <;> omega
theorem rn_in (t : Int → Int) (c : Int) : ∀ (m : Nat) (i j : Int), i ≤ j → j < rn t c m i → cl (t j) = c
  | 0, i, j, h0, h1 => by
    have : rn t c 0 i = i := rfl
    omega
  | m + 1, i, j, h0, h1 => by
    rw [rn] at h1
    split at h1
    · rename_i h2
      by_cases e : j = i
      · rw [e]; exact h2
      · exact rn_in t c m (i + 1) j (by omega) h1
    · omega
theorem rn_out (t : Int → Int) (c : Int) : ∀ (m : Nat) (i : Int), rn t c m i < i + m → cl (t (rn t c m i)) ≠ c
  | 0, i, h => by
    have : rn t c 0 i = i := rfl
    omega
  | m + 1, i, h => by
    rw [rn] at h ⊢
    by_cases h2 : cl (t i) = c
    · rw [if_pos h2] at h ⊢
      exact rn_out t c m (i + 1) (by omega)
    · rw [if_neg h2]
      exact h2
/-- where blanks end -/
def sk (t : Int → Int) (n p : Int) : Int := rn t 0 (n - p).toNat p
/-- the kind of the token at a: 0 the end, 1 a word, 2 digits, 3 a sign -/
def tk (t : Int → Int) (n a : Int) : Int := if a = n then 0 else if cl (t a) = 1 then 1 else if cl (t a) = 2 then 2 else 3
/-- where it ends -/
def te (t : Int → Int) (n a : Int) : Int := if a = n then n else if cl (t a) = 1 then rn t 1 (n - a).toNat a else if cl (t a) = 2 then rn t 2 (n - a).toNat a else a + 1
/-- a word's number -/
def hw (t : Int → Int) (a : Int) : Nat → Int
  | 0 => 0
  | m + 1 => 27 * hw t a m + t (a + m) - 96
/-- the number that m digits tell -/
def nm (t : Int → Int) (a : Int) : Nat → Int
  | 0 => 0
  | m + 1 => 10 * nm t a m + t (a + m) - 48
/-- pleaded -/
abbrev isPl (t : Int → Int) (n a : Int) : Prop := te t n a - a = 7 ∧ t a = 112 ∧ t (a + 1) = 108 ∧ t (a + 2) = 101 ∧ t (a + 3) = 97 ∧ t (a + 4) = 100 ∧ t (a + 5) = 101 ∧ t (a + 6) = 100
/-- its value -/
def tv (t : Int → Int) (n a : Int) : Int := if a = n then 0 else if cl (t a) = 1 then (if te t n a - a ≤ 6 then hw t a (te t n a - a).toNat else if isPl t n a then -2 else 0) else if cl (t a) = 2 then nm t a (if te t n a - a ≤ 3 then (te t n a - a).toNat else 3) else t a
/-- a token begins -/
abbrev st0 (t : Int → Int) (i : Int) : Prop := cl (t i) = 3 ∨ ((cl (t i) = 1 ∨ cl (t i) = 2) ∧ (i = 0 ∨ cl (t (i - 1)) ≠ cl (t i)))
def tl (t : Int → Int) : Nat → Int → List Int
  | 0, _ => []
  | m + 1, i => if st0 t i then i :: tl t m (i + 1) else tl t m (i + 1)
theorem tl_len (t : Int → Int) : ∀ (m : Nat) (i : Int), (tl t m i).length ≤ m
  | 0, _ => Nat.le_refl 0
  | m + 1, i => by
    have := tl_len t m (i + 1)
    rw [tl]
    split
    · rw [List.length_cons]; omega
    · omega
theorem tl_in (t : Int → Int) : ∀ (m : Nat) (i x : Int), x ∈ tl t m i → i ≤ x ∧ x < i + m
  | 0, i, x, h => by cases h
  | m + 1, i, x, h => by
    rw [tl] at h
    split at h
    · rcases List.mem_cons.mp h with e | e
      · omega
      · have := tl_in t m (i + 1) x e
        omega
    · have := tl_in t m (i + 1) x h
      omega
theorem tl_skip (t : Int → Int) : ∀ (d m : Nat) (p : Int), (∀ j, p ≤ j → j < p + d → ¬ st0 t j) → tl t (d + m) p = tl t m (p + d)
  | 0, m, p, _ => by
    rw [Nat.zero_add]
    show tl t m p = tl t m (p + ((0 : Nat) : Int))
    rw [Int.natCast_zero, Int.add_zero]
  | d + 1, m, p, h => by
    have e : d + 1 + m = (d + m) + 1 := by omega
    rw [e, tl, if_neg (h p (by omega) (by omega)), tl_skip t d m (p + 1) (fun j h0 h1 => h j (by omega) (by omega))]
    have e2 : p + 1 + (d : Int) = p + ((d + 1 : Nat) : Int) := by omega
    rw [e2]
/-- where a token may begin, or blanks -/
abbrev bd (t : Int → Int) (n p : Int) : Prop := p = n ∨ p = 0 ∨ cl (t (p - 1)) = 3 ∨ cl (t (p - 1)) ≠ cl (t p)
theorem sk_b (t : Int → Int) {n p : Int} (h : p ≤ n) : p ≤ sk t n p ∧ sk t n p ≤ n := by
  have := rn_b t 0 (n - p).toNat p
  unfold sk
  omega
theorem te_b (t : Int → Int) {n a : Int} (h : a ≤ n) : a ≤ te t n a ∧ te t n a ≤ n ∧ (a < n → a < te t n a) := by
  have h1 := rn_b t 1 (n - a).toNat a
  have h2 := rn_b t 2 (n - a).toNat a
  unfold te
  by_cases c : a = n
  · rw [if_pos c]; omega
  · rw [if_neg c]
    by_cases c1 : cl (t a) = 1
    · rw [if_pos c1]
      refine ⟨by omega, by omega, fun _ => ?_⟩
      obtain ⟨m, hm⟩ : ∃ m : Nat, (n - a).toNat = m + 1 := ⟨(n - a).toNat - 1, by omega⟩
      rw [hm, rn, if_pos c1]
      have := rn_b t 1 m (a + 1)
      omega
    · rw [if_neg c1]
      by_cases c2 : cl (t a) = 2
      · rw [if_pos c2]
        refine ⟨by omega, by omega, fun _ => ?_⟩
        obtain ⟨m, hm⟩ : ∃ m : Nat, (n - a).toNat = m + 1 := ⟨(n - a).toNat - 1, by omega⟩
        rw [hm, rn, if_pos c2]
        have := rn_b t 2 m (a + 1)
        omega
      · rw [if_neg c2]; omega
/-- inside a word or digits all is of the first's kind -/
theorem te_in (t : Int → Int) {n a j : Int} (h : a < n) (hc : cl (t a) = 1 ∨ cl (t a) = 2) (h0 : a ≤ j) (h1 : j < te t n a) : cl (t j) = cl (t a) := by
  unfold te at h1
  rw [if_neg (by omega)] at h1
  rcases hc with c | c
  · rw [if_pos c] at h1
    rw [c]
    exact rn_in t 1 _ a j h0 h1
  · rw [if_neg (by omega), if_pos c] at h1
    rw [c]
    exact rn_in t 2 _ a j h0 h1
theorem te_out (t : Int → Int) {n a : Int} (h : a < n) (hc : cl (t a) = 1 ∨ cl (t a) = 2) (h1 : te t n a < n) : cl (t (te t n a)) ≠ cl (t a) := by
  unfold te at h1 ⊢
  rw [if_neg (by omega)] at h1 ⊢
  rcases hc with c | c
  · rw [if_pos c] at h1 ⊢
    rw [c]
    exact rn_out t 1 _ a (by omega)
  · rw [if_neg (by omega), if_pos c] at h1 ⊢
    rw [c]
    exact rn_out t 2 _ a (by omega)
theorem sk_0 (t : Int → Int) {n p : Int} (h : p ≤ n) (h1 : sk t n p < n) : cl (t (sk t n p)) ≠ 0 := by
  unfold sk at h1 ⊢
  exact rn_out t 0 _ p (by omega)
theorem te_bd (t : Int → Int) {n a : Int} (h : a ≤ n) (h0 : a < n → cl (t a) ≠ 0) : bd t n (te t n a) := by
  by_cases c : a = n
  · left; unfold te; rw [if_pos c]
  · have hb := te_b t h
    by_cases c3 : cl (t a) = 1 ∨ cl (t a) = 2
    · by_cases c4 : te t n a < n
      · right; right; right
        have := te_in t (n := n) (by omega) c3 (j := te t n a - 1) (by omega) (by omega)
        have := te_out t (n := n) (by omega) c3 c4
        omega
      · left; omega
    · right; right; left
      have := cl_b (t a)
      have := h0 (by omega)
      have e : te t n a = a + 1 := by
        unfold te
        rw [if_neg c, if_neg (by omega), if_neg (by omega)]
      rw [e, Int.add_sub_cancel]
      omega
/-- from a border on: nothing more, or the next token -/
theorem tl_bd (t : Int → Int) {n p : Int} (h0 : 0 ≤ p) (h : p ≤ n) (hb : bd t n p) : tl t (n - p).toNat p = if sk t n p = n then [] else sk t n p :: tl t (n - te t n (sk t n p)).toNat (te t n (sk t n p)) := by
  have hs := sk_b t h
  have e1 : tl t (n - p).toNat p = tl t (n - sk t n p).toNat (sk t n p) := by
    have := tl_skip t (sk t n p - p).toNat (n - sk t n p).toNat p (fun j j0 j1 => by
      have := rn_in t 0 (n - p).toNat p j j0 (by unfold sk at j1 hs; omega)
      intro q
      omega)
    have e2 : (sk t n p - p).toNat + (n - sk t n p).toNat = (n - p).toNat := by omega
    have e3 : p + ((sk t n p - p).toNat : Int) = sk t n p := by omega
    rw [e2, e3] at this
    exact this
  rw [e1]
  by_cases c : sk t n p = n
  · rw [if_pos c, c, Int.sub_self]; rfl
  · rw [if_neg c]
    have c0 := sk_0 t h (by omega)
    have hst : st0 t (sk t n p) := by
      have := cl_b (t (sk t n p))
      by_cases c3 : cl (t (sk t n p)) = 3
      · left; exact c3
      · right
        refine ⟨by omega, ?_⟩
        by_cases cp : sk t n p = p
        · rw [cp] at c3 c0 ⊢
          omega
        · right
          have := rn_in t 0 (n - p).toNat p (sk t n p - 1) (by omega) (by unfold sk at hs ⊢; omega)
          omega
    have hq := te_b t hs.2
    generalize sk t n p = q at *
    obtain ⟨m, hm⟩ : ∃ m : Nat, (n - q).toNat = m + 1 := ⟨(n - q).toNat - 1, by omega⟩
    rw [hm, tl, if_pos hst]
    have := tl_skip t (te t n q - (q + 1)).toNat (n - te t n q).toNat (q + 1) (fun j j0 j1 z => by
      by_cases c3 : cl (t q) = 1 ∨ cl (t q) = 2
      · have a1 := te_in t (n := n) (by omega) c3 (j := j) (by omega) (by omega)
        have a2 := te_in t (n := n) (by omega) c3 (j := j - 1) (by omega) (by omega)
        omega
      · have e : te t n q = q + 1 := by
          unfold te
          rw [if_neg c, if_neg (by omega), if_neg (by omega)]
        omega)
    have e2 : (te t n q - (q + 1)).toNat + (n - te t n q).toNat = m := by omega
    have e3 : q + 1 + ((te t n q - (q + 1)).toNat : Int) = te t n q := by omega
    rw [e2, e3] at this
    rw [this]
/-- where the k-th token begins (or the end) -/
def PL (t : Int → Int) (n k : Int) : Int := (tl t n.toNat 0).getD k.toNat n
/-- how many there are -/
def PN (t : Int → Int) (n : Int) : Int := (tl t n.toNat 0).length
theorem PN_b (t : Int → Int) {n : Int} (h : 0 ≤ n) : 0 ≤ PN t n ∧ PN t n ≤ n := by
  have := tl_len t n.toNat 0
  unfold PN
  omega
theorem tl_drop (t : Int → Int) {n : Int} (h : 0 ≤ n) : ∀ k : Nat, k ≤ (tl t n.toNat 0).length → ∃ p, 0 ≤ p ∧ p ≤ n ∧ bd t n p ∧ (tl t n.toNat 0).drop k = tl t (n - p).toNat p ∧ (∀ j : Nat, k = j + 1 → p = te t n (PL t n j))
  | 0, _ => ⟨0, by omega, h, Or.inr (Or.inl rfl), by rw [List.drop_zero, Int.sub_zero], fun j hj => by omega⟩
  | k + 1, hk => by
    obtain ⟨p, h0, h1, hb, hd, _⟩ := tl_drop t h k (by omega)
    have hs := sk_b t h1
    rw [tl_bd t h0 h1 hb] at hd
    have hl : k < (tl t n.toNat 0).length := by omega
    have hd2 := List.drop_eq_getElem_cons hl
    rw [hd] at hd2
    by_cases c : sk t n p = n
    · rw [if_pos c] at hd2; cases hd2
    · rw [if_neg c] at hd2
      injection hd2 with e1 e2
      have hq := te_b t hs.2
      have ep : PL t n k = sk t n p := by
        unfold PL
        rw [Int.toNat_natCast, List.getD_eq_getElem?_getD, List.getElem?_eq_getElem hl, ← e1]; rfl
      exact ⟨te t n (sk t n p), by omega, hq.2.1, te_bd t hs.2 (fun q => sk_0 t h1 q), e2.symm, fun j hj => by
        have : j = k := by omega
        rw [this, ep]⟩
theorem PL_sk (t : Int → Int) {n : Int} (h : 0 ≤ n) {k : Nat} (hk : k ≤ (tl t n.toNat 0).length) {p : Int} (h0 : 0 ≤ p) (h1 : p ≤ n) (hb : bd t n p) (hd : (tl t n.toNat 0).drop k = tl t (n - p).toNat p) : PL t n k = sk t n p := by
  rw [tl_bd t h0 h1 hb] at hd
  unfold PL
  rw [Int.toNat_natCast, List.getD_eq_getElem?_getD]
  by_cases c : sk t n p = n
  · rw [if_pos c] at hd
    have : (tl t n.toNat 0).length ≤ k := List.drop_eq_nil_iff.mp hd
    rw [List.getElem?_eq_none this, c]; rfl
  · rw [if_neg c] at hd
    have hl : k < (tl t n.toNat 0).length := by
      rcases Nat.lt_or_ge k (tl t n.toNat 0).length with q | q
      · exact q
      · rw [List.drop_eq_nil_iff.mpr q] at hd; cases hd
    have hd2 := List.drop_eq_getElem_cons hl
    rw [hd] at hd2
    injection hd2 with e1 e2
    rw [List.getElem?_eq_getElem hl, ← e1]; rfl
theorem PL_0 (t : Int → Int) {n : Int} (h : 0 ≤ n) : PL t n 0 = sk t n 0 :=
  PL_sk t h (k := 0) (Nat.zero_le _) (Int.le_refl 0) h (Or.inr (Or.inl rfl)) (by rw [List.drop_zero, Int.sub_zero])
theorem PL_end (t : Int → Int) {n k : Int} (h : PN t n ≤ k) : PL t n k = n := by
  unfold PL
  unfold PN at h
  rw [List.getD_eq_getElem?_getD, List.getElem?_eq_none (by omega)]; rfl
theorem PL_lt (t : Int → Int) {n k : Int} (h : 0 ≤ n) (h0 : 0 ≤ k) (h1 : k < PN t n) : 0 ≤ PL t n k ∧ PL t n k < n := by
  unfold PN at h1
  unfold PL
  have hl : k.toNat < (tl t n.toNat 0).length := by omega
  rw [List.getD_eq_getElem?_getD, List.getElem?_eq_getElem hl]
  have := tl_in t n.toNat 0 _ (List.getElem_mem hl)
  show 0 ≤ (tl t n.toNat 0)[k.toNat] ∧ (tl t n.toNat 0)[k.toNat] < n
  omega
theorem PL_b (t : Int → Int) {n k : Int} (h : 0 ≤ n) (h0 : 0 ≤ k) : 0 ≤ PL t n k ∧ PL t n k ≤ n := by
  by_cases c : k < PN t n
  · have := PL_lt t h h0 c; omega
  · rw [PL_end t (by omega)]; omega
/-- the next token -/
theorem PL_s (t : Int → Int) {n k : Int} (h : 0 ≤ n) (h0 : 0 ≤ k) : PL t n (k + 1) = sk t n (te t n (PL t n k)) := by
  by_cases c : k < PN t n
  · obtain ⟨p, p0, p1, p2, p3, p4⟩ := tl_drop t h (k.toNat + 1) (by unfold PN at c; omega)
    have e := PL_sk t h (k := k.toNat + 1) (by unfold PN at c; omega) p0 p1 p2 p3
    have e2 := p4 k.toNat rfl
    have ek : ((k.toNat : Nat) : Int) = k := by omega
    have ek1 : ((k.toNat + 1 : Nat) : Int) = k + 1 := by omega
    rw [ek] at e2
    rw [ek1] at e
    rw [e, e2]
  · rw [PL_end t (k := k + 1) (by omega), PL_end t (k := k) (by omega)]
    have e : te t n n = n := by unfold te; rw [if_pos rfl]
    rw [e]
    unfold sk
    rw [Int.sub_self]; rfl
/-- what begins there isn't a blank -/
theorem PL_n0 (t : Int → Int) {n k : Int} (h : 0 ≤ n) (h0 : 0 ≤ k) (h1 : k < PN t n) : cl (t (PL t n k)) ≠ 0 := by
  obtain ⟨p, p0, p1, p2, p3, p4⟩ := tl_drop t h k.toNat (by unfold PN at h1; omega)
  have e := PL_sk t h (k := k.toNat) (by unfold PN at h1; omega) p0 p1 p2 p3
  have ek : ((k.toNat : Nat) : Int) = k := by omega
  rw [ek] at e
  have := PL_lt t h h0 h1
  rw [e] at this ⊢
  exact sk_0 t p1 this.2
/-! words -/
/-- m bytes, the last first -/
def rr (t : Int → Int) (a : Int) : Nat → List Int
  | 0 => []
  | m + 1 => t (a + m) :: rr t a m
def HR : List Int → Int
  | [] => 0
  | d :: r => 27 * HR r + d - 96
def okW (r : List Int) : Prop := ∀ d, d ∈ r → 97 ≤ d ∧ d ≤ 122
theorem HR_0 : ∀ {r : List Int}, okW r → 0 ≤ HR r
  | [], _ => Int.le_refl 0
  | d :: r, h => by
    have := HR_0 (r := r) (fun x hx => h x (List.mem_cons_of_mem _ hx))
    have := h d List.mem_cons_self
    rw [HR]
    omega
theorem HR_inj : ∀ {r s : List Int}, okW r → okW s → HR r = HR s → r = s
  | [], [], _, _, _ => rfl
  | [], e :: s, _, hs, he => by
    have := HR_0 (r := s) (fun x hx => hs x (List.mem_cons_of_mem _ hx))
    have := hs e List.mem_cons_self
    rw [HR, HR] at he
    omega
  | d :: r, [], hr, _, he => by
    have := HR_0 (r := r) (fun x hx => hr x (List.mem_cons_of_mem _ hx))
    have := hr d List.mem_cons_self
    rw [HR, HR] at he
    omega
  | d :: r, e :: s, hr, hs, he => by
    have h1 := hr d List.mem_cons_self
    have h2 := hs e List.mem_cons_self
    rw [HR, HR] at he
    have e1 : HR r = HR s := by omega
    have e2 : d = e := by omega
    rw [e2, HR_inj (fun x hx => hr x (List.mem_cons_of_mem _ hx)) (fun x hx => hs x (List.mem_cons_of_mem _ hx)) e1]
theorem hw_HR (t : Int → Int) (a : Int) : ∀ m : Nat, hw t a m = HR (rr t a m)
  | 0 => rfl
  | m + 1 => by rw [hw, rr, HR, hw_HR t a m]
theorem rr_len (t : Int → Int) (a : Int) : ∀ m : Nat, (rr t a m).length = m
  | 0 => rfl
  | m + 1 => by rw [rr, List.length_cons, rr_len t a m]
theorem rr_ok (t : Int → Int) (a : Int) : ∀ m : Nat, (∀ j, a ≤ j → j < a + m → cl (t j) = 1) → okW (rr t a m)
  | 0, _ => fun d hd => by cases hd
  | m + 1, h => fun d hd => by
    rcases List.mem_cons.mp hd with e | e
    · rw [e]; exact cl_1 (h (a + m) (by omega) (by omega))
    · exact rr_ok t a m (fun j j0 j1 => h j j0 (by omega)) d e
theorem hw_b (t : Int → Int) (a : Int) : ∀ m : Nat, (∀ j, a ≤ j → j < a + m → cl (t j) = 1) → m ≤ 6 → 0 ≤ hw t a m ∧ hw t a m < 27 ^ m
  | 0, _, _ => by show (0 : Int) ≤ 0 ∧ (0 : Int) < 1; omega
  | m + 1, h, hm => by
    have h1 := hw_b t a m (fun j j0 j1 => h j j0 (by omega)) (by omega)
    have h2 := cl_1 (h (a + m) (by omega) (by omega))
    rw [hw]
    have e : (27 : Int) ^ (m + 1) = 27 ^ m * 27 := Int.pow_succ _ _
    omega
theorem hw_i (t : Int → Int) (a : Int) (m : Nat) (h : ∀ j, a ≤ j → j < a + m → cl (t j) = 1) (hm : m ≤ 6) : 0 ≤ hw t a m ∧ hw t a m < 387420489 := by
  have h1 := hw_b t a m h hm
  have : m = 0 ∨ m = 1 ∨ m = 2 ∨ m = 3 ∨ m = 4 ∨ m = 5 ∨ m = 6 := by omega
  rcases this with rfl | rfl | rfl | rfl | rfl | rfl | rfl
  · have e : (27 : Int) ^ 0 = 1 := rfl
    omega
  · have e : (27 : Int) ^ 1 = 27 := rfl
    omega
  · have e : (27 : Int) ^ 2 = 729 := rfl
    omega
  · have e : (27 : Int) ^ 3 = 19683 := rfl
    omega
  · have e : (27 : Int) ^ 4 = 531441 := rfl
    omega
  · have e : (27 : Int) ^ 5 = 14348907 := rfl
    omega
  · have e : (27 : Int) ^ 6 = 387420489 := rfl
    omega
theorem nm_b (t : Int → Int) (a : Int) (m : Nat) (h : ∀ j, a ≤ j → j < a + m → cl (t j) = 2) (hm : m ≤ 3) : 0 ≤ nm t a m ∧ nm t a m ≤ 999 ∧ (m ≤ 2 → nm t a m ≤ 99) ∧ (m ≤ 1 → nm t a m ≤ 9) := by
  have : m = 0 ∨ m = 1 ∨ m = 2 ∨ m = 3 := by omega
  rcases this with rfl | rfl | rfl | rfl
  · show (0 : Int) ≤ 0 ∧ (0 : Int) ≤ 999 ∧ _ ∧ _
    refine ⟨by omega, by omega, fun _ => ?_, fun _ => ?_⟩ <;> (show (0 : Int) ≤ _; omega)
  · have h0 := cl_2 (h a (by omega) (by omega))
    simp only [nm, Int.natCast_zero, Int.add_zero]
    omega
  · have h0 := cl_2 (h a (by omega) (by omega))
    have h1 := cl_2 (h (a + 1) (by omega) (by omega))
    simp only [nm, Int.natCast_zero, Int.add_zero, Int.natCast_one, Nat.zero_add]
    omega
  · have h0 := cl_2 (h a (by omega) (by omega))
    have h1 := cl_2 (h (a + 1) (by omega) (by omega))
    have h2 := cl_2 (h (a + 2) (by omega) (by omega))
    have e2 : ((1 + 1 : Nat) : Int) = 2 := rfl
    simp only [nm, Int.natCast_zero, Int.add_zero, Int.natCast_one, Nat.zero_add, e2]
    omega

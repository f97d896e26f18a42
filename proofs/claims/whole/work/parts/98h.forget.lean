/-! ===== how many signs wait is forgotten ===== -/
/-- the reference with u signs waiting -/
def uW (M : Nat) (u : Int32) (s : gH) : gH := if (s.1[M]?).map Prod.fst = some 11 then (s.1, (fun q n => if q = M ∧ n = 20 then u else s.2.1 q n), s.2.2) else s
/-- the count of waiting signs is kept as it is, or forgotten -/
def AB {α : Type} (M : Nat) (u : Int32) (P : gM α) : Prop := ∀ s, P (uW M u s) = P s ∨ P (uW M u s) = (P s).map fun q => (q.1, uW M u q.2)
section AB
variable {M : Nat} {u : Int32} {α β : Type}
theorem uW_1 (s : gH) : (uW M u s).1 = s.1 := by
  unfold uW
  split <;> rfl
theorem uW_3 (s : gH) : (uW M u s).2.2 = s.2.2 := by
  unfold uW
  split <;> rfl
theorem uW_2 (s : gH) {q n : Nat} (h : q ≠ M ∨ n ≠ 20) : (uW M u s).2.1 q n = s.2.1 q n := by
  unfold uW
  split
  · show (if q = M ∧ n = 20 then u else s.2.1 q n) = _
    rw [if_neg (by omega)]
  · rfl
theorem uW_p (s : gH) {a k : Nat} {v : Int32} (h : a ≠ M ∨ k ≠ 20) : uW M u (s.1, u2 s.2.1 a k v, s.2.2) = ((uW M u s).1, u2 (uW M u s).2.1 a k v, (uW M u s).2.2) := by
  unfold uW
  by_cases c : (s.1[M]?).map Prod.fst = some 11
  · rw [if_pos c, if_pos c]
    simp only [Prod.mk.injEq, true_and, and_true]
    funext q n
    unfold u2
    dsimp only
    by_cases e : q = M ∧ n = 20
    · rw [if_pos e, if_neg (by omega), if_pos e]
    · rw [if_neg e, if_neg e]
  · rw [if_neg c, if_neg c]
theorem AB_same {P : gM α} (h : ∀ s, P (uW M u s) = P s) : AB M u P := fun s => Or.inl (h s)
theorem AB_mp (a : α) : AB M u (mp a) := fun _ => Or.inr rfl
theorem AB_mf : AB M u (mf : gM α) := fun _ => Or.inl rfl
theorem AB_mz (v : Int32) : AB M u (mz v) := fun _ => by
  unfold mz
  split
  · exact Or.inr rfl
  · exact Or.inl rfl
theorem AB_mb {P : gM α} {f : α → gM β} (h : AB M u P) (k : ∀ a, AB M u (f a)) : AB M u (mb P f) := by
  intro s
  unfold mb
  rcases h s with e | e
  · left
    rw [e]
  · rw [e]
    cases hp : P s with
    | none => left; rfl
    | some q => exact k q.1 q.2
theorem AB_mv {ts : List Nat} {a : Nat} {f : gM α} (h : AB M u f) : AB M u (mv ts a f) := by
  intro s
  unfold mv
  rw [uW_1]
  cases hp : s.1[a]? with
  | none => left; rfl
  | some q =>
    dsimp only
    by_cases c : ts.contains q.1 = true
    · rw [if_pos c, if_pos c]; exact h s
    · rw [if_neg c, if_neg c]; left; rfl
theorem AB_ite {P : Prop} [Decidable P] {f g : gM α} (h : AB M u f) (k : AB M u g) : AB M u (if P then f else g) := by
  split
  · exact h
  · exact k
theorem AB_getI {ts : List Nat} {a k : Nat} (h : k ≠ 20) : AB M u (gGetI ts a k) := by
  unfold gGetI
  refine AB_mv fun s => Or.inr ?_
  rw [uW_2 s (Or.inr h)]; rfl
theorem AB_putI {ts : List Nat} {a k : Nat} {v : Int32} (h : k ≠ 20) : AB M u (gPutI ts a k v) := by
  unfold gPutI
  refine AB_mv fun s => Or.inr ?_
  show _ = some ((), uW M u (s.1, u2 s.2.1 a k v, s.2.2))
  rw [uW_p s (Or.inr h)]
theorem AB_getR {ts : List Nat} {a k : Nat} : AB M u (gGetR ts a k) := by
  unfold gGetR
  refine AB_mv fun s => ?_
  rw [uW_3]
  cases hp : s.2.2 a k with
  | none => left; rfl
  | some x => right; rfl
theorem uW_self {s : gH} (h : ¬ (s.1[M]?).map Prod.fst = some 11) : uW M u s = s := if_neg h
theorem AB_row {a : Nat} {i : Int32} {f : gM α} (h : a ≠ M → AB M u f) : AB M u (mi 100 a i f) := by
  by_cases e : a = M
  · intro s
    by_cases c : (s.1[M]?).map Prod.fst = some 11
    · left
      unfold mi
      rw [uW_1, e]
      cases hp : s.1[M]? with
      | none => rfl
      | some q =>
        rw [hp] at c
        have c' : q.1 = 11 := by injection c
        dsimp only
        rw [if_neg (by omega), if_neg (by omega)]
    · rw [uW_self c]; left; rfl
  · intro s
    unfold mi
    rw [uW_1]
    cases hp : s.1[a]? with
    | none => left; rfl
    | some q =>
      dsimp only
      by_cases c : q.1 = 100 ∧ ¬ (i < 0 ∨ q.2 ≤ i.toNatClampNeg)
      · rw [if_pos c, if_pos c]; exact h e s
      · rw [if_neg c, if_neg c]; left; rfl
theorem AB_ldI {a : Nat} {i : Int32} : AB M u (gLdI 100 a i) := by
  unfold gLdI
  refine AB_row fun e s => Or.inr ?_
  rw [uW_2 s (Or.inl e)]; rfl
theorem AB_stI {a : Nat} {i v : Int32} : AB M u (gStI 100 a i v) := by
  unfold gStI
  refine AB_row fun e s => Or.inr ?_
  show _ = some ((), uW M u (s.1, u2 s.2.1 a i.toNatClampNeg v, s.2.2))
  rw [uW_p s (Or.inl e)]
/-- the count is set anew -/
theorem AB_put20 {ts : List Nat} {v : Int32} {f : Unit → gM α} : AB M u (mb (gPutI ts M 20 v) f) := by
  refine AB_same fun s => ?_
  have e : gPutI ts M 20 v (uW M u s) = gPutI ts M 20 v s := by
    unfold gPutI mv
    rw [uW_1]
    cases hp : s.1[M]? with
    | none => rfl
    | some q =>
      dsimp only
      rw [uW_1, uW_3]
      have : u2 (uW M u s).2.1 M 20 v = u2 s.2.1 M 20 v := by
        funext a n
        unfold u2
        by_cases c : a = M ∧ n = 20
        · rw [if_pos c, if_pos c]
        · rw [if_neg c, if_neg c, uW_2 s (by omega)]
      rw [this]
  unfold mb
  rw [e]
/-- only the letters asked after -/
theorem AB_isLetter (v : Int32) : AB M u (m12_isLetter v) := by
  unfold m12_isLetter m12_isLetter_p16 m12_isLetter_p17
  repeat' (with_reducible (first | assumption | exact AB_mp _ | exact AB_mz _ | exact AB_mf | exact AB_getR | exact AB_ldI | exact AB_stI | exact AB_getI (by omega) | exact AB_putI (by omega) | refine AB_mb ?_ (fun _ => ?_) | refine AB_mv ?_ | refine AB_ite ?_ ?_))
theorem AB_isDigit (v : Int32) : AB M u (m12_isDigit v) := by
  unfold m12_isDigit m12_isDigit_p16 m12_isDigit_p17
  repeat' (with_reducible (first | assumption | exact AB_mp _ | exact AB_mz _ | exact AB_mf | exact AB_getR | exact AB_ldI | exact AB_stI | exact AB_getI (by omega) | exact AB_putI (by omega) | refine AB_mb ?_ (fun _ => ?_) | refine AB_mv ?_ | refine AB_ite ?_ ?_))
theorem AB_in (a b c : Int32) : AB M u (m12_in a b c) := by
  unfold m12_in m12_in_p14 m12_in_p15
  repeat' (with_reducible (first | assumption | exact AB_mp _ | exact AB_mz _ | exact AB_mf | exact AB_getR | exact AB_ldI | exact AB_stI | exact AB_getI (by omega) | exact AB_putI (by omega) | refine AB_mb ?_ (fun _ => ?_) | refine AB_mv ?_ | refine AB_ite ?_ ?_))
theorem AB_seven (x : Nat) : ∀ (n : Nat) (a b : Int32), AB M u (m12_isSeven_p22 n x a b) := by
  intro n
  induction n with
  | zero => intro a b; rw [m12_isSeven_p22]; exact AB_mf
  | succ n ih =>
    intro a b
    rw [m12_isSeven_p22]
    unfold m12_isSeven_p64 m12_isSeven_p57
    repeat' (with_reducible (first | assumption | exact AB_mp _ | exact AB_mz _ | exact AB_mf | exact AB_getR | exact AB_ldI | exact AB_stI | exact AB_getI (by omega) | exact AB_putI (by omega) | refine AB_mb ?_ (fun _ => ?_) | refine AB_mv ?_ | refine AB_ite ?_ ?_))
    all_goals with_reducible exact ih _ _
theorem AB_isSeven (x : Nat) : AB M u (m12_isSeven x) := by
  unfold m12_isSeven m12_isSeven_p19
  repeat' (with_reducible (first | assumption | exact AB_mp _ | exact AB_mz _ | exact AB_mf | exact AB_getR | exact AB_ldI | exact AB_stI | exact AB_getI (by omega) | exact AB_putI (by omega) | refine AB_mb ?_ (fun _ => ?_) | refine AB_mv ?_ | refine AB_ite ?_ ?_))
  all_goals with_reducible exact AB_seven _ _ _ _
theorem AB_p234 (x : Nat) (a : Int32) : AB M u (m12_advance_p234 x a) := by
  unfold m12_advance_p234 m12_advance_p275 m12_advance_p278
  have := AB_isSeven (M := M) (u := u) x
  repeat' (with_reducible (first | assumption | exact AB_mp _ | exact AB_mz _ | exact AB_mf | exact AB_getR | exact AB_ldI | exact AB_stI | exact AB_getI (by omega) | exact AB_putI (by omega) | refine AB_mb ?_ (fun _ => ?_) | refine AB_mv ?_ | refine AB_ite ?_ ?_))
theorem AB_p73 (x : Nat) : ∀ (n : Nat) (a : Int32), AB M u (m12_advance_p73 n x a) := by
  intro n
  induction n with
  | zero => intro a; rw [m12_advance_p73]; exact AB_mf
  | succ n ih =>
    intro a
    rw [m12_advance_p73]
    unfold m12_advance_p126
    repeat' (with_reducible (first | assumption | exact AB_mp _ | exact AB_mz _ | exact AB_mf | exact AB_getR | exact AB_ldI | exact AB_stI | exact AB_getI (by omega) | exact AB_putI (by omega) | refine AB_mb ?_ (fun _ => ?_) | refine AB_mv ?_ | refine AB_ite ?_ ?_))
    all_goals with_reducible first | exact ih _ | exact AB_p234 _ _ | exact AB_isLetter _
theorem AB_p152 (x : Nat) : ∀ (n : Nat) (a : Int32), AB M u (m12_advance_p152 n x a) := by
  intro n
  induction n with
  | zero => intro a; rw [m12_advance_p152]; exact AB_mf
  | succ n ih =>
    intro a
    rw [m12_advance_p152]
    unfold m12_advance_p207
    repeat' (with_reducible (first | assumption | exact AB_mp _ | exact AB_mz _ | exact AB_mf | exact AB_getR | exact AB_ldI | exact AB_stI | exact AB_getI (by omega) | exact AB_putI (by omega) | refine AB_mb ?_ (fun _ => ?_) | refine AB_mv ?_ | refine AB_ite ?_ ?_))
    all_goals with_reducible first | exact ih _ | exact AB_p234 _ _ | exact AB_isDigit _
theorem AB_p30 (x : Nat) (a : Int32) : AB M u (m12_advance_p30 x a) := by
  unfold m12_advance_p30
  repeat' (with_reducible (first | assumption | exact AB_mp _ | exact AB_mz _ | exact AB_mf | exact AB_getR | exact AB_ldI | exact AB_stI | exact AB_getI (by omega) | exact AB_putI (by omega) | refine AB_mb ?_ (fun _ => ?_) | refine AB_mv ?_ | refine AB_ite ?_ ?_))
  all_goals with_reducible first | exact AB_p73 _ _ _ | exact AB_p152 _ _ _ | exact AB_p234 _ _ | exact AB_isDigit _ | exact AB_isLetter _
theorem AB_p5 (x : Nat) : ∀ (n : Nat) (a : Int32), AB M u (m12_advance_p5 n x a) := by
  intro n
  induction n with
  | zero => intro a; rw [m12_advance_p5]; exact AB_mf
  | succ n ih =>
    intro a
    rw [m12_advance_p5]
    repeat' (with_reducible (first | assumption | exact AB_mp _ | exact AB_mz _ | exact AB_mf | exact AB_getR | exact AB_ldI | exact AB_stI | exact AB_getI (by omega) | exact AB_putI (by omega) | refine AB_mb ?_ (fun _ => ?_) | refine AB_mv ?_ | refine AB_ite ?_ ?_))
    all_goals with_reducible first | exact ih _ | exact AB_p30 _ _
theorem AB_advance (x : Nat) : AB M u (m12_advance x) := by
  unfold m12_advance
  repeat' (with_reducible (first | assumption | exact AB_mp _ | exact AB_mz _ | exact AB_mf | exact AB_getR | exact AB_ldI | exact AB_stI | exact AB_getI (by omega) | exact AB_putI (by omega) | refine AB_mb ?_ (fun _ => ?_) | refine AB_mv ?_ | refine AB_ite ?_ ?_))
  all_goals with_reducible exact AB_p5 _ _ _
theorem AB_isGood (x : Nat) : AB M u (m12_isGood x) := by
  unfold m12_isGood m12_isGood_p12
  repeat' (with_reducible (first | assumption | exact AB_mp _ | exact AB_mz _ | exact AB_mf | exact AB_getR | exact AB_ldI | exact AB_stI | exact AB_getI (by omega) | exact AB_putI (by omega) | refine AB_mb ?_ (fun _ => ?_) | refine AB_mv ?_ | refine AB_ite ?_ ?_))
theorem AB_wrong (x : Nat) : AB M u (m12_wrong x) := by
  unfold m12_wrong m12_wrong_p19
  repeat' (with_reducible (first | assumption | exact AB_mp _ | exact AB_mz _ | exact AB_mf | exact AB_getR | exact AB_ldI | exact AB_stI | exact AB_getI (by omega) | exact AB_putI (by omega) | refine AB_mb ?_ (fun _ => ?_) | refine AB_mv ?_ | refine AB_ite ?_ ?_))
theorem AB_wantNumber (x : Nat) (a b : Int32) : AB M u (m12_wantNumber x a b) := by
  unfold m12_wantNumber m12_wantNumber_p49 m12_wantNumber_p53
  have := AB_isGood (M := M) (u := u) x
  have := AB_wrong (M := M) (u := u) x
  have := AB_advance (M := M) (u := u) x
  repeat' (with_reducible (first | assumption | exact AB_mp _ | exact AB_mz _ | exact AB_mf | exact AB_getR | exact AB_ldI | exact AB_stI | exact AB_getI (by omega) | exact AB_putI (by omega) | refine AB_mb ?_ (fun _ => ?_) | refine AB_mv ?_ | refine AB_ite ?_ ?_))
  all_goals with_reducible exact AB_in _ _ _
theorem AB_isWord (x : Nat) (a : Int32) : AB M u (m12_isWord x a) := by
  unfold m12_isWord m12_isWord_p20 m12_isWord_p21
  repeat' (with_reducible (first | assumption | exact AB_mp _ | exact AB_mz _ | exact AB_mf | exact AB_getR | exact AB_ldI | exact AB_stI | exact AB_getI (by omega) | exact AB_putI (by omega) | refine AB_mb ?_ (fun _ => ?_) | refine AB_mv ?_ | refine AB_ite ?_ ?_))
theorem AB_isMark (x : Nat) (a : Int32) : AB M u (m12_isMark x a) := by
  unfold m12_isMark m12_isMark_p20 m12_isMark_p21
  repeat' (with_reducible (first | assumption | exact AB_mp _ | exact AB_mz _ | exact AB_mf | exact AB_getR | exact AB_ldI | exact AB_stI | exact AB_getI (by omega) | exact AB_putI (by omega) | refine AB_mb ?_ (fun _ => ?_) | refine AB_mv ?_ | refine AB_ite ?_ ?_))
theorem AB_want (x : Nat) (a : Int32) : AB M u (m12_want x a) := by
  unfold m12_want m12_want_p22
  have := AB_isGood (M := M) (u := u) x
  have := AB_wrong (M := M) (u := u) x
  have := AB_advance (M := M) (u := u) x
  repeat' (with_reducible (first | assumption | exact AB_mp _ | exact AB_mz _ | exact AB_mf | exact AB_getR | exact AB_ldI | exact AB_stI | exact AB_getI (by omega) | exact AB_putI (by omega) | refine AB_mb ?_ (fun _ => ?_) | refine AB_mv ?_ | refine AB_ite ?_ ?_))
theorem AB_wantCond : AB M u (m12_wantCond M) := by
  unfold m12_wantCond
  exact AB_put20
theorem AB_sortHere (x : Nat) : AB M u (m12_sortHere x) := by
  have := fun a => AB_isWord (M := M) (u := u) x a
  unfold m12_sortHere m12_sortHere_p18 m12_sortHere_p52 m12_sortHere_p87 m12_sortHere_p132 m12_sortHere_p32 m12_sortHere_p67 m12_sortHere_p102
  repeat' (with_reducible (first | assumption | exact AB_mp _ | exact AB_mz _ | exact AB_mf | exact AB_getR | exact AB_ldI | exact AB_stI | exact AB_getI (by omega) | exact AB_putI (by omega) | refine AB_mb ?_ (fun _ => ?_) | refine AB_mv ?_ | refine AB_ite ?_ ?_))
  all_goals with_reducible exact this _
theorem AB_p269 (x : Nat) (a : Int32) : AB M u (m12_wantLine_p269 x a) := by
  unfold m12_wantLine_p269
  repeat' (with_reducible (first | assumption | exact AB_mp _ | exact AB_mz _ | exact AB_mf | exact AB_getR | exact AB_ldI | exact AB_stI | exact AB_getI (by omega) | exact AB_putI (by omega) | refine AB_mb ?_ (fun _ => ?_) | refine AB_mv ?_ | refine AB_ite ?_ ?_))
  all_goals with_reducible first | exact AB_isMark _ _ | exact AB_want _ _
theorem AB_p96 (x : Nat) (a : Int32) : AB M u (m12_wantLine_p96 x a) := by
  unfold m12_wantLine_p96
  repeat' (with_reducible (first | assumption | exact AB_mp _ | exact AB_mz _ | exact AB_mf | exact AB_getR | exact AB_ldI | exact AB_stI | exact AB_getI (by omega) | exact AB_putI (by omega) | refine AB_mb ?_ (fun _ => ?_) | refine AB_mv ?_ | refine AB_ite ?_ ?_))
  all_goals with_reducible first | exact AB_wantNumber _ _ _ | exact AB_p269 _ _
theorem AB_p230 (a b : Int32) : AB M u (m12_wantLine_p230 M a b) := by
  unfold m12_wantLine_p230 m12_wantLine_p253
  repeat' (with_reducible (first | assumption | exact AB_mp _ | exact AB_mz _ | exact AB_mf | exact AB_getR | exact AB_ldI | exact AB_stI | exact AB_getI (by omega) | exact AB_putI (by omega) | refine AB_mb ?_ (fun _ => ?_) | refine AB_mv ?_ | refine AB_ite ?_ ?_))
  all_goals with_reducible first | exact AB_wantNumber _ _ _ | exact AB_p269 _ _ | exact AB_wantCond | exact AB_isWord _ _ | exact AB_want _ _
theorem AB_wantLine (a : Int32) : AB M u (m12_wantLine M a) := by
  unfold m12_wantLine m12_wantLine_p15
  repeat' (with_reducible (first | assumption | exact AB_mp _ | exact AB_mz _ | exact AB_mf | exact AB_getR | exact AB_ldI | exact AB_stI | exact AB_getI (by omega) | exact AB_putI (by omega) | refine AB_mb ?_ (fun _ => ?_) | refine AB_mv ?_ | refine AB_ite ?_ ?_))
  all_goals with_reducible first | exact AB_wantNumber _ _ _ | exact AB_p269 _ _ | exact AB_p96 _ _ | exact AB_p230 _ _ | exact AB_isWord _ _ | exact AB_want _ _ | exact AB_sortHere _ | exact AB_advance _ | exact AB_wrong _
theorem AB_p142 (x : Nat) : ∀ (n : Nat) (a b : Int32), AB M u (m12_read_p142 n x a b) := by
  intro n
  induction n with
  | zero => intro a b; rw [m12_read_p142]; exact AB_mf
  | succ n ih =>
    intro a b
    rw [m12_read_p142]
    repeat' (with_reducible (first | assumption | exact AB_mp _ | exact AB_mz _ | exact AB_mf | exact AB_getR | exact AB_ldI | exact AB_stI | exact AB_getI (by omega) | exact AB_putI (by omega) | refine AB_mb ?_ (fun _ => ?_) | refine AB_mv ?_ | refine AB_ite ?_ ?_))
    all_goals with_reducible exact ih _ _
theorem AB_p109 (x : Nat) : ∀ (n : Nat) (a b c : Int32), AB M u (m12_read_p109 n x a b c) := by
  intro n
  induction n with
  | zero => intro a b c; rw [m12_read_p109]; exact AB_mf
  | succ n ih =>
    intro a b c
    rw [m12_read_p109]
    repeat' (with_reducible (first | assumption | exact AB_mp _ | exact AB_mz _ | exact AB_mf | exact AB_getR | exact AB_ldI | exact AB_stI | exact AB_getI (by omega) | exact AB_putI (by omega) | refine AB_mb ?_ (fun _ => ?_) | refine AB_mv ?_ | refine AB_ite ?_ ?_))
    all_goals with_reducible first | exact ih _ _ _ | exact AB_p142 _ _ _ _
theorem AB_p46 (x : Nat) (a : Int32) : AB M u (m12_read_p46 x a) := by
  unfold m12_read_p46
  repeat' (with_reducible (first | assumption | exact AB_mp _ | exact AB_mz _ | exact AB_mf | exact AB_getR | exact AB_ldI | exact AB_stI | exact AB_getI (by omega) | exact AB_putI (by omega) | refine AB_mb ?_ (fun _ => ?_) | refine AB_mv ?_ | refine AB_ite ?_ ?_))
  all_goals with_reducible first | exact AB_isGood _ | exact AB_p109 _ _ _ _ _
theorem AB_p21 : ∀ (n : Nat) (a : Int32), AB M u (m12_read_p21 n M a) := by
  intro n
  induction n with
  | zero => intro a; rw [m12_read_p21]; exact AB_mf
  | succ n ih =>
    intro a
    rw [m12_read_p21]
    repeat' (with_reducible (first | assumption | exact AB_mp _ | exact AB_mz _ | exact AB_mf | exact AB_getR | exact AB_ldI | exact AB_stI | exact AB_getI (by omega) | exact AB_putI (by omega) | refine AB_mb ?_ (fun _ => ?_) | refine AB_mv ?_ | refine AB_ite ?_ ?_))
    all_goals with_reducible first | exact ih _ | exact AB_p46 _ _ | exact AB_isGood _ | exact AB_wantLine _
theorem AB_read : AB M u (m12_read M) := by
  unfold m12_read
  repeat' (with_reducible (first | assumption | exact AB_mp _ | exact AB_mz _ | exact AB_mf | exact AB_getR | exact AB_ldI | exact AB_stI | exact AB_getI (by omega) | exact AB_putI (by omega) | refine AB_mb ?_ (fun _ => ?_) | refine AB_mv ?_ | refine AB_ite ?_ ?_))
  all_goals with_reducible first | exact AB_p21 _ _ | exact AB_advance _
/-- so the reading answers alike, however many signs wait -/
theorem read_u {X : Nat → Int → Int} {H : gH} (hM : OKM M H) {r : Int32} {Y : Nat → Int → Int} (e : m12_read M (mK M (s3 X 0 20 0) H) = some (r, mK M Y H)) : ∃ Y', (Y' = Y ∨ Y' = s3 Y 0 20 (X 0 20)) ∧ m12_read M (mK M X H) = some (r, mK M Y' H) := by
  have key : ∀ Z : Nat → Int → Int, uW M (iI (X 0 20)) (mK M Z H) = mK M (s3 Z 0 20 (X 0 20)) H := by
    intro Z
    unfold uW mK
    dsimp only
    rw [if_pos (by rw [hM.1]; rfl)]
    simp only [Prod.mk.injEq, true_and, and_true]
    funext q n
    by_cases c : q = M ∧ n = 20
    · rw [if_pos c, if_pos (by omega), c.1, c.2, Nat.sub_self]
      rw [show ((20 : Nat) : Int) = 20 from rfl, s3_at]
    · rw [if_neg c]
      by_cases d : M ≤ q ∧ q ≤ M + 28
      · rw [if_pos d, if_pos d, s3_ne (by omega)]
      · rw [if_neg d, if_neg d]
  have e0 : s3 (s3 X 0 20 0) 0 20 (X 0 20) = X := by
    funext q j
    by_cases c : q = 0 ∧ j = 20
    · rw [c.1, c.2, s3_at]
    · rw [s3_ne (by omega), s3_ne (by omega)]
  have k0 := key (s3 X 0 20 0)
  rw [e0] at k0
  rcases AB_read (M := M) (u := iI (X 0 20)) (mK M (s3 X 0 20 0) H) with q | q
  · rw [k0, e] at q
    exact ⟨Y, Or.inl rfl, q⟩
  · rw [k0, e] at q
    refine ⟨_, Or.inr rfl, q.trans ?_⟩
    show some (r, uW M (iI (X 0 20)) (mK M Y H)) = _
    rw [key]
end AB

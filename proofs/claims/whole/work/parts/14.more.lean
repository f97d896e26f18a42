/-! ===== calls by the sort of their answer; switches ===== -/
section GD
variable {l : Launch} {D : va_G} {dA : Nat → ClassId} {b : Nat} {bs : gB} {Hb : Heap} {α : Type} {Z : List Frame → Array Value → State → gH → α → gH → State → Prop}
variable {cc : ByteArray} {nL : Nat} {own nm : String} {ret : Option FieldType} {fr lo : Nat}
theorem gS.callI {pc : Nat} {L : List (Option Value)} {st0 st : List Value} {g : gM Int32} {kf : Int32 → gM α} (hr : gRun l D dA b bs Hb cc nL own nm ret fr lo pc st0 st rI (fun _ => True) g)
    (kk : ∀ v : Int32, gS l D dA b bs Hb cc nL own nm ret fr lo Z (pc + 3) L (.int v :: st) (kf v)) : gS l D dA b bs Hb cc nL own nm ret fr lo Z pc L st0 (mb g kf) := gS.call hr kk
theorem gS.callV {pc : Nat} {L : List (Option Value)} {st0 st : List Value} {g : gM Unit} {f : gM α} (hr : gRun l D dA b bs Hb cc nL own nm ret fr lo pc st0 st rV (fun _ => True) g)
    (kk : gS l D dA b bs Hb cc nL own nm ret fr lo Z (pc + 3) L st f) : gS l D dA b bs Hb cc nL own nm ret fr lo Z pc L st0 (mb g fun _ => f) := gS.call hr (fun _ => kk)
theorem gS.callR {pc : Nat} {L : List (Option Value)} {st0 st : List Value} {g : gM Nat} {kf : Nat → gM α} (hr : gRun l D dA b bs Hb cc nL own nm ret fr lo pc st0 st rR (fun _ => True) g)
    (kk : ∀ v : Nat, gS l D dA b bs Hb cc nL own nm ret fr lo Z (pc + 3) L (.ref v :: st) (kf v)) : gS l D dA b bs Hb cc nL own nm ret fr lo Z pc L st0 (mb g kf) := gS.call hr kk
theorem gS.callQ {pc : Nat} {L : List (Option Value)} {st0 st : List Value} {g : gM (Option Nat)} {kf : Option Nat → gM α} (hr : gRun l D dA b bs Hb cc nL own nm ret fr lo pc st0 st rQ (fun _ => True) g)
    (kk : ∀ v : Option Nat, gS l D dA b bs Hb cc nL own nm ret fr lo Z (pc + 3) L (va_rf v :: st) (kf v)) : gS l D dA b bs Hb cc nL own nm ret fr lo Z pc L st0 (mb g kf) := gS.call hr kk
/-- the road to one case of a switch -/
theorem gS.ite {P : Prop} [Decidable P] {pc : Nat} {L : List (Option Value)} {st : List Value} {f g : gM α} (kt : P → gS l D dA b bs Hb cc nL own nm ret fr lo Z pc L st f) (kf : ¬ P → gS l D dA b bs Hb cc nL own nm ret fr lo Z pc L st g) : gS l D dA b bs Hb cc nL own nm ret fr lo Z pc L st (if P then f else g) := fun h r h' hf => by
  by_cases hP : P
  · rw [if_pos hP] at hf; exact kt hP h r h' hf
  · rw [if_neg hP] at hf; exact kf hP h r h' hf
theorem gS.tabIn {pc len : Nat} {L : List (Option Value)} {st : List Value} {f : gM α} {x k : Int32} {dflt lo' hi off : Int} {offs : Array Int} (tgt : Nat) (hx : x = k) (hd : decode cc pc = .ok (.tableswitch dflt lo' hi offs, len)) (h1 : ¬ k.toInt < lo') (h2 : ¬ hi < k.toInt) (ho : offs[(k.toInt - lo').toNat]? = some off) (ht : (pc : Int) + off = (tgt : Int))
    (kk : gS l D dA b bs Hb cc nL own nm ret fr lo Z tgt L st f) : gS l D dA b bs Hb cc nL own nm ret fr lo Z pc L (.int x :: st) f := by
  subst hx
  exact gS.step (fun _ _ _ _ _ _ _ _ _ cx _ _ _ _ _ _ hh w => lv_tableIn cx.1 cx.2.1 hd h1 h2 ho ht w) kk
theorem gS.tabOut {pc len : Nat} {L : List (Option Value)} {st : List Value} {f : gM α} {x : Int32} {dflt lo' hi : Int} {offs : Array Int} (tgt : Nat) (hd : decode cc pc = .ok (.tableswitch dflt lo' hi offs, len)) (h : x.toInt < lo' ∨ hi < x.toInt) (ht : (pc : Int) + dflt = (tgt : Int))
    (kk : gS l D dA b bs Hb cc nL own nm ret fr lo Z tgt L st f) : gS l D dA b bs Hb cc nL own nm ret fr lo Z pc L (.int x :: st) f :=
  gS.step (fun _ _ _ _ _ _ _ _ _ cx _ _ _ _ _ _ hh w => lv_tableOut cx.1 cx.2.1 hd h ht w) kk
theorem gS.lookup {pc len : Nat} {L : List (Option Value)} {st : List Value} {f : gM α} {x : Int32} {dflt off : Int} {ps : Array (Int × Int)} (tgt : Nat) (hd : decode cc pc = .ok (.lookupswitch dflt ps, len)) (hp : (ps.toList.zip (ps.toList.drop 1)).all (fun (a, next) => a.1 < next.1) = true) (ho : Op.lookupswitch.offset ps.toList dflt x.toInt = off) (ht : (pc : Int) + off = (tgt : Int))
    (kk : gS l D dA b bs Hb cc nL own nm ret fr lo Z tgt L st f) : gS l D dA b bs Hb cc nL own nm ret fr lo Z pc L (.int x :: st) f :=
  gS.step (fun _ _ _ _ _ _ _ _ _ cx _ _ _ _ _ _ hh w => lv_lookup cx.1 cx.2.1 hd hp ho ht w) kk
end GD
/-- out of the table: none of its numbers -/
theorem gOut {x : Int32} {lo hi : Int} (n : Nat) (hn : lo + n = hi + 1) (h : ∀ i, i < n → x ≠ Int32.ofInt (lo + (i : Nat))) : x.toInt < lo ∨ hi < x.toInt := by
  rcases Int.lt_or_le x.toInt lo with h1 | h1
  · exact Or.inl h1
  · rcases Int.lt_or_le hi x.toInt with h2 | h2
    · exact Or.inr h2
    · refine absurd ?_ (h (x.toInt - lo).toNat (by omega))
      have e : lo + ((x.toInt - lo).toNat : Int) = x.toInt := by omega
      rw [e, Int32.ofInt_toInt]
/-- how often a loop may go round: far above what any does -/
def FU : Nat := 100000

theorem gOk_rf {L : List (Option Value)} {i : Nat} {r : Option Nat} (h : L[i]? = some (some (va_rf r))) : gOk L (i + 1) = true := by
  cases r with
  | none => simp [gOk, h, va_rf]
  | some a => simp [gOk, h, va_rf]

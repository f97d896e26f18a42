/-- m5_token -/
def m5_token_p26 (s0 : Int32) : gM Int32 := (mp s0)
def m5_token (v0 : Nat) : gM Int32 := (mb (gGetI [5] v0 12) fun x1 => (mb (gGetI [5] v0 11) fun x2 => (if (x2 : Int32) ≤ x1 then (m5_token_p26 3000) else (mb (gGetR [5] v0 9) fun r3 => (mb (gGetI [5] v0 12) fun x4 => (mb (gLdI 100 r3 x4) fun x5 => (m5_token_p26 x5)))))))
/-- m5_take -/
def m5_take (v0 : Nat) (v1 : Int32) : gM Int32 := (mb (mv [5] v0 (m5_token v0)) fun x1 => (if (x1 : Int32) = v1 then (mb (gGetI [5] v0 12) fun x2 => (mb (gPutI [5] v0 12 (x2 + 1)) fun _ => (mz 1))) else (mz 0)))
/-- m5_emit -/
def m5_emit (v0 : Nat) (v1 : Int32) : gM Unit := (mb (gGetI [5] v0 2) fun x1 => (mb (gGetR [5] v0 6) fun r2 => (mb (mv [100] r2 (gLen r2)) fun x3 => (if (x1 : Int32) < x3 then (mb (gGetR [5] v0 6) fun r4 => (mb (gGetI [5] v0 2) fun x5 => (mb (gStI 100 r4 x5 v1) fun _ => (mb (gGetI [5] v0 2) fun x6 => (mb (gPutI [5] v0 2 (x6 + 1)) fun _ => (mp ())))))) else (mp ())))))
/-- m5_valueOf -/
def m5_valueOf_p60 (s0 : Int32) : gM Int32 := (mp s0)
def m5_valueOf (v0 : Int32) : gM Int32 := (if v0 = 1001 then (mp 1008) else (if v0 = 1014 then (mp 1006) else (if v0 = 1015 then (mp 1007) else (if (999 : Int32) < v0 then (m5_valueOf_p60 (-1)) else (m5_valueOf_p60 v0)))))
/-- m5_readSum -/
def m5_readSum_p49 (k2 : Nat → Int32 → gM Int32) (v0 : Nat) (v1 : Int32) : gM Int32 := (mb (mv [5] v0 (m5_take v0 2043)) fun x1 => (if x1 = 0 then (mz 1) else (k2 v0 (v1 + 1))))
def m5_readSum_p2 : Nat → Nat → Int32 → gM Int32
  | 0, _, _ => mf
  | n + 1, v0, v1 => (if (250 : Int32) ≤ v1 then (mz 0) else (mb (mv [5] v0 (m5_token v0)) fun x2 => (mb (m5_valueOf x2) fun x3 => (if 0 ≤ x3 then (mb (gGetI [5] v0 12) fun x4 => (mb (gPutI [5] v0 12 (x4 + 1)) fun _ => (mb (mv [5] v0 (m5_emit v0 x3)) fun _ => (if v1 ≤ 0 then (m5_readSum_p49 (m5_readSum_p2 n) v0 v1) else (mb (mv [5] v0 (m5_emit v0 2000)) fun _ => (m5_readSum_p49 (m5_readSum_p2 n) v0 v1)))))) else (mz 0)))))
def m5_readSum (v0 : Nat) : gM Int32 := (m5_readSum_p2 FU v0 0)
/-- m5_comparisonOf -/
def m5_comparisonOf (v0 : Int32) : gM Int32 := (if v0 = 2060 then (mp 2001) else (if v0 = 2061 then (mp 2002) else (if v0 = 2062 then (mp 2003) else (mp (-1)))))
/-- m5_readOne -/
def m5_readOne_p30 (rc : Nat → Int32 → gM Int32) (k4 : Nat → Int32 → Int32 → Int32 → gM Int32) (v0 : Nat) (v1 : Int32) (v3 : Int32) (s0 : Int32) : gM Int32 := (k4 v0 v1 s0 (v3 + 1))
def m5_readOne_p124 (rc : Nat → Int32 → gM Int32) : gM Int32 := (mz 0)
def m5_readOne_p187 (rc : Nat → Int32 → gM Int32) : gM Int32 := (mz 1)
def m5_readOne_p176 (rc : Nat → Int32 → gM Int32) (v0 : Nat) (v2 : Int32) : gM Int32 := (if v2 = 0 then (m5_readOne_p187 rc) else (mb (mv [5] v0 (m5_emit v0 2004)) fun _ => (m5_readOne_p187 rc)))
def m5_readOne_p77 (rc : Nat → Int32 → gM Int32) (v0 : Nat) (v1 : Int32) (v2 : Int32) : gM Int32 := (mb (mv [5] v0 (m5_token v0)) fun x1 => (if x1 = 2040 then (if (v1 : Int32) < 4 then (mb (gGetI [5] v0 12) fun x7 => (mb (gPutI [5] v0 12 (x7 + 1)) fun _ => (mb (mv [5] v0 (rc v0 (v1 + 1))) fun x8 => (if x8 = 0 then (m5_readOne_p124 rc) else (mb (mv [5] v0 (m5_take v0 2041)) fun x9 => (if x9 = 0 then (m5_readOne_p124 rc) else (m5_readOne_p176 rc v0 v2))))))) else (mz 0)) else (mb (mv [5] v0 (m5_readSum v0)) fun x2 => (if x2 = 0 then (mz 0) else (mb (mv [5] v0 (m5_token v0)) fun x3 => (mb (m5_comparisonOf x3) fun x4 => (if 0 ≤ x4 then (mb (gGetI [5] v0 12) fun x5 => (mb (gPutI [5] v0 12 (x5 + 1)) fun _ => (mb (mv [5] v0 (m5_readSum v0)) fun x6 => (if x6 = 0 then (mz 0) else (mb (mv [5] v0 (m5_emit v0 x4)) fun _ => (m5_readOne_p176 rc v0 v2)))))) else (mz 0))))))))
def m5_readOne_p37 (rc : Nat → Int32 → gM Int32) (v0 : Nat) (v1 : Int32) (v2 : Int32) : gM Int32 := (mb (mv [5] v0 (m5_token v0)) fun x10 => (if (x10 - 1008) < 0 then (m5_readOne_p77 rc v0 v1 v2) else (if (5 : Int32) < (x10 - 1008) then (m5_readOne_p77 rc v0 v1 v2) else (mb (gGetI [5] v0 12) fun x11 => (mb (gPutI [5] v0 12 (x11 + 1)) fun _ => (mb (mv [5] v0 (m5_emit v0 ((1000 : Int32) + (x10 - 1008)))) fun _ => (m5_readOne_p176 rc v0 v2)))))))
def m5_readOne_p4 (rc : Nat → Int32 → gM Int32) : Nat → Nat → Int32 → Int32 → Int32 → gM Int32
  | 0, _, _, _, _ => mf
  | n + 1, v0, v1, v2, v3 => (if (250 : Int32) ≤ v3 then (m5_readOne_p37 rc v0 v1 v2) else (mb (mv [5] v0 (m5_take v0 1020)) fun x12 => (if x12 = 0 then (m5_readOne_p37 rc v0 v1 v2) else (if v2 = 0 then (m5_readOne_p30 rc (m5_readOne_p4 rc n) v0 v1 v3 1) else (m5_readOne_p30 rc (m5_readOne_p4 rc n) v0 v1 v3 0)))))
def m5_readOne (rc : Nat → Int32 → gM Int32) (v0 : Nat) (v1 : Int32) : gM Int32 := (m5_readOne_p4 rc FU v0 v1 0 0)
/-- m5_readCond -/
def m5_readCond_p76 (rc : Nat → Int32 → gM Int32) (k7 : Nat → Int32 → Int32 → Int32 → Int32 → gM Int32) (v0 : Nat) (v1 : Int32) (v2 : Int32) (v3 : Int32) (v4 : Int32) : gM Int32 := (k7 v0 v1 v2 v3 (v4 + 1))
def m5_readCond_p62 (rc : Nat → Int32 → gM Int32) (k7 : Nat → Int32 → Int32 → Int32 → Int32 → gM Int32) (v0 : Nat) (v1 : Int32) (v2 : Int32) (v4 : Int32) : gM Int32 := (mb (mv [5] v0 (m5_take v0 1018)) fun x1 => (if x1 = 0 then (mz 1) else (m5_readCond_p76 rc k7 v0 v1 v2 x1 v4)))
def m5_readCond_p36 (rc : Nat → Int32 → gM Int32) (k7 : Nat → Int32 → Int32 → Int32 → Int32 → gM Int32) (v0 : Nat) (v1 : Int32) (v3 : Int32) (v4 : Int32) : gM Int32 := (mb (mv [5] v0 (m5_take v0 1019)) fun x2 => (if x2 = 0 then (if v3 = 0 then (m5_readCond_p62 rc k7 v0 v1 x2 v4) else (mb (mv [5] v0 (m5_emit v0 2006)) fun _ => (m5_readCond_p62 rc k7 v0 v1 x2 v4))) else (m5_readCond_p76 rc k7 v0 v1 x2 v3 v4)))
def m5_readCond_p7 (rc : Nat → Int32 → gM Int32) : Nat → Nat → Int32 → Int32 → Int32 → Int32 → gM Int32
  | 0, _, _, _, _, _ => mf
  | n + 1, v0, v1, v2, v3, v4 => (if (250 : Int32) ≤ v4 then (mz 0) else (mb (mv [5] v0 (rc v0 v1)) fun x3 => (if x3 = 0 then (mz 0) else (if v2 = 0 then (m5_readCond_p36 rc (m5_readCond_p7 rc n) v0 v1 v3 v4) else (mb (mv [5] v0 (m5_emit v0 2005)) fun _ => (m5_readCond_p36 rc (m5_readCond_p7 rc n) v0 v1 v3 v4))))))
def m5_readCond (rc : Nat → Int32 → gM Int32) (v0 : Nat) (v1 : Int32) : gM Int32 := (m5_readCond_p7 rc FU v0 v1 0 0 0)
/-- m5_cond -/
def m5_cond : Nat → Nat → Int32 → gM Int32
  | 0, _, _ => mf
  | n + 1, v0, v1 => m5_readCond (m5_readOne (m5_cond n)) v0 v1
/-- m6_init -/
def m6_init (v0 : Nat) (v1 : Int32) (v2 : Int32) : gM Unit := (mb (gPutI [0, 2, 3, 4, 7, 9] v0 0 v1) fun _ => (mb (gPutI [0, 2, 3, 4, 7, 9] v0 1 v2) fun _ => (mp ())))
/-- m0_init -/
def m0_init (v0 : Nat) (v1 : Int32) (v2 : Int32) (v3 : Int32) (v4 : Int32) (v5 : Int32) : gM Unit := (mb (m6_init v0 v1 v2) fun _ => (mb (gPutI [0, 9] v0 2 v3) fun _ => (mb (gPutI [0, 9] v0 3 v4) fun _ => (mb (gPutI [0, 9] v0 4 v5) fun _ => (mp ())))))
/-- m9_begin -/
def m9_begin (v0 : Nat) (v1 : Int32) : gM Unit := (mb (gGetI [8] v0 1) fun x1 => (if (x1 : Int32) < 30 then (mb (gGetR [8] v0 0) fun r2 => (mb (gGetI [8] v0 1) fun x3 => (mb (gStI 100 r2 x3 v1) fun _ => (mb (gGetI [8] v0 1) fun x4 => (mb (gPutI [8] v0 1 (x4 + 1)) fun _ => (mp ())))))) else (mp ())))
/-- m6_weighs -/
def m6_weighs (v0 : Nat) (v1 : Int32) (v2 : Nat) : gM Int32 := (mb (mv [8] v2 (m9_begin v2 10)) fun _ => (mb (gGetI [0, 2, 3, 4, 7, 9] v0 0) fun x1 => (mp ((v1 * 2) + x1))))
/-- m0_weighs -/
def m0_weighs (v0 : Nat) (v1 : Int32) (v2 : Nat) : gM Int32 := (mb (mv [8] v2 (m9_begin v2 20)) fun _ => (mb (gVk v0 [(0, m6_weighs v0 v1 v2), (9, m6_weighs v0 v1 v2)]) fun x1 => (mb (gGetI [0, 9] v0 1) fun x2 => (mp (x1 + x2)))))
/-- m7_init -/
def m7_init (v0 : Nat) : gM Unit := (mb (gNewA 100 48) fun r1 => (mb (gPutR [6] v0 0 (some r1)) fun _ => (mb (gPutI [6] v0 1 0) fun _ => (mp ()))))
/-- m1_init -/
def m1_init (v0 : Nat) : gM Unit := (mb (gPutI [1] v0 0 0) fun _ => (mb (gPutI [1] v0 1 0) fun _ => (mb (gNewA 100 8) fun r1 => (mb (gPutR [1] v0 2 (some r1)) fun _ => (mb (gNewA 100 8) fun r2 => (mb (gPutR [1] v0 3 (some r2)) fun _ => (mb (gPutI [1] v0 4 0) fun _ => (mb (gNewA 102 16) fun r3 => (mb (gPutR [1] v0 5 (some r3)) fun _ => (mb (gPutI [1] v0 6 0) fun _ => (mb (gNewA 103 24) fun r4 => (mb (gPutR [1] v0 7 (some r4)) fun _ => (mb (gPutI [1] v0 8 0) fun _ => (mb (gNewA 104 6) fun r5 => (mb (gPutR [1] v0 9 (some r5)) fun _ => (mb (gPutI [1] v0 10 0) fun _ => (mb (gNewA 105 16) fun r6 => (mb (gPutR [1] v0 11 (some r6)) fun _ => (mb (gNewA 100 16) fun r7 => (mb (gPutR [1] v0 12 (some r7)) fun _ => (mb (gPutI [1] v0 13 0) fun _ => (mb (gNewA 100 12) fun r8 => (mb (gPutR [1] v0 14 (some r8)) fun _ => (mb (gNewA 100 12) fun r9 => (mb (gPutR [1] v0 15 (some r9)) fun _ => (mb (gNewA 100 12) fun r10 => (mb (gPutR [1] v0 16 (some r10)) fun _ => (mb (gNewA 100 9) fun r11 => (mb (gPutR [1] v0 17 (some r11)) fun _ => (mb (gNew 6 2) fun r12 => (mb (m7_init r12) fun _ => (mb (gPutR [1] v0 18 (some r12)) fun _ => (mp ())))))))))))))))))))))))))))))))))
/-- m1_become -/
def m1_become_p222 : Nat → Nat → Nat → Int32 → gM Unit
  | 0, _, _, _ => mf
  | n + 1, v0, v1, v2 => (mb (gGetI [1] v0 13) fun x1 => (if (x1 : Int32) ≤ v2 then (mp ()) else (mb (gGetR [1] v0 14) fun r2 => (mb (gGetR [1] v1 14) fun r3 => (mb (gLdI 100 r3 v2) fun x4 => (mb (gStI 100 r2 v2 x4) fun _ => (mb (gGetR [1] v0 15) fun r5 => (mb (gGetR [1] v1 15) fun r6 => (mb (gLdI 100 r6 v2) fun x7 => (mb (gStI 100 r5 v2 x7) fun _ => (mb (gGetR [1] v0 16) fun r8 => (mb (gGetR [1] v1 16) fun r9 => (mb (gLdI 100 r9 v2) fun x10 => (mb (gStI 100 r8 v2 x10) fun _ => (m1_become_p222 n v0 v1 (v2 + 1))))))))))))))))
def m1_become_p182 : Nat → Nat → Nat → Int32 → gM Unit
  | 0, _, _, _ => mf
  | n + 1, v0, v1, v2 => (mb (gGetI [1] v0 10) fun x11 => (if (x11 : Int32) ≤ v2 then (m1_become_p222 FU v0 v1 0) else (mb (gGetR [1] v0 11) fun r12 => (mb (gGetR [1] v1 11) fun r13 => (mb (gLdR 105 r13 v2) fun r14 => (mb (gStRk 105 r12 v2 r14) fun _ => (mb (gGetR [1] v0 12) fun r15 => (mb (gGetR [1] v1 12) fun r16 => (mb (gLdI 100 r16 v2) fun x17 => (mb (gStI 100 r15 v2 x17) fun _ => (m1_become_p182 n v0 v1 (v2 + 1))))))))))))
def m1_become_p154 : Nat → Nat → Nat → Int32 → gM Unit
  | 0, _, _, _ => mf
  | n + 1, v0, v1, v2 => (mb (gGetI [1] v0 8) fun x18 => (if (x18 : Int32) ≤ v2 then (m1_become_p182 FU v0 v1 0) else (mb (gGetR [1] v0 9) fun r19 => (mb (gGetR [1] v1 9) fun r20 => (mb (gLdR 104 r20 v2) fun r21 => (mb (gStRk 104 r19 v2 r21) fun _ => (m1_become_p154 n v0 v1 (v2 + 1))))))))
def m1_become_p126 : Nat → Nat → Nat → Int32 → gM Unit
  | 0, _, _, _ => mf
  | n + 1, v0, v1, v2 => (mb (gGetI [1] v0 6) fun x22 => (if (x22 : Int32) ≤ v2 then (m1_become_p154 FU v0 v1 0) else (mb (gGetR [1] v0 7) fun r23 => (mb (gGetR [1] v1 7) fun r24 => (mb (gLdR 103 r24 v2) fun r25 => (mb (gStRk 103 r23 v2 r25) fun _ => (m1_become_p126 n v0 v1 (v2 + 1))))))))
def m1_become_p98 : Nat → Nat → Nat → Int32 → gM Unit
  | 0, _, _, _ => mf
  | n + 1, v0, v1, v2 => (mb (gGetI [1] v0 4) fun x26 => (if (x26 : Int32) ≤ v2 then (m1_become_p126 FU v0 v1 0) else (mb (gGetR [1] v0 5) fun r27 => (mb (gGetR [1] v1 5) fun r28 => (mb (gLdR 102 r28 v2) fun r29 => (mb (gStRk 102 r27 v2 r29) fun _ => (m1_become_p98 n v0 v1 (v2 + 1))))))))
def m1_become_p58 : Nat → Nat → Nat → Int32 → gM Unit
  | 0, _, _, _ => mf
  | n + 1, v0, v1, v2 => (mb (gGetI [1] v0 1) fun x30 => (if (x30 : Int32) ≤ v2 then (m1_become_p98 FU v0 v1 0) else (mb (gGetR [1] v0 2) fun r31 => (mb (gGetR [1] v1 2) fun r32 => (mb (gLdI 100 r32 v2) fun x33 => (mb (gStI 100 r31 v2 x33) fun _ => (mb (gGetR [1] v0 3) fun r34 => (mb (gGetR [1] v1 3) fun r35 => (mb (gLdI 100 r35 v2) fun x36 => (mb (gStI 100 r34 v2 x36) fun _ => (m1_become_p58 n v0 v1 (v2 + 1))))))))))))
def m1_become (v0 : Nat) (v1 : Nat) : gM Unit := (mb (gGetI [1] v1 0) fun x37 => (mb (gPutI [1] v0 0 x37) fun _ => (mb (gGetI [1] v1 1) fun x38 => (mb (gPutI [1] v0 1 x38) fun _ => (mb (gGetI [1] v1 4) fun x39 => (mb (gPutI [1] v0 4 x39) fun _ => (mb (gGetI [1] v1 6) fun x40 => (mb (gPutI [1] v0 6 x40) fun _ => (mb (gGetI [1] v1 8) fun x41 => (mb (gPutI [1] v0 8 x41) fun _ => (mb (gGetI [1] v1 10) fun x42 => (mb (gPutI [1] v0 10 x42) fun _ => (mb (gGetI [1] v1 13) fun x43 => (mb (gPutI [1] v0 13 x43) fun _ => (m1_become_p58 FU v0 v1 0)))))))))))))))
/-- m1_isPerson -/
def m1_isPerson_p17 (s0 : Int32) : gM Int32 := (mz s0)
def m1_isPerson_p16 : gM Int32 := (m1_isPerson_p17 0)
def m1_isPerson (v0 : Nat) (v1 : Int32) : gM Int32 := (if v1 < 0 then (m1_isPerson_p16) else (mb (gGetI [1] v0 1) fun x1 => (if (x1 : Int32) ≤ v1 then (m1_isPerson_p16) else (m1_isPerson_p17 1))))
/-- m1_isDeed -/
def m1_isDeed_p17 (s0 : Int32) : gM Int32 := (mz s0)
def m1_isDeed_p16 : gM Int32 := (m1_isDeed_p17 0)
def m1_isDeed (v0 : Nat) (v1 : Int32) : gM Int32 := (if v1 < 0 then (m1_isDeed_p16) else (mb (gGetI [1] v0 4) fun x1 => (if (x1 : Int32) ≤ v1 then (m1_isDeed_p16) else (m1_isDeed_p17 1))))
/-- m1_isFinding -/
def m1_isFinding_p17 (s0 : Int32) : gM Int32 := (mz s0)
def m1_isFinding_p16 : gM Int32 := (m1_isFinding_p17 0)
def m1_isFinding (v0 : Nat) (v1 : Int32) : gM Int32 := (if v1 < 0 then (m1_isFinding_p16) else (mb (gGetI [1] v0 6) fun x1 => (if (x1 : Int32) ≤ v1 then (m1_isFinding_p16) else (m1_isFinding_p17 1))))
/-- m1_isLaw -/
def m1_isLaw_p17 (s0 : Int32) : gM Int32 := (mz s0)
def m1_isLaw_p16 : gM Int32 := (m1_isLaw_p17 0)
def m1_isLaw (v0 : Nat) (v1 : Int32) : gM Int32 := (if v1 < 0 then (m1_isLaw_p16) else (mb (gGetI [1] v0 8) fun x1 => (if (x1 : Int32) ≤ v1 then (m1_isLaw_p16) else (m1_isLaw_p17 1))))
/-- m1_isTerm -/
def m1_isTerm_p17 (s0 : Int32) : gM Int32 := (mz s0)
def m1_isTerm_p16 : gM Int32 := (m1_isTerm_p17 0)
def m1_isTerm (v0 : Nat) (v1 : Int32) : gM Int32 := (if v1 < 0 then (m1_isTerm_p16) else (mb (gGetI [1] v0 10) fun x1 => (if (x1 : Int32) ≤ v1 then (m1_isTerm_p16) else (m1_isTerm_p17 1))))
/-- m1_addPerson -/
def m1_addPerson (v0 : Nat) (v1 : Int32) : gM Int32 := (mb (gGetR [1] v0 2) fun r1 => (mb (gGetI [1] v0 1) fun x2 => (mb (gStI 100 r1 x2 v1) fun _ => (mb (gGetR [1] v0 3) fun r3 => (mb (gGetI [1] v0 1) fun x4 => (mb (gStI 100 r3 x4 0) fun _ => (mb (gGetI [1] v0 1) fun x5 => (mb (gPutI [1] v0 1 (x5 + 1)) fun _ => (mp x5)))))))))
/-- m1_yearsOf -/
def m1_yearsOf (v0 : Nat) (v1 : Int32) (v2 : Int32) : gM Int32 := (mb (gGetR [1] v0 2) fun r1 => (mb (gLdI 100 r1 v1) fun x2 => (mb (gDiv (x2 + v2) 360) fun x3 => (mp x3))))
/-- m10_init -/
def m10_init (v0 : Nat) (v1 : Int32) (v2 : Int32) (v3 : Int32) (v4 : Int32) (v5 : Int32) : gM Unit := (mb (m0_init v0 v1 v2 v3 v4 v5) fun _ => (mp ()))
/-- m1_addDeed -/
def m1_addDeed_p58 (v0 : Nat) (s0 : Nat) (s1 : Int32) (s2 : Nat) : gM Int32 := (mb (gStRk 102 s0 s1 s2) fun _ => (mb (gGetI [1] v0 4) fun x1 => (mb (gPutI [1] v0 4 (x1 + 1)) fun _ => (mp x1))))
def m1_addDeed (v0 : Nat) (v1 : Int32) (v2 : Int32) (v3 : Int32) : gM Int32 := (mb (mv [1] v0 (m1_yearsOf v0 v1 v3)) fun x2 => (mb (gGetR [1] v0 5) fun r3 => (mb (gGetI [1] v0 4) fun x4 => (if (18 : Int32) ≤ x2 then (mb (gNew 0 5) fun r5 => (mb (gGetI [1] v0 4) fun x6 => (mb (m0_init r5 x6 v2 v1 v3 x2) fun _ => (m1_addDeed_p58 v0 r3 x4 r5)))) else (mb (gNew 9 5) fun r7 => (mb (gGetI [1] v0 4) fun x8 => (mb (m10_init r7 x8 v2 v1 v3 x2) fun _ => (m1_addDeed_p58 v0 r3 x4 r7))))))))
/-- m3_init -/
def m3_init (v0 : Nat) (v1 : Int32) (v2 : Int32) (v3 : Nat) (v4 : Int32) (v5 : Int32) : gM Unit := (mb (m6_init v0 v1 v2) fun _ => (mb (gPutR [3] v0 2 (some v3)) fun _ => (mb (gPutZ [3] v0 3 v4) fun _ => (mb (gPutI [3] v0 4 v5) fun _ => (mp ())))))
/-- m1_addFinding -/
def m1_addFinding (v0 : Nat) (v1 : Int32) (v2 : Int32) (v3 : Int32) : gM Int32 := (mb (gGetR [1] v0 7) fun r1 => (mb (gGetI [1] v0 6) fun x2 => (mb (gNew 3 5) fun r3 => (mb (gGetI [1] v0 6) fun x4 => (mb (gGetR [1] v0 5) fun r5 => (mb (gLdR 102 r5 v1) fun r6 => (mb (gGetI [1] v0 0) fun x7 => (mb (m3_init r3 x4 v2 r6 v3 x7) fun _ => (mb (gStRk 103 r1 x2 r3) fun _ => (mb (gGetI [1] v0 6) fun x8 => (mb (gPutI [1] v0 6 (x8 + 1)) fun _ => (mp x8))))))))))))
/-- mj_copyOf -/
def mj_copyOf (v0 : Nat) (v1 : Int32) : gM Nat := (mb (mv [100] v0 (gLen v0)) fun x1 => (if v1 = x1 then (mb (gClone v0) fun r4 => (mv [100] r4 (mp r4))) else (mb (gNewA 100 v1) fun r2 => (mb (mv [100] v0 (gLen v0)) fun x3 => (mb (gCopy v0 0 r2 0 (imin x3 v1)) fun _ => (mp r2))))))
/-- mj_fill -/
def mj_fill_p5 : Nat → Nat → Int32 → Int32 → Int32 → gM Unit
  | 0, _, _, _, _ => mf
  | n + 1, v0, v1, v2, v3 => (if (v3 : Int32) ≤ v2 then (mp ()) else (mb (gStI 100 v0 v2 v1) fun _ => (mj_fill_p5 n v0 v1 (v2 + 1) v3)))
def mj_fill (v0 : Nat) (v1 : Int32) : gM Unit := (mb (mv [100] v0 (gLen v0)) fun x1 => (mj_fill_p5 FU v0 v1 0 x1))
/-- m5_number -/
def m5_number (v0 : Nat) (v1 : Int32) (v2 : Int32) : gM Int32 := (mb (gGetR [5] v0 7) fun r1 => (mb (gLdI 100 r1 ((v1 * 4) + v2)) fun x2 => (mp x2)))
/-- m4_init -/
def m4_init_p312 (k135 : Nat → Nat → Int32 → Int32 → Int32 → gM Unit) (v0 : Nat) (v3 : Nat) (v4 : Int32) (v5 : Int32) (v6 : Int32) : gM Unit := (k135 v0 v3 v4 v5 (v6 + 1))
def m4_init_p135 : Nat → Nat → Nat → Int32 → Int32 → Int32 → gM Unit
  | 0, _, _, _, _, _ => mf
  | n + 1, v0, v3, v4, v5, v6 => (mb (gGetI [4] v0 1) fun x1 => (if (x1 : Int32) ≤ v6 then (mb (gPutZ [4] v0 3 v4) fun _ => (mb (gPutI [4] v0 7 v5) fun _ => (mp ()))) else (mb (mv [5] v3 (m5_number v3 v6 0)) fun x2 => (mb (mv [5] v3 (m5_number v3 v6 1)) fun x3 => (mb (gGetR [4] v0 4) fun r4 => (mb (gLdI 100 r4 v6) fun x5 => (if x5 = 0 then (mb (gGetR [4] v0 5) fun r13 => (mb (gStI 100 r13 x2 x3) fun _ => (m4_init_p312 (m4_init_p135 n) v0 v3 v4 v5 v6))) else (if x5 = 1 then (mb (gGetR [4] v0 6) fun r12 => (mb (gStI 100 r12 x2 x3) fun _ => (m4_init_p312 (m4_init_p135 n) v0 v3 v4 v5 v6))) else (if x5 = 2 then (m4_init_p312 (m4_init_p135 n) v0 v3 v4 x2 v6) else (if x5 = 3 then (mb (gGetR [4] v0 8) fun r9 => (mb (mv [5] v3 (m5_number v3 v6 2)) fun x10 => (mb (mv [5] v3 (m5_number v3 v6 3)) fun x11 => (mb (gStI 100 r9 ((x2 * 4) + x3) (((1000 : Int32) * x10) + x11)) fun _ => (m4_init_p312 (m4_init_p135 n) v0 v3 v4 v5 v6))))) else (if x5 = 4 then (mb (gGetR [4] v0 9) fun r8 => (mb (gStI 100 r8 v6 x2) fun _ => (m4_init_p312 (m4_init_p135 n) v0 v3 v4 v5 v6))) else (if x5 = 5 then (mb (gGetR [4] v0 9) fun r7 => (mb (gStI 100 r7 v6 (-x2)) fun _ => (m4_init_p312 (m4_init_p135 n) v0 v3 v4 v5 v6))) else (if x5 = 6 then (m4_init_p312 (m4_init_p135 n) v0 v3 v4 v5 v6) else (if x5 = 7 then (m4_init_p312 (m4_init_p135 n) v0 v3 1 v5 v6) else (m4_init_p312 (m4_init_p135 n) v0 v3 v4 v5 v6)))))))))))))))
def m4_init (v0 : Nat) (v1 : Int32) (v2 : Int32) (v3 : Nat) : gM Unit := (mb (gGetI [5] v3 1) fun x14 => (mb (m6_init v0 v1 x14) fun _ => (mb (gNewA 100 6) fun r15 => (mb (gPutR [4] v0 5 (some r15)) fun _ => (mb (gNewA 100 6) fun r16 => (mb (gPutR [4] v0 6 (some r16)) fun _ => (mb (gNewA 100 20) fun r17 => (mb (gPutR [4] v0 8 (some r17)) fun _ => (mb (gNewA 100 16) fun r18 => (mb (gPutR [4] v0 13 (some r18)) fun _ => (mb (gPutI [4] v0 2 v2) fun _ => (mb (gGetR [5] v3 3) fun r19 => (mb (gGetI [4] v0 1) fun x20 => (mb (mj_copyOf r19 x20) fun r21 => (mb (gPutR [4] v0 4 (some r21)) fun _ => (mb (gGetR [5] v3 4) fun r22 => (mb (gGetI [4] v0 1) fun x23 => (mb (mj_copyOf r22 x23) fun r24 => (mb (gPutR [4] v0 10 (some r24)) fun _ => (mb (gGetR [5] v3 5) fun r25 => (mb (gGetI [4] v0 1) fun x26 => (mb (mj_copyOf r25 x26) fun r27 => (mb (gPutR [4] v0 11 (some r27)) fun _ => (mb (gGetR [5] v3 6) fun r28 => (mb (gGetI [5] v3 2) fun x29 => (mb (mj_copyOf r28 x29) fun r30 => (mb (gPutR [4] v0 12 (some r30)) fun _ => (mb (gGetI [4] v0 1) fun x31 => (mb (gNewA 100 x31) fun r32 => (mb (gPutR [4] v0 9 (some r32)) fun _ => (mb (gGetR [4] v0 8) fun r33 => (mb (mj_fill r33 (-3)) fun _ => (m4_init_p135 FU v0 v3 0 90 0)))))))))))))))))))))))))))))))))
/-- m1_addLaw -/
def m1_addLaw (v0 : Nat) (v1 : Nat) : gM Int32 := (mb (gGetR [1] v0 9) fun r1 => (mb (gGetI [1] v0 8) fun x2 => (mb (gNew 4 14) fun r3 => (mb (gGetI [1] v0 8) fun x4 => (mb (gGetI [1] v0 0) fun x5 => (mb (m4_init r3 x4 x5 v1) fun _ => (mb (gStRk 104 r1 x2 r3) fun _ => (mb (gGetI [1] v0 8) fun x6 => (mb (gPutI [1] v0 8 (x6 + 1)) fun _ => (mp x6))))))))))
/-- m8_init -/
def m8_init (v0 : Nat) (v1 : Int32) (v2 : Int32) (v3 : Nat) (v4 : Int32) (v5 : Int32) (v6 : Int32) : gM Unit := (mb (m6_init v0 v1 v2) fun _ => (mb (gPutR [7, 2] v0 2 (some v3)) fun _ => (mb (gPutI [7, 2] v0 3 v4) fun _ => (mb (gPutI [7, 2] v0 4 v5) fun _ => (mb (gPutI [7, 2] v0 5 v6) fun _ => (mp ()))))))
/-- m2_init -/
def m2_init (v0 : Nat) (v1 : Int32) (v2 : Int32) (v3 : Nat) (v4 : Int32) (v5 : Int32) (v6 : Int32) : gM Unit := (mb (m8_init v0 v1 v2 v3 v4 v5 v6) fun _ => (mp ()))
/-- m1_addTerm -/
def m1_addTerm_p76 (v0 : Nat) (s0 : Nat) (s1 : Int32) (s2 : Nat) : gM Int32 := (mb (gStRk 105 s0 s1 s2) fun _ => (mb (gGetR [1] v0 12) fun r1 => (mb (gGetI [1] v0 10) fun x2 => (mb (gStI 100 r1 x2 10000) fun _ => (mb (gGetI [1] v0 10) fun x3 => (mb (gPutI [1] v0 10 (x3 + 1)) fun _ => (mp x3)))))))
def m1_addTerm (v0 : Nat) (v1 : Int32) (v2 : Int32) (v3 : Int32) (v4 : Int32) : gM Int32 := (mb (gGetR [1] v0 11) fun r4 => (mb (gGetI [1] v0 10) fun x5 => (mb (gRem v4 10) fun x6 => (if x6 = 1 then (mb (gNew 2 6) fun r13 => (mb (gGetI [1] v0 10) fun x14 => (mb (gGetR [1] v0 5) fun r15 => (mb (gLdR 102 r15 v1) fun r16 => (mb (gDiv v4 10) fun x17 => (mb (gGetI [1] v0 0) fun x18 => (mb (m2_init r13 x14 v3 r16 v2 x17 x18) fun _ => (m1_addTerm_p76 v0 r4 x5 r13)))))))) else (mb (gNew 7 6) fun r7 => (mb (gGetI [1] v0 10) fun x8 => (mb (gGetR [1] v0 5) fun r9 => (mb (gLdR 102 r9 v1) fun r10 => (mb (gDiv v4 10) fun x11 => (mb (gGetI [1] v0 0) fun x12 => (mb (m8_init r7 x8 v3 r10 v2 x11 x12) fun _ => (m1_addTerm_p76 v0 r4 x5 r7))))))))))))
/-- m1_addHeld -/
def m1_addHeld (v0 : Nat) (v1 : Int32) (v2 : Int32) (v3 : Int32) : gM Int32 := (mb (gGetR [1] v0 14) fun r1 => (mb (gGetI [1] v0 13) fun x2 => (mb (gStI 100 r1 x2 v1) fun _ => (mb (gGetR [1] v0 15) fun r3 => (mb (gGetI [1] v0 13) fun x4 => (mb (gStI 100 r3 x4 v2) fun _ => (mb (gGetR [1] v0 16) fun r5 => (mb (gGetI [1] v0 13) fun x6 => (mb (gStI 100 r5 x6 v3) fun _ => (mb (gGetI [1] v0 13) fun x7 => (mb (gPutI [1] v0 13 (x7 + 1)) fun _ => (mb (gGetI [1] v0 13) fun x8 => (mp x8)))))))))))))
/-- m1_findingOf -/
def m1_findingOf_p44 (k7 : Nat → Nat → Int32 → Int32 → gM (Option Nat)) (v0 : Nat) (v1 : Nat) (v2 : Int32) (v3 : Int32) : gM (Option Nat) := (k7 v0 v1 v2 (v3 + (-1)))
def m1_findingOf_p7 : Nat → Nat → Nat → Int32 → Int32 → gM (Option Nat)
  | 0, _, _, _, _ => mf
  | n + 1, v0, v1, v2, v3 => (if v3 < 0 then (mp none) else (mb (gGetR [1] v0 7) fun r1 => (mb (gLdR 103 r1 v3) fun r2 => (mb (gGetR [3] r2 2) fun r3 => (if ((some r3) : Option Nat) = (some v1) then (mb (gGetR [1] v0 7) fun r4 => (mb (gLdR 103 r4 v3) fun r5 => (mb (gGetI [3] r5 4) fun x6 => (if (v2 : Int32) < x6 then (m1_findingOf_p44 (m1_findingOf_p7 n) v0 v1 v2 v3) else (mb (gGetR [1] v0 7) fun r7 => (mb (gLdR 103 r7 v3) fun r8 => (mp (some r8)))))))) else (m1_findingOf_p44 (m1_findingOf_p7 n) v0 v1 v2 v3))))))
def m1_findingOf (v0 : Nat) (v1 : Nat) (v2 : Int32) : gM (Option Nat) := (mb (gGetI [1] v0 6) fun x9 => (m1_findingOf_p7 FU v0 v1 v2 (x9 - 1)))
/-- m1_factsOf -/
def m1_factsOf_p19 (s0 : Int32) : gM Int32 := (mp s0)
def m1_factsOf (v0 : Nat) (v1 : Nat) (v2 : Int32) : gM Int32 := (mb (mv [1] v0 (m1_findingOf v0 v1 v2)) fun r1 => (mo r1 (m1_factsOf_p19 0) fun r2 => (mb (gGetI [3] r2 1) fun x3 => (m1_factsOf_p19 x3))))
/-- m1_isPleaded -/
def m1_isPleaded_p23 (s0 : Int32) : gM Int32 := (mz s0)
def m1_isPleaded_p22 : gM Int32 := (m1_isPleaded_p23 0)
def m1_isPleaded (v0 : Nat) (v1 : Nat) (v2 : Int32) : gM Int32 := (mb (mv [1] v0 (m1_findingOf v0 v1 v2)) fun r1 => (mo r1 (m1_isPleaded_p22) fun r2 => (mb (gGetI [3] r2 3) fun x3 => (if x3 = 0 then (m1_isPleaded_p22) else (m1_isPleaded_p23 1)))))
/-- m1_stands -/
def m1_stands_p28 (s0 : Int32) : gM Int32 := (mz s0)
def m1_stands_p27 : gM Int32 := (m1_stands_p28 0)
def m1_stands (v0 : Nat) (v1 : Int32) (v2 : Int32) : gM Int32 := (mb (gGetR [1] v0 11) fun r1 => (mb (gLdR 105 r1 v1) fun r2 => (mb (gGetI [7, 2] r2 5) fun x3 => (if (v2 : Int32) < x3 then (m1_stands_p27) else (mb (gGetR [1] v0 12) fun r4 => (mb (gLdI 100 r4 v1) fun x5 => (if (x5 : Int32) ≤ v2 then (m1_stands_p27) else (m1_stands_p28 1))))))))
/-- m1_standing -/
def m1_standing_p24 (k4 : Nat → Int32 → Int32 → Int32 → gM Int32) (v0 : Nat) (v1 : Int32) (v2 : Int32) (v3 : Int32) : gM Int32 := (k4 v0 v1 v2 (v3 + 1))
def m1_standing_p4 : Nat → Nat → Int32 → Int32 → Int32 → gM Int32
  | 0, _, _, _, _ => mf
  | n + 1, v0, v1, v2, v3 => (mb (gGetI [1] v0 10) fun x1 => (if (x1 : Int32) ≤ v3 then (mp v2) else (mb (mv [1] v0 (m1_stands v0 v3 v1)) fun x2 => (if x2 = 0 then (m1_standing_p24 (m1_standing_p4 n) v0 v1 v2 v3) else (m1_standing_p24 (m1_standing_p4 n) v0 v1 (v2 + 1) v3)))))
def m1_standing (v0 : Nat) (v1 : Int32) : gM Int32 := (m1_standing_p4 FU v0 v1 0 0)
/-- m1_termOf -/
def m1_termOf_p34 (k2 : Nat → Nat → Int32 → Int32 → gM Int32) (v0 : Nat) (v1 : Nat) (v2 : Int32) (v3 : Int32) : gM Int32 := (k2 v0 v1 v2 (v3 + 1))
def m1_termOf_p2 : Nat → Nat → Nat → Int32 → Int32 → gM Int32
  | 0, _, _, _, _ => mf
  | n + 1, v0, v1, v2, v3 => (mb (gGetI [1] v0 10) fun x1 => (if (x1 : Int32) ≤ v3 then (mp (-3)) else (mb (gGetR [1] v0 11) fun r2 => (mb (gLdR 105 r2 v3) fun r3 => (mb (gGetR [7, 2] r3 2) fun r4 => (if ((some r4) : Option Nat) = (some v1) then (mb (mv [1] v0 (m1_stands v0 v3 v2)) fun x5 => (if x5 = 0 then (m1_termOf_p34 (m1_termOf_p2 n) v0 v1 v2 v3) else (mp v3))) else (m1_termOf_p34 (m1_termOf_p2 n) v0 v1 v2 v3)))))))
def m1_termOf (v0 : Nat) (v1 : Nat) (v2 : Int32) : gM Int32 := (m1_termOf_p2 FU v0 v1 v2 0)
/-- m1_lawOf -/
def m1_lawOf_p81 (k8 : Nat → Nat → Int32 → Option Nat → Option Nat → Int32 → gM (Option Nat)) (v0 : Nat) (v1 : Nat) (v2 : Int32) (v3 : Option Nat) (v4 : Option Nat) (v5 : Int32) : gM (Option Nat) := (k8 v0 v1 v2 v3 v4 (v5 + 1))
def m1_lawOf_p98 (s0 : Option Nat) : gM (Option Nat) := (mp s0)
def m1_lawOf_p8 : Nat → Nat → Nat → Int32 → Option Nat → Option Nat → Int32 → gM (Option Nat)
  | 0, _, _, _, _, _, _ => mf
  | n + 1, v0, v1, v2, v3, v4, v5 => (mb (gGetI [1] v0 8) fun x1 => (if (x1 : Int32) ≤ v5 then (mo v4 (m1_lawOf_p98 v3) fun r2 => (m1_lawOf_p98 (some r2))) else (mb (gGetR [1] v0 9) fun r3 => (mb (gLdR 104 r3 v5) fun r4 => (mb (gGetI [4] r4 2) fun x5 => (mb (gGetI [0, 9] v1 3) fun x6 => (if (x6 : Int32) < x5 then (mb (gGetR [1] v0 9) fun r7 => (mb (gLdR 104 r7 v5) fun r8 => (mb (gGetI [4] r8 2) fun x9 => (if (v2 : Int32) < x9 then (m1_lawOf_p81 (m1_lawOf_p8 n) v0 v1 v2 v3 v4 v5) else (mb (gGetR [1] v0 9) fun r10 => (mb (gLdR 104 r10 v5) fun r11 => (mb (gGetI [4] r11 3) fun x12 => (if x12 = 0 then (m1_lawOf_p81 (m1_lawOf_p8 n) v0 v1 v2 v3 v4 v5) else (mb (gGetR [1] v0 9) fun r13 => (mb (gLdR 104 r13 v5) fun r14 => (m1_lawOf_p81 (m1_lawOf_p8 n) v0 v1 v2 v3 (some r14) v5))))))))))) else (mb (gGetR [1] v0 9) fun r15 => (mb (gLdR 104 r15 v5) fun r16 => (m1_lawOf_p81 (m1_lawOf_p8 n) v0 v1 v2 (some r16) v4 v5))))))))))
def m1_lawOf (v0 : Nat) (v1 : Nat) (v2 : Int32) : gM (Option Nat) := (m1_lawOf_p8 FU v0 v1 v2 none none 0)
/-- m1_pointsBy -/
def m1_pointsBy_p114 (k6 : Nat → Nat → Nat → Int32 → Int32 → Int32 → gM Int32) (v0 : Nat) (v1 : Nat) (v2 : Nat) (v3 : Int32) (v4 : Int32) (v5 : Int32) : gM Int32 := (k6 v0 v1 v2 v3 v4 (v5 + 1))
def m1_pointsBy_p6 : Nat → Nat → Nat → Nat → Int32 → Int32 → Int32 → gM Int32
  | 0, _, _, _, _, _, _ => mf
  | n + 1, v0, v1, v2, v3, v4, v5 => (mb (gGetI [1] v0 10) fun x1 => (if (x1 : Int32) ≤ v5 then (mp v4) else (mb (gGetR [1] v0 11) fun r2 => (mb (gLdR 105 r2 v5) fun r3 => (mb (gGetR [7, 2] r3 2) fun r4 => (if ((some r4) : Option Nat) = (some v2) then (m1_pointsBy_p114 (m1_pointsBy_p6 n) v0 v1 v2 v3 v4 v5) else (mb (gGetI [0, 9] r4 2) fun x5 => (mb (gGetI [0, 9] v2 2) fun x6 => (if (x5 : Int32) = x6 then (mb (mv [1] v0 (m1_stands v0 v5 v3)) fun x7 => (if x7 = 0 then (m1_pointsBy_p114 (m1_pointsBy_p6 n) v0 v1 v2 v3 v4 v5) else (mb (gGetR [1] v0 11) fun r8 => (mb (gLdR 105 r8 v5) fun r9 => (mb (gGetI [7, 2] r9 5) fun x10 => (mb (gGetI [0, 9] v2 3) fun x11 => (if (x10 : Int32) < x11 then (mb (gGetI [0, 9] v2 3) fun x12 => (mb (gGetI [0, 9] r4 3) fun x13 => (mb (gGetI [4] v1 7) fun x14 => (if ((x14 * 360) : Int32) < (x12 - x13) then (m1_pointsBy_p114 (m1_pointsBy_p6 n) v0 v1 v2 v3 v4 v5) else (mb (gGetR [4] v1 6) fun r15 => (mb (gGetI [0, 9] r4 1) fun x16 => (mb (gLdI 100 r15 x16) fun x17 => (m1_pointsBy_p114 (m1_pointsBy_p6 n) v0 v1 v2 v3 (v4 + x17) v5)))))))) else (m1_pointsBy_p114 (m1_pointsBy_p6 n) v0 v1 v2 v3 v4 v5)))))))) else (m1_pointsBy_p114 (m1_pointsBy_p6 n) v0 v1 v2 v3 v4 v5))))))))))
def m1_pointsBy (v0 : Nat) (v1 : Nat) (v2 : Nat) (v3 : Int32) : gM Int32 := (m1_pointsBy_p6 FU v0 v1 v2 v3 0 0)
/-- m1_fillView -/
def m1_fillView_p76 (v0 : Nat) (v1 : Nat) (v2 : Nat) (v3 : Int32) (s0 : Nat) (s1 : Int32) (s2 : Int32) : gM Unit := (mb (gStI 100 s0 s1 s2) fun _ => (mb (gGetR [1] v0 17) fun r1 => (mb (gGetI [0, 9] v2 1) fun x2 => (mb (gStI 100 r1 6 x2) fun _ => (mb (gGetR [1] v0 17) fun r3 => (mb (gGetI [0, 9] v2 4) fun x4 => (mb (gStI 100 r3 7 x4) fun _ => (mb (gGetR [1] v0 17) fun r5 => (mb (mv [1] v0 (m1_pointsBy v0 v1 v2 v3)) fun x6 => (mb (gStI 100 r5 8 x6) fun _ => (mp ())))))))))))
def m1_fillView_p56 (v0 : Nat) (v1 : Nat) (v2 : Nat) (v3 : Int32) (s0 : Nat) (s1 : Int32) (s2 : Int32) : gM Unit := (mb (gStI 100 s0 s1 s2) fun _ => (mb (gGetR [1] v0 17) fun r7 => (mb (mv [1] v0 (m1_isPleaded v0 v2 v3)) fun x8 => (if x8 = 0 then (m1_fillView_p76 v0 v1 v2 v3 r7 5 0) else (m1_fillView_p76 v0 v1 v2 v3 r7 5 1)))))
def m1_fillView_p11 : Nat → Nat → Nat → Nat → Int32 → Int32 → Int32 → gM Unit
  | 0, _, _, _, _, _, _ => mf
  | n + 1, v0, v1, v2, v3, v4, v5 => (if (4 : Int32) ≤ v5 then (mb (gGetR [1] v0 17) fun r9 => (mb (gGetI [0, 9] v2 4) fun x10 => (if (18 : Int32) ≤ x10 then (m1_fillView_p56 v0 v1 v2 v3 r9 4 0) else (m1_fillView_p56 v0 v1 v2 v3 r9 4 1)))) else (mb (gGetR [1] v0 17) fun r11 => (mb (gStI 100 r11 v5 ((v4 >>> (v5 &&& 31)) &&& 1)) fun _ => (m1_fillView_p11 n v0 v1 v2 v3 v4 (v5 + 1)))))
def m1_fillView (v0 : Nat) (v1 : Nat) (v2 : Nat) (v3 : Int32) : gM Unit := (mb (mv [1] v0 (m1_factsOf v0 v2 v3)) fun x12 => (m1_fillView_p11 FU v0 v1 v2 v3 x12 0))
/-- m4_joined -/
def m4_joined_p54 (s0 : Int32) : gM Int32 := (mp s0)
def m4_joined_p65 (s0 : Int32) : gM Int32 := (mp s0)
def m4_joined_p76 (s0 : Int32) : gM Int32 := (mp s0)
def m4_joined_p81 (v1 : Int32) (v2 : Int32) : gM Int32 := (mp (v1 ||| v2))
def m4_joined (v0 : Int32) (v1 : Int32) (v2 : Int32) : gM Int32 := (if v0 = 2000 then (mp (v1 + v2)) else (if v0 = 2001 then (if (v2 : Int32) ≤ v1 then (m4_joined_p54 0) else (m4_joined_p54 1)) else (if v0 = 2002 then (if v1 = v2 then (m4_joined_p65 1) else (m4_joined_p65 0)) else (if v0 = 2003 then (if (v1 : Int32) ≤ v2 then (m4_joined_p76 0) else (m4_joined_p76 1)) else (if v0 = 2004 then (m4_joined_p81 v1 v2) else (if v0 = 2005 then (mp (v1 &&& v2)) else (m4_joined_p81 v1 v2)))))))
/-- m4_holds -/
def m4_holds_p152 (k10 : Nat → Int32 → Nat → Int32 → Int32 → gM Int32) (v0 : Nat) (v1 : Int32) (v2 : Nat) (v3 : Int32) (v4 : Int32) : gM Int32 := (k10 v0 v1 v2 v3 (v4 + 1))
def m4_holds_p72 (k10 : Nat → Int32 → Nat → Int32 → Int32 → gM Int32) (v0 : Nat) (v1 : Int32) (v2 : Nat) (v3 : Int32) (v4 : Int32) (s0 : Nat) (s1 : Int32) (s2 : Int32) : gM Int32 := (mb (gStI 100 s0 s1 s2) fun _ => (m4_holds_p152 k10 v0 v1 v2 (v3 + 1) v4))
def m4_holds_p177 (s0 : Int32) : gM Int32 := (mz s0)
def m4_holds_p176 : gM Int32 := (m4_holds_p177 0)
def m4_holds_p10 : Nat → Nat → Int32 → Nat → Int32 → Int32 → gM Int32
  | 0, _, _, _, _, _ => mf
  | n + 1, v0, v1, v2, v3, v4 => (mb (gGetR [4] v0 11) fun r1 => (mb (gLdI 100 r1 v1) fun x2 => (if (x2 : Int32) ≤ v4 then (if v3 = 1 then (mb (gGetR [4] v0 13) fun r3 => (mb (gLdI 100 r3 0) fun x4 => (if x4 = 0 then (m4_holds_p176) else (m4_holds_p177 1)))) else (m4_holds_p176)) else (mb (gGetR [4] v0 12) fun r5 => (mb (gLdI 100 r5 v4) fun x6 => (if (2000 : Int32) ≤ x6 then (if x6 = 2004 then (if (1 : Int32) ≤ v3 then (mb (gGetR [4] v0 13) fun r13 => (mb (gGetR [4] v0 13) fun r14 => (mb (gLdI 100 r14 (v3 - 1)) fun x15 => (mb (gStI 100 r13 (v3 - 1) ((1 : Int32) - x15)) fun _ => (m4_holds_p152 (m4_holds_p10 n) v0 v1 v2 v3 v4))))) else (mz 0)) else (if (2 : Int32) ≤ v3 then (mb (gGetR [4] v0 13) fun r7 => (mb (gGetR [4] v0 13) fun r8 => (mb (gLdI 100 r8 ((v3 + (-1)) - 1)) fun x9 => (mb (gGetR [4] v0 13) fun r10 => (mb (gLdI 100 r10 (v3 + (-1))) fun x11 => (mb (m4_joined x6 x9 x11) fun x12 => (mb (gStI 100 r7 ((v3 + (-1)) - 1) x12) fun _ => (m4_holds_p152 (m4_holds_p10 n) v0 v1 v2 (v3 + (-1)) v4)))))))) else (mz 0))) else (if (v3 : Int32) < 16 then (mb (gGetR [4] v0 13) fun r16 => (if (1000 : Int32) ≤ x6 then (mb (gLdI 100 v2 (x6 - 1000)) fun x17 => (m4_holds_p72 (m4_holds_p10 n) v0 v1 v2 v3 v4 r16 v3 x17)) else (m4_holds_p72 (m4_holds_p10 n) v0 v1 v2 v3 v4 r16 v3 x6))) else (mz 0))))))))
def m4_holds (v0 : Nat) (v1 : Int32) (v2 : Nat) : gM Int32 := (mb (gGetR [4] v0 10) fun r18 => (mb (gLdI 100 r18 v1) fun x19 => (m4_holds_p10 FU v0 v1 v2 0 x19)))
/-- m4_graveFor -/
def m4_graveFor_p47 (k12 : Nat → Nat → Int32 → Int32 → gM Int32) (v0 : Nat) (v1 : Nat) (v2 : Int32) (v3 : Int32) : gM Int32 := (k12 v0 v1 v2 (v3 + 1))
def m4_graveFor_p12 : Nat → Nat → Nat → Int32 → Int32 → gM Int32
  | 0, _, _, _, _ => mf
  | n + 1, v0, v1, v2, v3 => (mb (gGetI [4] v0 1) fun x1 => (if (x1 : Int32) ≤ v3 then (mp (imax 0 (imin 4 v2))) else (mb (gGetR [4] v0 9) fun r2 => (mb (gLdI 100 r2 v3) fun x3 => (if x3 = 0 then (m4_graveFor_p47 (m4_graveFor_p12 n) v0 v1 v2 v3) else (mb (mv [4] v0 (m4_holds v0 v3 v1)) fun x4 => (if x4 = 0 then (m4_graveFor_p47 (m4_graveFor_p12 n) v0 v1 v2 v3) else (mb (gGetR [4] v0 9) fun r5 => (mb (gLdI 100 r5 v3) fun x6 => (m4_graveFor_p47 (m4_graveFor_p12 n) v0 v1 (v2 + x6) v3))))))))))
def m4_graveFor (v0 : Nat) (v1 : Nat) : gM Int32 := (mb (gGetR [4] v0 5) fun r7 => (mb (gLdI 100 v1 6) fun x8 => (mb (gLdI 100 r7 x8) fun x9 => (m4_graveFor_p12 FU v0 v1 x9 0))))
/-- m1_graveBy -/
def m1_graveBy (v0 : Nat) (v1 : Nat) (v2 : Nat) (v3 : Int32) : gM Int32 := (mb (mv [1] v0 (m1_fillView v0 v1 v2 v3)) fun _ => (mb (gGetR [1] v0 17) fun r1 => (mb (mv [4] v1 (m4_graveFor v1 r1)) fun x2 => (mp x2))))
/-- m4_rangeFor -/
def m4_rangeFor (v0 : Nat) (v1 : Nat) : gM Int32 := (mb (gLdI 100 v1 8) fun x1 => (mb (gDiv x1 3) fun x2 => (mb (gGetR [4] v0 8) fun r3 => (mb (mv [4] v0 (m4_graveFor v0 v1)) fun x4 => (mb (gLdI 100 r3 ((x4 * 4) + (imin 3 x2))) fun x5 => (mp x5))))))
/-- m1_rangeBy -/
def m1_rangeBy (v0 : Nat) (v1 : Nat) (v2 : Nat) (v3 : Int32) : gM Int32 := (mb (mv [1] v0 (m1_fillView v0 v1 v2 v3)) fun _ => (mb (gGetR [1] v0 17) fun r1 => (mb (mv [4] v1 (m4_rangeFor v1 r1)) fun x2 => (mp x2))))
/-- m1_isAmiss -/
def m1_isAmiss_p78 (s0 : Int32) : gM Int32 := (mz s0)
def m1_isAmiss_p73 : gM Int32 := (m1_isAmiss_p78 1)
def m1_isAmiss_p77 : gM Int32 := (m1_isAmiss_p78 0)
def m1_isAmiss (v0 : Nat) (v1 : Nat) (v2 : Int32) : gM Int32 := (mb (gGetR [7, 2] v1 2) fun r1 => (mb (gGetI [7, 2] v1 5) fun x2 => (mb (mv [1] v0 (m1_lawOf v0 r1 x2)) fun r3 => (mo r3 (mz 1) fun r4 => (mb (gGetR [7, 2] v1 2) fun r5 => (mb (mv [1] v0 (m1_rangeBy v0 r4 r5 v2)) fun x6 => (if x6 = (-3) then (mz 1) else (mb (gGetI [7, 2] v1 4) fun x7 => (if x7 = 0 then (mb (gGetI [7, 2] v1 1) fun x8 => (mb (gDiv x6 1000) fun x9 => (if (x8 : Int32) < x9 then (m1_isAmiss_p73) else (mb (gGetI [7, 2] v1 1) fun x10 => (mb (gRem x6 1000) fun x11 => (if (x10 : Int32) ≤ x11 then (m1_isAmiss_p77) else (m1_isAmiss_p73))))))) else (m1_isAmiss_p77))))))))))
/-- m4_isBeside -/
def m4_isBeside_p32 (k2 : Nat → Nat → Int32 → gM Int32) (v0 : Nat) (v1 : Nat) (v2 : Int32) : gM Int32 := (k2 v0 v1 (v2 + 1))
def m4_isBeside_p2 : Nat → Nat → Nat → Int32 → gM Int32
  | 0, _, _, _ => mf
  | n + 1, v0, v1, v2 => (mb (gGetI [4] v0 1) fun x1 => (if (x1 : Int32) ≤ v2 then (mz 0) else (mb (gGetR [4] v0 4) fun r2 => (mb (gLdI 100 r2 v2) fun x3 => (if x3 = 6 then (mb (mv [4] v0 (m4_holds v0 v2 v1)) fun x4 => (if x4 = 0 then (m4_isBeside_p32 (m4_isBeside_p2 n) v0 v1 v2) else (mz 1))) else (m4_isBeside_p32 (m4_isBeside_p2 n) v0 v1 v2))))))
def m4_isBeside (v0 : Nat) (v1 : Nat) : gM Int32 := (m4_isBeside_p2 FU v0 v1 0)
/-- m1_beginOf -/
def m1_beginOf_p65 (s0 : Int32) : gM Int32 := (mp s0)
def m1_beginOf (v0 : Nat) (v1 : Nat) (v2 : Int32) (v3 : Int32) : gM Int32 := (mb (gGetI [7, 2] v1 5) fun x1 => (if (x1 : Int32) < v2 then (mb (gGetR [7, 2] v1 2) fun r2 => (mb (gGetI [7, 2] v1 5) fun x3 => (mb (mv [1] v0 (m1_lawOf v0 r2 x3)) fun r4 => (mo r4 (mp v2) fun r5 => (mb (gGetR [7, 2] v1 2) fun r6 => (mb (mv [1] v0 (m1_fillView v0 r5 r6 v3)) fun _ => (mb (gGetR [1] v0 17) fun r7 => (mb (mv [4] r5 (m4_isBeside r5 r7)) fun x8 => (if x8 = 0 then (m1_beginOf_p65 v2) else (mb (gGetI [7, 2] v1 5) fun x9 => (m1_beginOf_p65 x9))))))))))) else (mb (gGetI [7, 2] v1 5) fun x10 => (mp x10))))
/-- m7_get -/
def m7_get (v0 : Nat) (v1 : Int32) (v2 : Int32) : gM Int32 := (mb (gGetR [6] v0 0) fun r1 => (mb (gLdI 100 r1 ((v1 * 3) + v2)) fun x2 => (mp x2)))
/-- m7_latestEnd -/
def m7_latestEnd_p4 : Nat → Nat → Int32 → Int32 → Int32 → gM Int32
  | 0, _, _, _, _ => mf
  | n + 1, v0, v1, v2, v3 => (if (v1 : Int32) ≤ v3 then (mp v2) else (mb (mv [6] v0 (m7_get v0 v3 2)) fun x1 => (m7_latestEnd_p4 n v0 v1 (imax v2 x1) (v3 + 1))))
def m7_latestEnd (v0 : Nat) (v1 : Int32) : gM Int32 := (m7_latestEnd_p4 FU v0 v1 0 0)
/-- m7_set -/
def m7_set (v0 : Nat) (v1 : Int32) (v2 : Int32) (v3 : Int32) : gM Unit := (mb (gGetR [6] v0 0) fun r1 => (mb (gStI 100 r1 ((v1 * 3) + v2) v3) fun _ => (mp ())))
/-- m7_add -/
def m7_add (v0 : Nat) (v1 : Int32) (v2 : Int32) (v3 : Int32) : gM Unit := (mb (gGetI [6] v0 1) fun x1 => (if (x1 : Int32) < 16 then (mb (gGetI [6] v0 1) fun x2 => (mb (mv [6] v0 (m7_set v0 x2 0 v1)) fun _ => (mb (gGetI [6] v0 1) fun x3 => (mb (mv [6] v0 (m7_set v0 x3 1 v2)) fun _ => (mb (gGetI [6] v0 1) fun x4 => (mb (mv [6] v0 (m7_set v0 x4 2 v3)) fun _ => (mb (gGetI [6] v0 1) fun x5 => (mb (gPutI [6] v0 1 (x5 + 1)) fun _ => (mp ()))))))))) else (mp ())))
/-- m1_fillTime -/
def m1_fillTime_p93 (k8 : Nat → Int32 → Int32 → Nat → Int32 → gM Unit) (v0 : Nat) (v1 : Int32) (v2 : Int32) (v3 : Nat) (v4 : Int32) : gM Unit := (k8 v0 v1 v2 v3 (v4 + 1))
def m1_fillTime_p8 : Nat → Nat → Int32 → Int32 → Nat → Int32 → gM Unit
  | 0, _, _, _, _, _ => mf
  | n + 1, v0, v1, v2, v3, v4 => (mb (gGetI [1] v0 10) fun x1 => (if (x1 : Int32) ≤ v4 then (mp ()) else (mb (gGetR [1] v0 11) fun r2 => (mb (gLdR 105 r2 v4) fun r3 => (mb (gGetR [7, 2] r3 2) fun r4 => (mb (gGetI [0, 9] r4 2) fun x5 => (if x5 = v1 then (mb (mv [1] v0 (m1_stands v0 v4 v2)) fun x6 => (if x6 = 0 then (m1_fillTime_p93 (m1_fillTime_p8 n) v0 v1 v2 v3 v4) else (mb (gGetR [1] v0 11) fun r7 => (mb (gLdR 105 r7 v4) fun r8 => (mb (gGetI [6] v3 1) fun x9 => (mb (mv [6] v3 (m7_latestEnd v3 x9)) fun x10 => (mb (mv [1] v0 (m1_beginOf v0 r8 x10 v2)) fun x11 => (mb (gGetR [1] v0 11) fun r12 => (mb (gLdR 105 r12 v4) fun r13 => (mb (gGetI [7, 2] r13 1) fun x14 => (mb (mv [6] v3 (m7_add v3 v4 x11 (x11 + ((30 : Int32) * x14)))) fun _ => (m1_fillTime_p93 (m1_fillTime_p8 n) v0 v1 v2 v3 v4)))))))))))) else (m1_fillTime_p93 (m1_fillTime_p8 n) v0 v1 v2 v3 v4))))))))
def m1_fillTime (v0 : Nat) (v1 : Int32) (v2 : Int32) (v3 : Nat) : gM Unit := (mb (gPutI [6] v3 1 0) fun _ => (m1_fillTime_p8 FU v0 v1 v2 v3 0))
/-- m1_firstPassed -/
def m1_firstPassed_p45 (k2 : Nat → Int32 → Int32 → Int32 → gM Int32) (v0 : Nat) (v1 : Int32) (v2 : Int32) (v3 : Int32) : gM Int32 := (k2 v0 v1 v2 (v3 + 1))
def m1_firstPassed_p2 : Nat → Nat → Int32 → Int32 → Int32 → gM Int32
  | 0, _, _, _, _ => mf
  | n + 1, v0, v1, v2, v3 => (mb (gGetI [1] v0 10) fun x1 => (if (x1 : Int32) ≤ v3 then (mp (-3)) else (mb (gGetR [1] v0 11) fun r2 => (mb (gLdR 105 r2 v3) fun r3 => (mb (gGetR [7, 2] r3 2) fun r4 => (mb (gGetI [0, 9] r4 2) fun x5 => (if x5 = v1 then (mb (mv [1] v0 (m1_stands v0 v3 v2)) fun x6 => (if x6 = 0 then (m1_firstPassed_p45 (m1_firstPassed_p2 n) v0 v1 v2 v3) else (mb (gGetR [1] v0 11) fun r7 => (mb (gLdR 105 r7 v3) fun r8 => (mb (gGetI [7, 2] r8 5) fun x9 => (mp x9)))))) else (m1_firstPassed_p45 (m1_firstPassed_p2 n) v0 v1 v2 v3))))))))
def m1_firstPassed (v0 : Nat) (v1 : Int32) (v2 : Int32) : gM Int32 := (m1_firstPassed_p2 FU v0 v1 v2 0)
/-- m1_lastPassed -/
def m1_lastPassed_p46 (k7 : Nat → Int32 → Int32 → Int32 → gM Int32) (v0 : Nat) (v1 : Int32) (v2 : Int32) (v3 : Int32) : gM Int32 := (k7 v0 v1 v2 (v3 + (-1)))
def m1_lastPassed_p7 : Nat → Nat → Int32 → Int32 → Int32 → gM Int32
  | 0, _, _, _, _ => mf
  | n + 1, v0, v1, v2, v3 => (if v3 < 0 then (mp (-3)) else (mb (gGetR [1] v0 11) fun r1 => (mb (gLdR 105 r1 v3) fun r2 => (mb (gGetR [7, 2] r2 2) fun r3 => (mb (gGetI [0, 9] r3 2) fun x4 => (if x4 = v1 then (mb (mv [1] v0 (m1_stands v0 v3 v2)) fun x5 => (if x5 = 0 then (m1_lastPassed_p46 (m1_lastPassed_p7 n) v0 v1 v2 v3) else (mb (gGetR [1] v0 11) fun r6 => (mb (gLdR 105 r6 v3) fun r7 => (mb (gGetI [7, 2] r7 5) fun x8 => (mp x8)))))) else (m1_lastPassed_p46 (m1_lastPassed_p7 n) v0 v1 v2 v3)))))))
def m1_lastPassed (v0 : Nat) (v1 : Int32) (v2 : Int32) : gM Int32 := (mb (gGetI [1] v0 10) fun x9 => (m1_lastPassed_p7 FU v0 v1 v2 (x9 - 1)))
/-- m1_heldAhead -/
def m1_heldAhead_p104 (k26 : Nat → Int32 → Int32 → Int32 → Int32 → Int32 → Int32 → Int32 → Int32 → gM Int32) (v0 : Nat) (v1 : Int32) (v2 : Int32) (v3 : Int32) (v4 : Int32) (v5 : Int32) (v6 : Int32) (v7 : Int32) (v8 : Int32) : gM Int32 := (k26 v0 v1 v2 v3 v4 v5 v6 v7 (v8 + 1))
def m1_heldAhead_p26 (k8 : Nat → Int32 → Int32 → Int32 → Int32 → Int32 → gM Int32) : Nat → Nat → Int32 → Int32 → Int32 → Int32 → Int32 → Int32 → Int32 → Int32 → gM Int32
  | 0, _, _, _, _, _, _, _, _, _ => mf
  | n + 1, v0, v1, v2, v3, v4, v5, v6, v7, v8 => (mb (gGetI [1] v0 13) fun x1 => (if (x1 : Int32) ≤ v8 then (k8 v0 v1 v2 (v3 + (v7 - v6)) v7 (v5 + 1)) else (mb (gGetR [1] v0 14) fun r2 => (mb (gLdI 100 r2 v8) fun x3 => (if x3 = v1 then (mb (gGetR [1] v0 16) fun r4 => (mb (gLdI 100 r4 v8) fun x5 => (if (v4 : Int32) ≤ x5 then (mb (gGetR [1] v0 15) fun r6 => (mb (gLdI 100 r6 v8) fun x7 => (if ((imax x7 v4) : Int32) < v6 then (mb (gGetR [1] v0 16) fun r8 => (mb (gLdI 100 r8 v8) fun x9 => (m1_heldAhead_p104 (m1_heldAhead_p26 k8 n) v0 v1 v2 v3 v4 v5 (imax x7 v4) (imin (x9 + 1) v2) v8))) else (m1_heldAhead_p104 (m1_heldAhead_p26 k8 n) v0 v1 v2 v3 v4 v5 v6 v7 v8)))) else (m1_heldAhead_p104 (m1_heldAhead_p26 k8 n) v0 v1 v2 v3 v4 v5 v6 v7 v8)))) else (m1_heldAhead_p104 (m1_heldAhead_p26 k8 n) v0 v1 v2 v3 v4 v5 v6 v7 v8))))))
def m1_heldAhead_p8 : Nat → Nat → Int32 → Int32 → Int32 → Int32 → Int32 → gM Int32
  | 0, _, _, _, _, _, _ => mf
  | n + 1, v0, v1, v2, v3, v4, v5 => (mb (gGetI [1] v0 13) fun x10 => (if (x10 : Int32) ≤ v5 then (mp v3) else (m1_heldAhead_p26 (m1_heldAhead_p8 n) FU v0 v1 v2 v3 v4 v5 v2 v2 0)))
def m1_heldAhead (v0 : Nat) (v1 : Int32) (v2 : Int32) : gM Int32 := (m1_heldAhead_p8 FU v0 v1 v2 0 0 0)
/-- m1_creditOf -/
def m1_creditOf_p23 (s0 : Int32) : gM Int32 := (mp s0)
def m1_creditOf (v0 : Nat) (v1 : Int32) (v2 : Int32) : gM Int32 := (mb (mv [1] v0 (m1_firstPassed v0 v1 v2)) fun x1 => (if x1 = (-3) then (m1_creditOf_p23 0) else (mb (mv [1] v0 (m1_heldAhead v0 v1 x1)) fun x2 => (m1_creditOf_p23 x2))))
/-- m1_releaseOf -/
def m1_releaseOf (v0 : Nat) (v1 : Int32) (v2 : Int32) : gM Int32 := (mb (gGetR [1] v0 18) fun r1 => (mb (mv [1] v0 (m1_fillTime v0 v1 v2 r1)) fun _ => (mb (gGetR [1] v0 18) fun r2 => (mb (gGetI [6] r2 1) fun x3 => (if x3 = 0 then (mp (-3)) else (mb (gGetR [1] v0 18) fun r4 => (mb (gGetR [1] v0 18) fun r5 => (mb (gGetI [6] r5 1) fun x6 => (mb (mv [6] r4 (m7_latestEnd r4 x6)) fun x7 => (mb (mv [1] v0 (m1_creditOf v0 v1 v2)) fun x8 => (mb (gGetR [1] v0 3) fun r9 => (mb (gLdI 100 r9 v1) fun x10 => (mb (mv [1] v0 (m1_lastPassed v0 v1 v2)) fun x11 => (mp (imax x11 ((x7 - x8) - x10))))))))))))))))
/-- m1_pointsJudged -/
def m1_pointsJudged_p22 (s0 : Int32) : gM Int32 := (mp s0)
def m1_pointsJudged (v0 : Nat) (v1 : Nat) (v2 : Int32) : gM Int32 := (mb (mv [1] v0 (m1_lawOf v0 v1 v2)) fun r1 => (mo r1 (m1_pointsJudged_p22 0) fun r2 => (mb (mv [1] v0 (m1_pointsBy v0 r2 v1 v2)) fun x3 => (m1_pointsJudged_p22 x3))))
/-- mj_bitCount -/
def mj_bitCount (v0 : Int32) : gM Int32 := (mp ((((((((v0 - ((iush v0 1) &&& 1431655765)) &&& 858993459) + ((iush (v0 - ((iush v0 1) &&& 1431655765)) 2) &&& 858993459)) + (iush (((v0 - ((iush v0 1) &&& 1431655765)) &&& 858993459) + ((iush (v0 - ((iush v0 1) &&& 1431655765)) 2) &&& 858993459)) 4)) &&& 252645135) + (iush (((((v0 - ((iush v0 1) &&& 1431655765)) &&& 858993459) + ((iush (v0 - ((iush v0 1) &&& 1431655765)) 2) &&& 858993459)) + (iush (((v0 - ((iush v0 1) &&& 1431655765)) &&& 858993459) + ((iush (v0 - ((iush v0 1) &&& 1431655765)) 2) &&& 858993459)) 4)) &&& 252645135) 8)) + (iush ((((((v0 - ((iush v0 1) &&& 1431655765)) &&& 858993459) + ((iush (v0 - ((iush v0 1) &&& 1431655765)) 2) &&& 858993459)) + (iush (((v0 - ((iush v0 1) &&& 1431655765)) &&& 858993459) + ((iush (v0 - ((iush v0 1) &&& 1431655765)) 2) &&& 858993459)) 4)) &&& 252645135) + (iush (((((v0 - ((iush v0 1) &&& 1431655765)) &&& 858993459) + ((iush (v0 - ((iush v0 1) &&& 1431655765)) 2) &&& 858993459)) + (iush (((v0 - ((iush v0 1) &&& 1431655765)) &&& 858993459) + ((iush (v0 - ((iush v0 1) &&& 1431655765)) 2) &&& 858993459)) 4)) &&& 252645135) 8)) 16)) &&& 63))
/-- m1_apart -/
def m1_apart_p73 (v0 : Nat) (v1 : Nat) (v2 : Nat) (v3 : Int32) (v4 : Int32) : gM Int32 := (mb (mv [1] v0 (m1_pointsJudged v0 v1 v3)) fun x1 => (mb (mv [1] v0 (m1_pointsJudged v0 v2 v3)) fun x2 => (mp (v4 + (iabs (x1 - x2))))))
def m1_apart_p67 (v0 : Nat) (v1 : Nat) (v2 : Nat) (v3 : Int32) (v4 : Int32) (s0 : Int32) (s1 : Int32) : gM Int32 := (if (s0 : Int32) = s1 then (m1_apart_p73 v0 v1 v2 v3 v4) else (m1_apart_p73 v0 v1 v2 v3 (v4 + 2)))
def m1_apart_p53 (v0 : Nat) (v1 : Nat) (v2 : Nat) (v3 : Int32) (v4 : Int32) (s0 : Int32) : gM Int32 := (mb (gGetI [0, 9] v2 4) fun x3 => (if (18 : Int32) ≤ x3 then (m1_apart_p67 v0 v1 v2 v3 v4 s0 0) else (m1_apart_p67 v0 v1 v2 v3 v4 s0 1)))
def m1_apart_p16 (v0 : Nat) (v1 : Nat) (v2 : Nat) (v3 : Int32) (s0 : Int32) : gM Int32 := (mb (mv [1] v0 (m1_factsOf v0 v1 v3)) fun x4 => (mb (mv [1] v0 (m1_factsOf v0 v2 v3)) fun x5 => (mb (mj_bitCount (x4 ^^^ x5)) fun x6 => (mb (gGetI [0, 9] v1 4) fun x7 => (if (18 : Int32) ≤ x7 then (m1_apart_p53 v0 v1 v2 v3 (s0 + x6) 0) else (m1_apart_p53 v0 v1 v2 v3 (s0 + x6) 1))))))
def m1_apart (v0 : Nat) (v1 : Nat) (v2 : Nat) (v3 : Int32) : gM Int32 := (mb (gGetI [0, 9] v1 1) fun x8 => (mb (gGetI [0, 9] v2 1) fun x9 => (if x8 = x9 then (m1_apart_p16 v0 v1 v2 v3 0) else (m1_apart_p16 v0 v1 v2 v3 3))))
/-- m2_isDrawn -/
def m2_isDrawn (v0 : Nat) : gM Int32 := (mz 1)
/-- m2_weighs -/
def m2_weighs (v0 : Nat) (v1 : Int32) (v2 : Nat) : gM Int32 := (mb (mv [8] v2 (m9_begin v2 60)) fun _ => (mb (gVk v0 [(2, m6_weighs v0 v1 v2)]) fun x1 => (mp (x1 ^^^ 6))))
/-- m6_parts -/
def m6_parts (v0 : Nat) (v1 : Int32) (v2 : Nat) : gM Int32 := (mb (mv [8] v2 (m9_begin v2 12)) fun _ => (mb (gGetI [0, 2, 3, 4, 7, 9] v0 1) fun x1 => (mb (gGetI [0, 2, 3, 4, 7, 9] v0 0) fun x2 => (if (x1 - x2) = 0 then (mb (gPutZ [8] v2 2 1) fun _ => (mp 0)) else (mb (gDiv v1 (x1 - x2)) fun x3 => (mp x3))))))
/-- m2_parts -/
def m2_parts (v0 : Nat) (v1 : Int32) (v2 : Nat) : gM Int32 := (mb (mv [8] v2 (m9_begin v2 61)) fun _ => (mb (gVk v0 [(2, m6_parts v0 v1 v2)]) fun x1 => (mp (x1 - 1))))
/-- m3_parts -/
def m3_parts (v0 : Nat) (v1 : Int32) (v2 : Nat) : gM Int32 := (mb (mv [8] v2 (m9_begin v2 40)) fun _ => (mb (gVk v0 [(3, m6_parts v0 (v1 + 2) v2)]) fun x1 => (mp x1)))
/-- m6_bars -/
def m6_bars (v0 : Nat) (v1 : Int32) (v2 : Nat) : gM Int32 := (mb (mv [8] v2 (m9_begin v2 11)) fun _ => (mb (gVk v0 [(0, m0_weighs v0 v1 v2), (2, m2_weighs v0 v1 v2), (3, m6_weighs v0 v1 v2), (4, m6_weighs v0 v1 v2), (7, m6_weighs v0 v1 v2), (9, m0_weighs v0 v1 v2)]) fun x1 => (mb (gGetI [0, 2, 3, 4, 7, 9] v0 1) fun x2 => (mp (x1 - x2)))))
/-- m8_bars -/
def m8_bars (v0 : Nat) (v1 : Int32) (v2 : Nat) : gM Int32 := (mb (mv [8] v2 (m9_begin v2 50)) fun _ => (mb (gVk v0 [(7, m6_bars v0 v1 v2), (2, m6_bars v0 v1 v2)]) fun x1 => (mp (x1 + 30))))
/-- m10_bars -/
def m10_bars (v0 : Nat) (v1 : Int32) (v2 : Nat) : gM Int32 := (mb (mv [8] v2 (m9_begin v2 30)) fun _ => (mb (gVk v0 [(9, m6_bars v0 v1 v2)]) fun x1 => (mb (gVk v0 [(9, m0_weighs v0 0 v2)]) fun x2 => (mp (x1 - x2)))))
/-- m6_tells -/
def m6_tells (v0 : Nat) (v1 : Int32) (v2 : Nat) : gM Int32 := (mb (mv [8] v2 (m9_begin v2 13)) fun _ => (mb (gVk v0 [(0, m6_bars v0 v1 v2), (2, m8_bars v0 v1 v2), (3, m6_bars v0 v1 v2), (4, m6_bars v0 v1 v2), (7, m8_bars v0 v1 v2), (9, m10_bars v0 v1 v2)]) fun x1 => (mb (gGetI [0, 2, 3, 4, 7, 9] v0 1) fun x2 => (mp (x1 ^^^ x2)))))
/-- m3_tells -/
def m3_tells (v0 : Nat) (v1 : Int32) (v2 : Nat) : gM Int32 := (mb (mv [8] v2 (m9_begin v2 41)) fun _ => (mb (gVk v0 [(3, m6_tells v0 v1 v2)]) fun x1 => (mp (x1 * 5))))
/-- m4_tells -/
def m4_tells (v0 : Nat) (v1 : Int32) (v2 : Nat) : gM Int32 := (mb (mv [8] v2 (m9_begin v2 70)) fun _ => (mb (gVk v0 [(4, m6_tells v0 v1 v2)]) fun x1 => (mb (gGetI [4] v0 1) fun x2 => (mb (gVk v0 [(4, m6_weighs v0 x2 v2)]) fun x3 => (mp (x1 + x3))))))
/-- m5_init -/
def m5_init (v0 : Nat) : gM Unit := (mb (gPutI [5] v0 0 0) fun _ => (mb (gPutI [5] v0 1 0) fun _ => (mb (gPutI [5] v0 2 0) fun _ => (mb (gNewA 100 12) fun r1 => (mb (gPutR [5] v0 3 (some r1)) fun _ => (mb (gNewA 100 12) fun r2 => (mb (gPutR [5] v0 4 (some r2)) fun _ => (mb (gNewA 100 12) fun r3 => (mb (gPutR [5] v0 5 (some r3)) fun _ => (mb (gNewA 100 250) fun r4 => (mb (gPutR [5] v0 6 (some r4)) fun _ => (mb (gNewA 100 48) fun r5 => (mb (gPutR [5] v0 7 (some r5)) fun _ => (mb (gNewA 101 250) fun r6 => (mb (gPutR [5] v0 8 (some r6)) fun _ => (mb (gNewA 100 251) fun r7 => (mb (gPutR [5] v0 9 (some r7)) fun _ => (mb (gNewA 100 251) fun r8 => (mb (gPutR [5] v0 10 (some r8)) fun _ => (mb (gPutI [5] v0 11 0) fun _ => (mb (gPutI [5] v0 12 0) fun _ => (mp ()))))))))))))))))))))))
/-- m5_addByte -/
def m5_addByte (v0 : Nat) (v1 : Int32) : gM Unit := (mb (gGetI [5] v0 0) fun x1 => (if (x1 : Int32) < 250 then (mb (gGetR [5] v0 8) fun r2 => (mb (gGetI [5] v0 0) fun x3 => (mb (gStB r2 x3 v1) fun _ => (mb (gGetI [5] v0 0) fun x4 => (mb (gPutI [5] v0 0 (x4 + 1)) fun _ => (mp ())))))) else (mp ())))
/-- m5_fault -/
def m5_fault_p27 (s0 : Int32) : gM Int32 := (mp s0)
def m5_fault (v0 : Nat) : gM Int32 := (mb (gGetI [5] v0 12) fun x1 => (mb (gGetI [5] v0 11) fun x2 => (if (x2 : Int32) ≤ x1 then (mb (gGetI [5] v0 0) fun x3 => (m5_fault_p27 x3)) else (mb (gGetR [5] v0 10) fun r4 => (mb (gGetI [5] v0 12) fun x5 => (mb (gLdI 100 r4 x5) fun x6 => (m5_fault_p27 x6)))))))
/-- m5_sortAt -/
def m5_sortAt_p46 (s0 : Int32) : gM Int32 := (mp s0)
def m5_sortAt_p45 : gM Int32 := (m5_sortAt_p46 3)
def m5_sortAt_p29 (v2 : Int32) : gM Int32 := (if (v2 : Int32) < 48 then (m5_sortAt_p45) else (if (57 : Int32) < v2 then (m5_sortAt_p45) else (m5_sortAt_p46 2)))
def m5_sortAt (v0 : Nat) (v1 : Int32) : gM Int32 := (mb (gGetR [5] v0 8) fun r1 => (mb (gLdI 101 r1 v1) fun x2 => (if x2 = 32 then (mp 0) else (if (x2 : Int32) < 97 then (m5_sortAt_p29 x2) else (if (122 : Int32) < x2 then (m5_sortAt_p29 x2) else (mp 1))))))
/-- m5_addToken -/
def m5_addToken (v0 : Nat) (v1 : Int32) (v2 : Int32) : gM Unit := (mb (gGetI [5] v0 11) fun x1 => (mb (gGetR [5] v0 9) fun r2 => (mb (mv [100] r2 (gLen r2)) fun x3 => (if (x1 : Int32) < x3 then (mb (gGetR [5] v0 9) fun r4 => (mb (gGetI [5] v0 11) fun x5 => (mb (gStI 100 r4 x5 v1) fun _ => (mb (gGetR [5] v0 10) fun r6 => (mb (gGetI [5] v0 11) fun x7 => (mb (gStI 100 r6 x7 v2) fun _ => (mb (gGetI [5] v0 11) fun x8 => (mb (gPutI [5] v0 11 (x8 + 1)) fun _ => (mp ()))))))))) else (mp ())))))
/-- m5_wordAt -/
def m5_wordAt_p118 (k40 : Nat → Int32 → Int32 → Int32 → Int32 → Int32 → gM Int32) (v0 : Nat) (v1 : Int32) (v2 : Int32) (v3 : Int32) (v4 : Int32) (v5 : Int32) : gM Int32 := (k40 v0 v1 v2 v3 v4 (v5 + 1))
def m5_wordAt_p99 (k40 : Nat → Int32 → Int32 → Int32 → Int32 → Int32 → gM Int32) (v0 : Nat) (v1 : Int32) (v2 : Int32) (v3 : Int32) (v5 : Int32) (s0 : Int32) : gM Int32 := (m5_wordAt_p118 k40 v0 v1 v2 v3 s0 v5)
def m5_wordAt_p98 (k40 : Nat → Int32 → Int32 → Int32 → Int32 → Int32 → gM Int32) (v0 : Nat) (v1 : Int32) (v2 : Int32) (v3 : Int32) (v5 : Int32) : gM Int32 := (m5_wordAt_p99 k40 v0 v1 v2 v3 v5 (-1))
def m5_wordAt_p40 : Nat → Nat → Int32 → Int32 → Int32 → Int32 → Int32 → gM Int32
  | 0, _, _, _, _, _, _ => mf
  | n + 1, v0, v1, v2, v3, v4, v5 => (if (107 : Int32) ≤ v5 then (mp 3001) else (mb (gChr v5) fun x1 => (if (x1 : Int32) = 32 then (if v4 = v2 then (mp v3) else (m5_wordAt_p118 (m5_wordAt_p40 n) v0 v1 v2 (v3 + 1) 0 v5)) else (if v4 < 0 then (m5_wordAt_p98 (m5_wordAt_p40 n) v0 v1 v2 v3 v5) else (if (v2 : Int32) ≤ v4 then (m5_wordAt_p98 (m5_wordAt_p40 n) v0 v1 v2 v3 v5) else (mb (gGetR [5] v0 8) fun r2 => (mb (gLdI 101 r2 (v1 + v4)) fun x3 => (if x3 = x1 then (m5_wordAt_p99 (m5_wordAt_p40 n) v0 v1 v2 v3 v5 (v4 + 1)) else (m5_wordAt_p98 (m5_wordAt_p40 n) v0 v1 v2 v3 v5)))))))))
def m5_wordAt_p30 (v0 : Nat) (v1 : Int32) (v2 : Int32) : gM Int32 := (m5_wordAt_p40 FU v0 v1 v2 1000 0 0)
def m5_wordAt_p4 : Nat → Nat → Int32 → Int32 → Int32 → gM Int32
  | 0, _, _, _, _ => mf
  | n + 1, v0, v1, v2, v3 => (mb (gGetI [5] v0 0) fun x4 => (if (x4 : Int32) ≤ v3 then (m5_wordAt_p30 v0 v1 v2) else (mb (mv [5] v0 (m5_sortAt v0 v3)) fun x5 => (if x5 = 1 then (m5_wordAt_p4 n v0 v1 (v2 + 1) (v3 + 1)) else (m5_wordAt_p30 v0 v1 v2)))))
def m5_wordAt (v0 : Nat) (v1 : Int32) : gM Int32 := (m5_wordAt_p4 FU v0 v1 0 v1)
/-- m5_numberAt -/
def m5_numberAt_p53 (v2 : Int32) : gM Int32 := (mp v2)
def m5_numberAt_p4 : Nat → Nat → Int32 → Int32 → Int32 → gM Int32
  | 0, _, _, _, _ => mf
  | n + 1, v0, v1, v2, v3 => (mb (gGetI [5] v0 0) fun x1 => (if (x1 : Int32) ≤ v3 then (m5_numberAt_p53 v2) else (mb (mv [5] v0 (m5_sortAt v0 v3)) fun x2 => (if x2 = 2 then (if ((v3 - v1) : Int32) < 3 then (mb (gGetR [5] v0 8) fun r3 => (mb (gLdI 101 r3 v3) fun x4 => (m5_numberAt_p4 n v0 v1 (((v2 * 10) + x4) - 48) (v3 + 1)))) else (mp 3001)) else (m5_numberAt_p53 v2)))))
def m5_numberAt (v0 : Nat) (v1 : Int32) : gM Int32 := (m5_numberAt_p4 FU v0 v1 0 v1)
/-- m5_cutTape -/
def m5_cutTape_p87 (k9 : Nat → Int32 → Int32 → gM Unit) (v0 : Nat) (v2 : Int32) (v3 : Int32) : gM Unit := (k9 v0 v3 (v2 + 1))
def m5_cutTape_p67 (k9 : Nat → Int32 → Int32 → gM Unit) (v0 : Nat) (v1 : Int32) (v2 : Int32) (v3 : Int32) : gM Unit := (if v3 = 2 then (if (v1 : Int32) = 2 then (m5_cutTape_p87 k9 v0 v2 v3) else (mb (mv [5] v0 (m5_numberAt v0 v2)) fun x1 => (mb (mv [5] v0 (m5_addToken v0 x1 v2)) fun _ => (m5_cutTape_p87 k9 v0 v2 v3)))) else (m5_cutTape_p87 k9 v0 v2 v3))
def m5_cutTape_p47 (k9 : Nat → Int32 → Int32 → gM Unit) (v0 : Nat) (v1 : Int32) (v2 : Int32) (v3 : Int32) : gM Unit := (if v3 = 1 then (if (v1 : Int32) = 1 then (m5_cutTape_p67 k9 v0 v1 v2 v3) else (mb (mv [5] v0 (m5_wordAt v0 v2)) fun x2 => (mb (mv [5] v0 (m5_addToken v0 x2 v2)) fun _ => (m5_cutTape_p67 k9 v0 v1 v2 v3)))) else (m5_cutTape_p67 k9 v0 v1 v2 v3))
def m5_cutTape_p9 : Nat → Nat → Int32 → Int32 → gM Unit
  | 0, _, _, _ => mf
  | n + 1, v0, v1, v2 => (mb (gGetI [5] v0 0) fun x3 => (if (x3 : Int32) ≤ v2 then (mb (gGetI [5] v0 0) fun x4 => (mb (mv [5] v0 (m5_addToken v0 3000 x4)) fun _ => (mp ()))) else (mb (mv [5] v0 (m5_sortAt v0 v2)) fun x5 => (if x5 = 3 then (mb (gGetR [5] v0 8) fun r6 => (mb (gLdI 101 r6 v2) fun x7 => (mb (mv [5] v0 (m5_addToken v0 ((2000 : Int32) + (x7 &&& 255)) v2)) fun _ => (m5_cutTape_p47 (m5_cutTape_p9 n) v0 v1 v2 x5)))) else (m5_cutTape_p47 (m5_cutTape_p9 n) v0 v1 v2 x5)))))
def m5_cutTape (v0 : Nat) : gM Unit := (mb (gPutI [5] v0 11 0) fun _ => (m5_cutTape_p9 FU v0 0 0))
/-- m5_takeNumber -/
def m5_takeNumber_p18 : gM Int32 := (mz 0)
def m5_takeNumber (v0 : Nat) (v1 : Int32) (v2 : Int32) (v3 : Int32) : gM Int32 := (mb (mv [5] v0 (m5_token v0)) fun x1 => (if (x1 : Int32) < v2 then (m5_takeNumber_p18) else (if (x1 : Int32) ≤ v3 then (mb (gGetR [5] v0 7) fun r2 => (mb (gGetI [5] v0 1) fun x3 => (mb (gStI 100 r2 ((x3 * 4) + v1) x1) fun _ => (mb (gGetI [5] v0 12) fun x4 => (mb (gPutI [5] v0 12 (x4 + 1)) fun _ => (mz 1)))))) else (m5_takeNumber_p18))))
/-- m5_readLine -/
def m5_readLine_p19 : gM Int32 := (mz 0)
def m5_readLine_p291 : gM Int32 := (mz 0)
def m5_readLine_p277 (v0 : Nat) (v2 : Int32) : gM Int32 := (if v2 = 0 then (m5_readLine_p291) else (mb (mv [5] v0 (m5_take v0 2059)) fun x1 => (if x1 = 0 then (m5_readLine_p291) else (mb (gGetR [5] v0 5) fun r2 => (mb (gGetI [5] v0 1) fun x3 => (mb (gGetI [5] v0 2) fun x4 => (mb (gStI 100 r2 x3 x4) fun _ => (mb (gGetI [5] v0 1) fun x5 => (mb (gPutI [5] v0 1 (x5 + 1)) fun _ => (mz 1))))))))))
def m5_readLine_p126 (v0 : Nat) (s0 : Int32) : gM Int32 := (m5_readLine_p277 v0 s0)
def m5_readLine_p125 (v0 : Nat) : gM Int32 := (m5_readLine_p126 v0 0)
def m5_readLine_p100 (v0 : Nat) : gM Int32 := (mb (mv [5] v0 (m5_takeNumber v0 0 0 5)) fun x6 => (if x6 = 0 then (m5_readLine_p125 v0) else (mb (mv [5] v0 (m5_takeNumber v0 1 0 9)) fun x7 => (if x7 = 0 then (m5_readLine_p125 v0) else (m5_readLine_p126 v0 1)))))
def m5_readLine_p209 (v0 : Nat) (s0 : Int32) : gM Int32 := (m5_readLine_p277 v0 s0)
def m5_readLine_p208 (v0 : Nat) : gM Int32 := (m5_readLine_p209 v0 0)
def m5_readLine_p246 (v0 : Nat) (s0 : Int32) : gM Int32 := (m5_readLine_p277 v0 s0)
def m5_readLine_p245 (v0 : Nat) : gM Int32 := (m5_readLine_p246 v0 0)
def m5_readLine_p213 (v0 : Nat) : gM Int32 := (mb (mv [5] v0 (m5_takeNumber v0 0 0 4)) fun x8 => (if x8 = 0 then (m5_readLine_p245 v0) else (mb (mv [5] v0 (m5_take v0 1016)) fun x9 => (if x9 = 0 then (m5_readLine_p245 v0) else (mb (mv [5] v0 (m5_cond 6 v0 0)) fun x10 => (if x10 = 0 then (m5_readLine_p245 v0) else (m5_readLine_p246 v0 1)))))))
def m5_readLine_p273 (v0 : Nat) (s0 : Int32) : gM Int32 := (m5_readLine_p277 v0 s0)
def m5_readLine_p272 (v0 : Nat) : gM Int32 := (m5_readLine_p273 v0 0)
def m5_readLine (v0 : Nat) : gM Int32 := (mb (mv [5] v0 (m5_token v0)) fun x11 => (if (x11 - 1000) < 0 then (m5_readLine_p19) else (if ((x11 - 1000) : Int32) ≤ 7 then (mb (gGetI [5] v0 12) fun x12 => (mb (gPutI [5] v0 12 (x12 + 1)) fun _ => (mb (gGetR [5] v0 3) fun r13 => (mb (gGetI [5] v0 1) fun x14 => (mb (gStI 100 r13 x14 (x11 - 1000)) fun _ => (mb (gGetR [5] v0 4) fun r15 => (mb (gGetI [5] v0 1) fun x16 => (mb (gGetI [5] v0 2) fun x17 => (mb (gStI 100 r15 x16 x17) fun _ => (if (x11 - 1000) = 0 then (m5_readLine_p100 v0) else (if (x11 - 1000) = 1 then (m5_readLine_p100 v0) else (if (x11 - 1000) = 2 then (mb (mv [5] v0 (m5_takeNumber v0 0 0 90)) fun x28 => (m5_readLine_p277 v0 x28)) else (if (x11 - 1000) = 3 then (mb (mv [5] v0 (m5_takeNumber v0 0 0 4)) fun x21 => (if x21 = 0 then (m5_readLine_p208 v0) else (mb (mv [5] v0 (m5_takeNumber v0 1 0 3)) fun x22 => (if x22 = 0 then (m5_readLine_p208 v0) else (mb (mv [5] v0 (m5_takeNumber v0 2 0 240)) fun x23 => (if x23 = 0 then (m5_readLine_p208 v0) else (mb (mv [5] v0 (m5_take v0 1017)) fun x24 => (if x24 = 0 then (m5_readLine_p208 v0) else (mb (gGetI [5] v0 1) fun x25 => (mb (mv [5] v0 (m5_number v0 x25 2)) fun x26 => (mb (mv [5] v0 (m5_takeNumber v0 3 x26 240)) fun x27 => (if x27 = 0 then (m5_readLine_p208 v0) else (m5_readLine_p209 v0 1))))))))))))) else (if (x11 - 1000) = 4 then (m5_readLine_p213 v0) else (if (x11 - 1000) = 5 then (m5_readLine_p213 v0) else (if (x11 - 1000) = 6 then (mb (mv [5] v0 (m5_take v0 1016)) fun x19 => (if x19 = 0 then (m5_readLine_p272 v0) else (mb (mv [5] v0 (m5_cond 6 v0 0)) fun x20 => (if x20 = 0 then (m5_readLine_p272 v0) else (m5_readLine_p273 v0 1))))) else (m5_readLine_p277 v0 1))))))))))))))))) else (m5_readLine_p19))))
/-- m5_readText -/
def m5_readText_p69 (s0 : Int32) : gM Int32 := (mz s0)
def m5_readText_p21 : Nat → Nat → Int32 → gM Int32
  | 0, _, _ => mf
  | n + 1, v0, v1 => (if (12 : Int32) ≤ v1 then (mb (mv [5] v0 (m5_token v0)) fun x1 => (if x1 = 3000 then (m5_readText_p69 1) else (m5_readText_p69 0))) else (mb (mv [5] v0 (m5_token v0)) fun x2 => (if x2 = 3000 then (mz 1) else (mb (mv [5] v0 (m5_readLine v0)) fun x3 => (if x3 = 0 then (mz 0) else (m5_readText_p21 n v0 (v1 + 1)))))))
def m5_readText (v0 : Nat) : gM Int32 := (mb (mv [5] v0 (m5_cutTape v0)) fun _ => (mb (gPutI [5] v0 12 0) fun _ => (mb (gPutI [5] v0 1 0) fun _ => (mb (gPutI [5] v0 2 0) fun _ => (m5_readText_p21 FU v0 0)))))
/-- m7_isCell -/
def m7_isCell_p26 (s0 : Int32) : gM Int32 := (mz s0)
def m7_isCell_p25 : gM Int32 := (m7_isCell_p26 0)
def m7_isCell (v0 : Nat) (v1 : Int32) (v2 : Int32) : gM Int32 := (if v1 < 0 then (m7_isCell_p25) else (mb (gGetI [6] v0 1) fun x1 => (if (x1 : Int32) ≤ v1 then (m7_isCell_p25) else (if v2 < 0 then (m7_isCell_p25) else (if (3 : Int32) ≤ v2 then (m7_isCell_p25) else (m7_isCell_p26 1))))))
/-- m8_isDrawn -/
def m8_isDrawn (v0 : Nat) : gM Int32 := (mz 0)
/-- m9_init -/
def m9_init (v0 : Nat) : gM Unit := (mb (gNewA 100 30) fun r1 => (mb (gPutR [8] v0 0 (some r1)) fun _ => (mb (gPutI [8] v0 1 0) fun _ => (mb (gPutZ [8] v0 2 0) fun _ => (mp ())))))
/-- m9_clear -/
def m9_clear (v0 : Nat) : gM Unit := (mb (gPutI [8] v0 1 0) fun _ => (mb (gPutZ [8] v0 2 0) fun _ => (mp ())))
/-- m11_init -/
def m11_init (v0 : Nat) : gM Unit := (mb (gNew 1 19) fun r1 => (mb (m1_init r1) fun _ => (mb (gPutR [10] v0 0 (some r1)) fun _ => (mb (gNew 1 19) fun r2 => (mb (m1_init r2) fun _ => (mb (gPutR [10] v0 1 (some r2)) fun _ => (mb (gPutZ [10] v0 2 0) fun _ => (mb (gNew 5 13) fun r3 => (mb (m5_init r3) fun _ => (mb (gPutR [10] v0 3 (some r3)) fun _ => (mb (gNew 6 2) fun r4 => (mb (m7_init r4) fun _ => (mb (gPutR [10] v0 4 (some r4)) fun _ => (mb (gNew 8 3) fun r5 => (mb (m9_init r5) fun _ => (mb (gPutR [10] v0 5 (some r5)) fun _ => (mb (gNewM 4 40) fun r6 => (mb (gPutR [10] v0 6 (some r6)) fun _ => (mb (gNewA 100 4) fun r7 => (mb (gPutR [10] v0 7 (some r7)) fun _ => (mb (gNewA 100 4) fun r8 => (mb (gPutR [10] v0 8 (some r8)) fun _ => (mb (gNewA 100 4) fun r9 => (mb (gPutR [10] v0 9 (some r9)) fun _ => (mb (gNewA 100 4) fun r10 => (mb (gPutR [10] v0 10 (some r10)) fun _ => (mb (gNewA 100 4) fun r11 => (mb (gPutR [10] v0 11 (some r11)) fun _ => (mb (gNewA 100 4) fun r12 => (mb (gPutR [10] v0 12 (some r12)) fun _ => (mb (gNewA 100 16) fun r13 => (mb (gPutR [10] v0 13 (some r13)) fun _ => (mb (gNewA 100 512) fun r14 => (mb (gPutR [10] v0 14 (some r14)) fun _ => (mb (gGetR [10] v0 7) fun r15 => (mb (mj_fill r15 (-1)) fun _ => (mb (gGetR [10] v0 9) fun r16 => (mb (mj_fill r16 5) fun _ => (mp ())))))))))))))))))))))))))))))))))))))))
/-- m11_days -/
def m11_days_p12 : gM Int32 := (mp (-1))
def m11_days (v0 : Nat) (v1 : Int32) : gM Int32 := (if (v1 : Int32) < 1 then (m11_days_p12) else (if (v1 : Int32) ≤ 2000 then (mb (gGetR [10] v0 0) fun r1 => (mb (gGetI [1] r1 0) fun x2 => (if ((x2 + v1) : Int32) ≤ 9999 then (mb (gGetR [10] v0 0) fun r3 => (mb (gGetI [1] r3 0) fun x4 => (mb (gPutI [1] r3 0 (x4 + v1)) fun _ => (mb (gGetR [10] v0 0) fun r5 => (mb (gGetI [1] r5 0) fun x6 => (mp x6)))))) else (mp (-4))))) else (m11_days_p12)))
/-- m11_person -/
def m11_person_p21 : gM Int32 := (mp (-1))
def m11_person (v0 : Nat) (v1 : Int32) (v2 : Int32) : gM Int32 := (if v1 < 0 then (m11_person_p21) else (if (90 : Int32) < v1 then (m11_person_p21) else (if v2 < 0 then (m11_person_p21) else (if (v2 : Int32) < 360 then (mb (gGetR [10] v0 0) fun r1 => (mb (gGetI [1] r1 1) fun x2 => (if (x2 : Int32) < 8 then (mb (gGetR [10] v0 0) fun r3 => (mb (mv [1] r3 (m1_addPerson r3 ((v1 * 360) + v2))) fun x4 => (mp x4))) else (mp (-2))))) else (m11_person_p21)))))
/-- m11_isDay -/
def m11_isDay_p16 (s0 : Int32) : gM Int32 := (mz s0)
def m11_isDay_p15 : gM Int32 := (m11_isDay_p16 0)
def m11_isDay (v0 : Int32) : gM Int32 := (if v0 < 0 then (m11_isDay_p15) else (if (9999 : Int32) < v0 then (m11_isDay_p15) else (m11_isDay_p16 1)))
/-- m11_age -/
def m11_age_p18 : gM Int32 := (mp (-1))
def m11_age (v0 : Nat) (v1 : Int32) (v2 : Int32) : gM Int32 := (mb (gGetR [10] v0 0) fun r1 => (mb (mv [1] r1 (m1_isPerson r1 v1)) fun x2 => (if x2 = 0 then (m11_age_p18) else (mb (m11_isDay v2) fun x3 => (if x3 = 0 then (m11_age_p18) else (mb (gGetR [10] v0 0) fun r4 => (mb (mv [1] r4 (m1_yearsOf r4 v1 v2)) fun x5 => (mp x5))))))))
/-- m11_deed -/
def m11_deed_p36 : gM Int32 := (mp (-1))
def m11_deed (v0 : Nat) (v1 : Int32) (v2 : Int32) (v3 : Int32) : gM Int32 := (mb (gGetR [10] v0 0) fun r1 => (mb (mv [1] r1 (m1_isPerson r1 v1)) fun x2 => (if x2 = 0 then (m11_deed_p36) else (if v2 < 0 then (m11_deed_p36) else (if (6 : Int32) ≤ v2 then (m11_deed_p36) else (if v3 < 0 then (m11_deed_p36) else (mb (gGetR [10] v0 0) fun r3 => (mb (gGetI [1] r3 0) fun x4 => (if (v3 : Int32) ≤ x4 then (mb (gGetR [10] v0 0) fun r5 => (mb (gGetI [1] r5 4) fun x6 => (if (x6 : Int32) < 16 then (mb (gGetR [10] v0 0) fun r7 => (mb (mv [1] r7 (m1_addDeed r7 v1 v2 v3)) fun x8 => (mp x8))) else (mp (-2))))) else (m11_deed_p36))))))))))
/-- m11_areFacts -/
def m11_areFacts_p15 (s0 : Int32) : gM Int32 := (mz s0)
def m11_areFacts_p14 : gM Int32 := (m11_areFacts_p15 0)
def m11_areFacts (v0 : Int32) : gM Int32 := (if v0 < 0 then (m11_areFacts_p14) else (if (15 : Int32) < v0 then (m11_areFacts_p14) else (m11_areFacts_p15 1)))
/-- m11_finding -/
def m11_finding_p18 : gM Int32 := (mp (-1))
def m11_finding (v0 : Nat) (v1 : Int32) (v2 : Int32) (v3 : Int32) : gM Int32 := (mb (gGetR [10] v0 0) fun r1 => (mb (mv [1] r1 (m1_isDeed r1 v1)) fun x2 => (if x2 = 0 then (m11_finding_p18) else (mb (m11_areFacts v2) fun x3 => (if x3 = 0 then (m11_finding_p18) else (mb (gGetR [10] v0 0) fun r4 => (mb (gGetI [1] r4 6) fun x5 => (if (x5 : Int32) < 24 then (mb (gGetR [10] v0 0) fun r6 => (mb (mv [1] r6 (m1_addFinding r6 v1 v2 v3)) fun x7 => (mp x7))) else (mp (-2))))))))))
/-- m11_deedOf -/
def m11_deedOf_p18 : gM Int32 := (mp (-1))
def m11_deedOf_p119 (s0 : Int32) : gM Int32 := (mp s0)
def m11_deedOf (v0 : Nat) (v1 : Int32) (v2 : Int32) (v3 : Int32) : gM Int32 := (mb (gGetR [10] v0 0) fun r1 => (mb (mv [1] r1 (m1_isDeed r1 v1)) fun x2 => (if x2 = 0 then (m11_deedOf_p18) else (mb (m11_isDay v2) fun x3 => (if x3 = 0 then (m11_deedOf_p18) else (mb (gGetR [10] v0 0) fun r4 => (mb (gGetR [1] r4 5) fun r5 => (mb (gLdR 102 r5 v1) fun r6 => (if v3 = 0 then (mb (gGetI [0, 9] r6 2) fun x16 => (mp x16)) else (if v3 = 1 then (mb (gGetI [0, 9] r6 1) fun x15 => (mp x15)) else (if v3 = 2 then (mb (gGetI [0, 9] r6 3) fun x14 => (mp x14)) else (if v3 = 3 then (mb (gGetR [10] v0 0) fun r12 => (mb (mv [1] r12 (m1_factsOf r12 r6 v2)) fun x13 => (mp x13))) else (if v3 = 4 then (mb (gGetR [10] v0 0) fun r10 => (mb (mv [1] r10 (m1_isPleaded r10 r6 v2)) fun x11 => (if x11 = 0 then (m11_deedOf_p119 0) else (m11_deedOf_p119 1)))) else (if v3 = 5 then (mb (gGetR [10] v0 0) fun r8 => (mb (mv [1] r8 (m1_termOf r8 r6 v2)) fun x9 => (mp x9))) else (mp (-1))))))))))))))))
/-- m11_feed -/
def m11_feed_p11 : gM Int32 := (mp (-1))
def m11_feed_p34 : Nat → Nat → Int64 → Int32 → Int32 → gM Int32
  | 0, _, _, _, _ => mf
  | n + 1, v0, v1, v3, v4 => (if (v3 : Int32) ≤ v4 then (mb (gGetR [10] v0 3) fun r1 => (mb (gGetI [5] r1 0) fun x2 => (mp x2))) else (mb (gGetR [10] v0 3) fun r3 => (mb (mv [5] r3 (m5_addByte r3 (Int8.toInt32 (Int32.toInt8 (Int64.toInt32 (v1 >>> (Int32.toInt64 ((8 : Int32) * v4) &&& 63))))))) fun _ => (m11_feed_p34 n v0 v1 v3 (v4 + 1)))))
def m11_feed (v0 : Nat) (v1 : Int64) (v3 : Int32) : gM Int32 := (if (v3 : Int32) < 1 then (m11_feed_p11) else (if (v3 : Int32) ≤ 8 then (mb (gGetR [10] v0 3) fun r4 => (mb (gGetI [5] r4 0) fun x5 => (if ((x5 + v3) : Int32) ≤ 250 then (m11_feed_p34 FU v0 v1 v3 0) else (mp (-2))))) else (m11_feed_p11)))
/-- m11_read -/
def m11_read (v0 : Nat) : gM Int32 := (mb (gGetR [10] v0 3) fun r1 => (mb (mv [5] r1 (m5_readText r1)) fun x2 => (mb (gGetR [10] v0 3) fun r3 => (mb (mv [5] r3 (m5_fault r3)) fun x4 => (mb (gGetR [10] v0 3) fun r5 => (mb (gPutI [5] r5 0 0) fun _ => (if x2 = 0 then (mp (((-100) : Int32) - x4)) else (mb (gGetR [10] v0 0) fun r6 => (mb (gGetI [1] r6 8) fun x7 => (if (x7 : Int32) < 6 then (mb (gGetR [10] v0 0) fun r8 => (mb (gGetR [10] v0 3) fun r9 => (mb (mv [1] r8 (m1_addLaw r8 r9)) fun x10 => (mp x10)))) else (mp (-2))))))))))))
/-- m11_version -/
def m11_version_p74 (s0 : Int32) : gM Int32 := (mp s0)
def m11_version_p105 (s0 : Int32) : gM Int32 := (mp s0)
def m11_version_p104 : gM Int32 := (m11_version_p105 (-1))
def m11_version (v0 : Nat) (v1 : Int32) (v2 : Int32) : gM Int32 := (mb (gGetR [10] v0 0) fun r1 => (mb (mv [1] r1 (m1_isLaw r1 v1)) fun x2 => (if x2 = 0 then (mp (-1)) else (mb (gGetR [10] v0 0) fun r3 => (mb (gGetR [1] r3 9) fun r4 => (mb (gLdR 104 r4 v1) fun r5 => (if v2 = 0 then (mb (gGetI [4] r5 1) fun x12 => (mp x12)) else (if v2 = 1 then (mb (gGetI [4] r5 2) fun x11 => (mp x11)) else (if v2 = 2 then (mb (gGetI [4] r5 3) fun x10 => (if x10 = 0 then (m11_version_p74 0) else (m11_version_p74 1))) else (if (v2 : Int32) < 10 then (m11_version_p104) else (mb (gGetI [4] r5 1) fun x6 => (if (x6 : Int32) ≤ (v2 - 10) then (m11_version_p104) else (mb (gGetR [4] r5 4) fun r7 => (mb (gLdI 100 r7 (v2 - 10)) fun x8 => (m11_version_p105 x8)))))))))))))))
/-- m11_law -/
def m11_law_p34 : gM Int32 := (mp (-1))
def m11_law_p67 (s0 : Int32) : gM Int32 := (mp s0)
def m11_law (v0 : Nat) (v1 : Int32) (v2 : Int32) : gM Int32 := (mb (gGetR [10] v0 0) fun r1 => (mb (mv [1] r1 (m1_isDeed r1 v1)) fun x2 => (if x2 = 0 then (m11_law_p34) else (mb (m11_isDay v2) fun x3 => (if x3 = 0 then (m11_law_p34) else (mb (gGetR [10] v0 0) fun r4 => (mb (gGetR [1] r4 5) fun r5 => (mb (gLdR 102 r5 v1) fun r6 => (mb (gGetI [0, 9] r6 3) fun x7 => (if (x7 : Int32) ≤ v2 then (mb (gGetR [10] v0 0) fun r8 => (mb (gGetR [10] v0 0) fun r9 => (mb (gGetR [1] r9 5) fun r10 => (mb (gLdR 102 r10 v1) fun r11 => (mb (mv [1] r8 (m1_lawOf r8 r11 v2)) fun r12 => (mo r12 (m11_law_p67 (-3)) fun r13 => (mb (gGetI [4] r13 0) fun x14 => (m11_law_p67 x14)))))))) else (m11_law_p34)))))))))))
/-- m11_isCase -/
def m11_isCase_p34 (s0 : Int32) : gM Int32 := (mz s0)
def m11_isCase_p33 : gM Int32 := (m11_isCase_p34 0)
def m11_isCase (v0 : Nat) (v1 : Int32) (v2 : Int32) (v3 : Int32) : gM Int32 := (mb (gGetR [10] v0 0) fun r1 => (mb (mv [1] r1 (m1_isDeed r1 v1)) fun x2 => (if x2 = 0 then (m11_isCase_p33) else (mb (gGetR [10] v0 0) fun r3 => (mb (mv [1] r3 (m1_isLaw r3 v2)) fun x4 => (if x4 = 0 then (m11_isCase_p33) else (mb (m11_isDay v3) fun x5 => (if x5 = 0 then (m11_isCase_p33) else (m11_isCase_p34 1)))))))))
/-- m11_points -/
def m11_points (v0 : Nat) (v1 : Int32) (v2 : Int32) (v3 : Int32) : gM Int32 := (mb (mv [10] v0 (m11_isCase v0 v1 v2 v3)) fun x1 => (if x1 = 0 then (mp (-1)) else (mb (gGetR [10] v0 0) fun r2 => (mb (gGetR [10] v0 0) fun r3 => (mb (gGetR [1] r3 9) fun r4 => (mb (gLdR 104 r4 v2) fun r5 => (mb (gGetR [10] v0 0) fun r6 => (mb (gGetR [1] r6 5) fun r7 => (mb (gLdR 102 r7 v1) fun r8 => (mb (mv [1] r2 (m1_pointsBy r2 r5 r8 v3)) fun x9 => (mp x9)))))))))))
/-- m11_grave -/
def m11_grave (v0 : Nat) (v1 : Int32) (v2 : Int32) (v3 : Int32) : gM Int32 := (mb (mv [10] v0 (m11_isCase v0 v1 v2 v3)) fun x1 => (if x1 = 0 then (mp (-1)) else (mb (gGetR [10] v0 0) fun r2 => (mb (gGetR [10] v0 0) fun r3 => (mb (gGetR [1] r3 9) fun r4 => (mb (gLdR 104 r4 v2) fun r5 => (mb (gGetR [10] v0 0) fun r6 => (mb (gGetR [1] r6 5) fun r7 => (mb (gLdR 102 r7 v1) fun r8 => (mb (mv [1] r2 (m1_graveBy r2 r5 r8 v3)) fun x9 => (mp x9)))))))))))
/-- m11_range -/
def m11_range (v0 : Nat) (v1 : Int32) (v2 : Int32) (v3 : Int32) : gM Int32 := (mb (mv [10] v0 (m11_isCase v0 v1 v2 v3)) fun x1 => (if x1 = 0 then (mp (-1)) else (mb (gGetR [10] v0 0) fun r2 => (mb (gGetR [10] v0 0) fun r3 => (mb (gGetR [1] r3 9) fun r4 => (mb (gLdR 104 r4 v2) fun r5 => (mb (gGetR [10] v0 0) fun r6 => (mb (gGetR [1] r6 5) fun r7 => (mb (gLdR 102 r7 v1) fun r8 => (mb (mv [1] r2 (m1_rangeBy r2 r5 r8 v3)) fun x9 => (mp x9)))))))))))
/-- m11_isCourt -/
def m11_isCourt_p14 (s0 : Int32) : gM Int32 := (mz s0)
def m11_isCourt_p13 : gM Int32 := (m11_isCourt_p14 0)
def m11_isCourt (v0 : Int32) : gM Int32 := (if v0 < 0 then (m11_isCourt_p13) else (if (5 : Int32) ≤ v0 then (m11_isCourt_p13) else (m11_isCourt_p14 1)))
/-- m11_term -/
def m11_term_p29 : gM Int32 := (mp (-1))
def m11_term_p54 : gM Int32 := (mp (-1))
def m11_term (v0 : Nat) (v1 : Int32) (v2 : Int32) (v3 : Int32) (v4 : Int32) : gM Int32 := (mb (gGetR [10] v0 0) fun r1 => (mb (mv [1] r1 (m1_isDeed r1 v1)) fun x2 => (if x2 = 0 then (m11_term_p29) else (mb (m11_isCourt v2) fun x3 => (if x3 = 0 then (m11_term_p29) else (if v3 < 0 then (m11_term_p29) else (if (v3 : Int32) ≤ 240 then (if v4 < 0 then (m11_term_p54) else (mb (gDiv v4 10) fun x4 => (if (4 : Int32) ≤ x4 then (m11_term_p54) else (mb (gRem v4 10) fun x5 => (if (x5 : Int32) ≤ 1 then (mb (gGetR [10] v0 0) fun r6 => (mb (gGetR [10] v0 0) fun r7 => (mb (gGetR [1] r7 5) fun r8 => (mb (gLdR 102 r8 v1) fun r9 => (mb (gGetR [10] v0 0) fun r10 => (mb (gGetI [1] r10 0) fun x11 => (mb (mv [1] r6 (m1_termOf r6 r9 x11)) fun x12 => (if (x12 : Int32) = (-3) then (mb (gGetR [10] v0 0) fun r13 => (mb (gGetI [1] r13 10) fun x14 => (if (x14 : Int32) < 16 then (mb (gGetR [10] v0 0) fun r15 => (mb (mv [1] r15 (m1_addTerm r15 v1 v2 v3 v4)) fun x16 => (mp x16))) else (mp (-2))))) else (mp (-4)))))))))) else (m11_term_p54)))))) else (m11_term_p29))))))))
/-- m11_appeal -/
def m11_appeal (v0 : Nat) (v1 : Int32) : gM Int32 := (mb (gGetR [10] v0 0) fun r1 => (mb (mv [1] r1 (m1_isTerm r1 v1)) fun x2 => (if x2 = 0 then (mp (-1)) else (mb (gGetR [10] v0 0) fun r3 => (mb (gGetR [10] v0 0) fun r4 => (mb (gGetI [1] r4 0) fun x5 => (mb (mv [1] r3 (m1_stands r3 v1 x5)) fun x6 => (if x6 = 0 then (mp (-4)) else (mb (gGetR [10] v0 0) fun r7 => (mb (gGetR [1] r7 12) fun r8 => (mb (gGetR [10] v0 0) fun r9 => (mb (gGetI [1] r9 0) fun x10 => (mb (gStI 100 r8 v1 x10) fun _ => (mb (gGetR [10] v0 0) fun r11 => (mb (gGetR [10] v0 0) fun r12 => (mb (gGetI [1] r12 0) fun x13 => (mb (mv [1] r11 (m1_standing r11 x13)) fun x14 => (mp x14))))))))))))))))))
/-- m11_amiss -/
def m11_amiss_p62 (k13 : Nat → Int32 → Int32 → Int32 → gM Int32) (v0 : Nat) (v1 : Int32) (v2 : Int32) (v3 : Int32) : gM Int32 := (k13 v0 v1 v2 (v3 + 1))
def m11_amiss_p13 : Nat → Nat → Int32 → Int32 → Int32 → gM Int32
  | 0, _, _, _, _ => mf
  | n + 1, v0, v1, v2, v3 => (mb (gGetR [10] v0 0) fun r1 => (mb (gGetI [1] r1 10) fun x2 => (if (x2 : Int32) ≤ v3 then (mp v2) else (mb (gGetR [10] v0 0) fun r3 => (mb (mv [1] r3 (m1_stands r3 v3 v1)) fun x4 => (if x4 = 0 then (m11_amiss_p62 (m11_amiss_p13 n) v0 v1 v2 v3) else (mb (gGetR [10] v0 0) fun r5 => (mb (gGetR [10] v0 0) fun r6 => (mb (gGetR [1] r6 11) fun r7 => (mb (gLdR 105 r7 v3) fun r8 => (mb (mv [1] r5 (m1_isAmiss r5 r8 v1)) fun x9 => (if x9 = 0 then (m11_amiss_p62 (m11_amiss_p13 n) v0 v1 v2 v3) else (m11_amiss_p62 (m11_amiss_p13 n) v0 v1 (v2 ||| ((1 : Int32) <<< (v3 &&& 31))) v3)))))))))))))
def m11_amiss (v0 : Nat) (v1 : Int32) : gM Int32 := (mb (m11_isDay v1) fun x10 => (if x10 = 0 then (mp (-1)) else (m11_amiss_p13 FU v0 v1 0 0)))
/-- m11_held -/
def m11_held_p31 : gM Int32 := (mp (-1))
def m11_held (v0 : Nat) (v1 : Int32) (v2 : Int32) (v3 : Int32) : gM Int32 := (mb (gGetR [10] v0 0) fun r1 => (mb (mv [1] r1 (m1_isPerson r1 v1)) fun x2 => (if x2 = 0 then (m11_held_p31) else (if v2 < 0 then (m11_held_p31) else (if (v3 : Int32) < v2 then (m11_held_p31) else (mb (gGetR [10] v0 0) fun r3 => (mb (gGetI [1] r3 0) fun x4 => (if (v3 : Int32) ≤ x4 then (mb (gGetR [10] v0 0) fun r5 => (mb (gGetI [1] r5 13) fun x6 => (if (x6 : Int32) < 12 then (mb (gGetR [10] v0 0) fun r7 => (mb (mv [1] r7 (m1_addHeld r7 v1 v2 v3)) fun x8 => (mp x8))) else (mp (-2))))) else (m11_held_p31)))))))))
/-- m11_credit -/
def m11_credit_p18 : gM Int32 := (mp (-1))
def m11_credit (v0 : Nat) (v1 : Int32) (v2 : Int32) : gM Int32 := (mb (gGetR [10] v0 0) fun r1 => (mb (mv [1] r1 (m1_isPerson r1 v1)) fun x2 => (if x2 = 0 then (m11_credit_p18) else (mb (m11_isDay v2) fun x3 => (if x3 = 0 then (m11_credit_p18) else (mb (gGetR [10] v0 0) fun r4 => (mb (mv [1] r4 (m1_creditOf r4 v1 v2)) fun x5 => (mp x5))))))))
/-- m11_good -/
def m11_good_p22 : gM Int32 := (mp (-1))
def m11_good (v0 : Nat) (v1 : Int32) (v2 : Int32) : gM Int32 := (mb (gGetR [10] v0 0) fun r1 => (mb (mv [1] r1 (m1_isPerson r1 v1)) fun x2 => (if x2 = 0 then (m11_good_p22) else (if (v2 : Int32) < 1 then (m11_good_p22) else (if (v2 : Int32) ≤ 99 then (mb (gGetR [10] v0 0) fun r3 => (mb (gGetR [1] r3 3) fun r4 => (mb (gLdI 100 r4 v1) fun x5 => (if ((x5 + v2) : Int32) ≤ 999 then (mb (gGetR [10] v0 0) fun r6 => (mb (gGetR [1] r6 3) fun r7 => (mb (gLdI 100 r7 v1) fun x8 => (mb (gStI 100 r7 v1 (x8 + v2)) fun _ => (mb (gGetR [10] v0 0) fun r9 => (mb (gGetR [1] r9 3) fun r10 => (mb (gLdI 100 r10 v1) fun x11 => (mp x11)))))))) else (mp (-4)))))) else (m11_good_p22))))))
/-- m11_release -/
def m11_release_p18 : gM Int32 := (mp (-1))
def m11_release (v0 : Nat) (v1 : Int32) (v2 : Int32) : gM Int32 := (mb (gGetR [10] v0 0) fun r1 => (mb (mv [1] r1 (m1_isPerson r1 v1)) fun x2 => (if x2 = 0 then (m11_release_p18) else (mb (m11_isDay v2) fun x3 => (if x3 = 0 then (m11_release_p18) else (mb (gGetR [10] v0 0) fun r4 => (mb (mv [1] r4 (m1_releaseOf r4 v1 v2)) fun x5 => (mp x5))))))))
/-- m11_beds -/
def m11_beds_p14 : gM Int32 := (mp (-1))
def m11_beds_p75 (k21 : Nat → Int32 → Int32 → Int32 → Int32 → gM Int32) (v0 : Nat) (v1 : Int32) (v2 : Int32) (v3 : Int32) (v4 : Int32) : gM Int32 := (k21 v0 v1 v2 v3 (v4 + 1))
def m11_beds_p21 : Nat → Nat → Int32 → Int32 → Int32 → Int32 → gM Int32
  | 0, _, _, _, _, _ => mf
  | n + 1, v0, v1, v2, v3, v4 => (mb (gGetR [10] v0 0) fun r1 => (mb (gGetI [1] r1 1) fun x2 => (if (x2 : Int32) ≤ v4 then (mp v3) else (mb (gGetR [10] v0 0) fun r3 => (mb (mv [1] r3 (m1_firstPassed r3 v4 v2)) fun x4 => (if (x4 : Int32) = (-3) then (m11_beds_p75 (m11_beds_p21 n) v0 v1 v2 v3 v4) else (if (v1 : Int32) < x4 then (m11_beds_p75 (m11_beds_p21 n) v0 v1 v2 v3 v4) else (mb (gGetR [10] v0 0) fun r5 => (mb (mv [1] r5 (m1_releaseOf r5 v4 v2)) fun x6 => (if (x6 : Int32) ≤ v1 then (m11_beds_p75 (m11_beds_p21 n) v0 v1 v2 v3 v4) else (m11_beds_p75 (m11_beds_p21 n) v0 v1 v2 (v3 + 1) v4)))))))))))
def m11_beds (v0 : Nat) (v1 : Int32) (v2 : Int32) : gM Int32 := (mb (m11_isDay v1) fun x7 => (if x7 = 0 then (m11_beds_p14) else (mb (m11_isDay v2) fun x8 => (if x8 = 0 then (m11_beds_p14) else (m11_beds_p21 FU v0 v1 v2 0 0)))))
/-- m11_prove -/
def m11_prove (v0 : Nat) (v1 : Int32) : gM Int32 := (mb (gGetR [10] v0 0) fun r1 => (mb (mv [1] r1 (m1_isPerson r1 v1)) fun x2 => (if x2 = 0 then (mp (-1)) else (mb (gGetR [10] v0 0) fun r3 => (mb (gGetR [10] v0 0) fun r4 => (mb (gGetI [1] r4 0) fun x5 => (mb (gGetR [10] v0 4) fun r6 => (mb (mv [1] r3 (m1_fillTime r3 v1 x5 r6)) fun _ => (mb (gGetR [10] v0 4) fun r7 => (mb (gGetI [6] r7 1) fun x8 => (mp x8)))))))))))
/-- m11_row -/
def m11_row_p26 (s0 : Int32) : gM Int32 := (mp s0)
def m11_row (v0 : Nat) (v1 : Int32) (v2 : Int32) : gM Int32 := (mb (gGetR [10] v0 4) fun r1 => (mb (mv [6] r1 (m7_isCell r1 v1 v2)) fun x2 => (if x2 = 0 then (m11_row_p26 (-9)) else (mb (gGetR [10] v0 4) fun r3 => (mb (mv [6] r3 (m7_get r3 v1 v2)) fun x4 => (m11_row_p26 x4))))))
/-- m11_alterRow -/
def m11_alterRow (v0 : Nat) (v1 : Int32) (v2 : Int32) (v3 : Int32) : gM Int32 := (mb (gGetR [10] v0 4) fun r1 => (mb (mv [6] r1 (m7_isCell r1 v1 v2)) fun x2 => (if x2 = 0 then (mp (-9)) else (mb (gGetR [10] v0 4) fun r3 => (mb (mv [6] r3 (m7_get r3 v1 v2)) fun x4 => (mb (gGetR [10] v0 4) fun r5 => (mb (mv [6] r5 (m7_set r5 v1 v2 v3)) fun _ => (mp x4))))))))
/-- m11_isRightRow -/
def m11_isRightRow_p39 : gM Int32 := (mz 0)
def m11_isRightRow_p93 : gM Int32 := (mz 0)
def m11_isRightRow_p189 (s0 : Int32) : gM Int32 := (mz s0)
def m11_isRightRow_p188 : gM Int32 := (m11_isRightRow_p189 0)
def m11_isRightRow_p123 (v0 : Nat) (v1 : Int32) (v3 : Nat) : gM Int32 := (mb (gGetR [10] v0 0) fun r1 => (mb (gGetR [10] v0 4) fun r2 => (mb (mv [6] r2 (m7_latestEnd r2 v1)) fun x3 => (mb (gGetR [10] v0 0) fun r4 => (mb (gGetI [1] r4 0) fun x5 => (mb (mv [1] r1 (m1_beginOf r1 v3 x3 x5)) fun x6 => (mb (gGetR [10] v0 4) fun r7 => (mb (mv [6] r7 (m7_get r7 v1 1)) fun x8 => (if x8 = x6 then (mb (gGetR [10] v0 4) fun r9 => (mb (mv [6] r9 (m7_get r9 v1 2)) fun x10 => (mb (gGetI [7, 2] v3 1) fun x11 => (if x10 = (x6 + ((30 : Int32) * x11)) then (m11_isRightRow_p189 1) else (m11_isRightRow_p188))))) else (m11_isRightRow_p188))))))))))
def m11_isRightRow (v0 : Nat) (v1 : Int32) : gM Int32 := (mb (gGetR [10] v0 4) fun r12 => (mb (mv [6] r12 (m7_get r12 v1 0)) fun x13 => (mb (gGetR [10] v0 0) fun r14 => (mb (mv [1] r14 (m1_isTerm r14 x13)) fun x15 => (if x15 = 0 then (m11_isRightRow_p39) else (mb (gGetR [10] v0 0) fun r16 => (mb (gGetR [10] v0 0) fun r17 => (mb (gGetI [1] r17 0) fun x18 => (mb (mv [1] r16 (m1_stands r16 x13 x18)) fun x19 => (if x19 = 0 then (m11_isRightRow_p39) else (mb (gGetR [10] v0 0) fun r20 => (mb (gGetR [1] r20 11) fun r21 => (mb (gLdR 105 r21 x13) fun r22 => (if v1 ≤ 0 then (m11_isRightRow_p123 v0 v1 r22) else (mb (gGetR [10] v0 4) fun r23 => (mb (mv [6] r23 (m7_get r23 0 0)) fun x24 => (mb (gGetR [10] v0 4) fun r25 => (mb (mv [6] r25 (m7_get r25 (v1 - 1) 0)) fun x26 => (if (x13 : Int32) ≤ x26 then (m11_isRightRow_p93) else (mb (gGetR [10] v0 0) fun r27 => (mb (mv [1] r27 (m1_isTerm r27 x24)) fun x28 => (if x28 = 0 then (m11_isRightRow_p93) else (mb (gGetR [10] v0 0) fun r29 => (mb (gGetR [1] r29 11) fun r30 => (mb (gLdR 105 r30 x24) fun r31 => (mb (gGetR [7, 2] r31 2) fun r32 => (mb (gGetI [0, 9] r32 2) fun x33 => (mb (gGetR [7, 2] r22 2) fun r34 => (mb (gGetI [0, 9] r34 2) fun x35 => (if (x33 : Int32) = x35 then (m11_isRightRow_p123 v0 v1 r22) else (mz 0)))))))))))))))))))))))))))))))
/-- m11_judge -/
def m11_judge_p2 : Nat → Nat → Int32 → gM Int32
  | 0, _, _ => mf
  | n + 1, v0, v1 => (mb (gGetR [10] v0 4) fun r1 => (mb (gGetI [6] r1 1) fun x2 => (if (x2 : Int32) ≤ v1 then (mp 0) else (mb (mv [10] v0 (m11_isRightRow v0 v1)) fun x3 => (if x3 = 0 then (mp (v1 + 1)) else (m11_judge_p2 n v0 (v1 + 1)))))))
def m11_judge (v0 : Nat) : gM Int32 := (m11_judge_p2 FU v0 0)
/-- mj_ntz -/
def mj_ntz_p74 (v0 : Int32) (v1 : Int32) : gM Int32 := (mp (v1 + (iush v0 1)))
def mj_ntz_p62 (v0 : Int32) (v1 : Int32) : gM Int32 := (if (v0 : Int32) ≤ 4 then (mj_ntz_p74 v0 v1) else (mj_ntz_p74 (iush v0 2) (v1 + 2)))
def mj_ntz_p49 (v0 : Int32) (v1 : Int32) : gM Int32 := (if (v0 : Int32) ≤ 16 then (mj_ntz_p62 v0 v1) else (mj_ntz_p62 (iush v0 4) (v1 + 4)))
def mj_ntz_p34 (v0 : Int32) (v1 : Int32) : gM Int32 := (if (v0 : Int32) ≤ 256 then (mj_ntz_p49 v0 v1) else (mj_ntz_p49 (iush v0 8) (v1 + 8)))
def mj_ntz (v0 : Int32) : gM Int32 := (if 0 < ((v0 ^^^ (-1)) &&& (v0 - 1)) then (if (((v0 ^^^ (-1)) &&& (v0 - 1)) : Int32) ≤ 65536 then (mj_ntz_p34 ((v0 ^^^ (-1)) &&& (v0 - 1)) 1) else (mj_ntz_p34 (iush ((v0 ^^^ (-1)) &&& (v0 - 1)) 16) (1 + 16))) else (mp (((v0 ^^^ (-1)) &&& (v0 - 1)) &&& 32)))
/-- m11_fillHalfSums -/
def m11_fillHalfSums_p91 (k2 : Nat → Int32 → Int32 → gM Unit) (v0 : Nat) (v1 : Int32) (v2 : Int32) (s0 : Nat) (s1 : Int32) (s2 : Int32) (s3 : Int32) : gM Unit := (mb (gStI 100 s0 s1 (s2 + s3)) fun _ => (k2 v0 v1 (v2 + 1)))
def m11_fillHalfSums_p48 (k2 : Nat → Int32 → Int32 → gM Unit) (v0 : Nat) (v1 : Int32) (v2 : Int32) (v3 : Int32) (v4 : Int32) (s0 : Nat) (s1 : Int32) (s2 : Int32) (s3 : Int32) : gM Unit := (mb (gStI 100 s0 s1 (s2 + s3)) fun _ => (mb (gGetR [10] v0 14) fun r1 => (mb (gGetR [10] v0 14) fun r2 => (mb (gLdI 100 r2 ((256 : Int32) + v4)) fun x3 => (if (v1 : Int32) ≤ ((8 : Int32) + v3) then (m11_fillHalfSums_p91 k2 v0 v1 v2 r1 ((256 : Int32) + v2) x3 0) else (mb (gGetR [10] v0 13) fun r4 => (mb (gLdI 100 r4 ((8 : Int32) + v3)) fun x5 => (m11_fillHalfSums_p91 k2 v0 v1 v2 r1 ((256 : Int32) + v2) x3 x5))))))))
def m11_fillHalfSums_p2 : Nat → Nat → Int32 → Int32 → gM Unit
  | 0, _, _, _ => mf
  | n + 1, v0, v1, v2 => (if (256 : Int32) ≤ v2 then (mp ()) else (mb (mj_ntz v2) fun x6 => (mb (gGetR [10] v0 14) fun r7 => (mb (gGetR [10] v0 14) fun r8 => (mb (gLdI 100 r8 (v2 &&& (v2 - 1))) fun x9 => (if (v1 : Int32) ≤ x6 then (m11_fillHalfSums_p48 (m11_fillHalfSums_p2 n) v0 v1 v2 x6 (v2 &&& (v2 - 1)) r7 v2 x9 0) else (mb (gGetR [10] v0 13) fun r10 => (mb (gLdI 100 r10 x6) fun x11 => (m11_fillHalfSums_p48 (m11_fillHalfSums_p2 n) v0 v1 v2 x6 (v2 &&& (v2 - 1)) r7 v2 x9 x11)))))))))
def m11_fillHalfSums (v0 : Nat) (v1 : Int32) : gM Unit := (m11_fillHalfSums_p2 FU v0 v1 1)
/-- m11_ways -/
def m11_ways_p4 : Nat → Int32 → Int32 → Int32 → Int32 → gM Int32
  | 0, _, _, _, _ => mf
  | n + 1, v0, v1, v2, v3 => (if (v1 : Int32) < v3 then (mp v2) else (mb (gDiv (v2 * ((v0 - v1) + v3)) v3) fun x1 => (m11_ways_p4 n v0 v1 x1 (v3 + 1))))
def m11_ways (v0 : Int32) (v1 : Int32) : gM Int32 := (m11_ways_p4 FU v0 v1 1 1)
/-- m11_nextSet -/
def m11_nextSet (v0 : Int32) : gM Int32 := (mb (mj_ntz v0) fun x1 => (mp ((v0 + (v0 &&& (-v0))) ||| (iush (v0 ^^^ (v0 + (v0 &&& (-v0)))) ((2 : Int32) + x1)))))
/-- m11_waysAtLeast -/
def m11_waysAtLeast_p77 (k25 : Nat → Int32 → Int32 → Int32 → Int32 → Int32 → gM Int32) (v0 : Nat) (v3 : Int32) (v4 : Int32) (v5 : Int32) (v6 : Int32) (v7 : Int32) : gM Int32 := (mb (m11_nextSet v6) fun x1 => (k25 v0 v3 v4 v5 x1 (v7 + 1)))
def m11_waysAtLeast_p25 : Nat → Nat → Int32 → Int32 → Int32 → Int32 → Int32 → gM Int32
  | 0, _, _, _, _, _, _ => mf
  | n + 1, v0, v3, v4, v5, v6, v7 => (if (v5 : Int32) ≤ v7 then (mp v4) else (mb (gGetR [10] v0 14) fun r2 => (mb (gLdI 100 r2 (v6 &&& 255)) fun x3 => (mb (gGetR [10] v0 14) fun r4 => (mb (gLdI 100 r4 ((256 : Int32) + ((v6 >>> (8 &&& 31)) &&& 255))) fun x5 => (if ((x3 + x5) : Int32) < v3 then (m11_waysAtLeast_p77 (m11_waysAtLeast_p25 n) v0 v3 v4 v5 v6 v7) else (m11_waysAtLeast_p77 (m11_waysAtLeast_p25 n) v0 v3 (v4 + 1) v5 v6 v7)))))))
def m11_waysAtLeast (v0 : Nat) (v1 : Int32) (v2 : Int32) (v3 : Int32) : gM Int32 := (mb (mv [10] v0 (m11_fillHalfSums v0 v1)) fun _ => (mb (m11_ways v1 v2) fun x6 => (m11_waysAtLeast_p25 FU v0 v3 0 x6 (((1 : Int32) <<< (v2 &&& 31)) - 1) 0)))
/-- m11_spread -/
def m11_spread_p23 : gM Int32 := (mp (-1))
def m11_spread_p138 (k40 : Nat → Int32 → Int32 → Int32 → Int32 → Int32 → Int32 → Int32 → Int32 → gM Int32) (v0 : Nat) (v1 : Int32) (v2 : Int32) (v3 : Int32) (v4 : Int32) (v5 : Int32) (v6 : Int32) (v7 : Int32) (v8 : Int32) : gM Int32 := (k40 v0 v1 v2 v3 v4 v5 v6 v7 (v8 + 1))
def m11_spread_p174 : gM Int32 := (mp (-4))
def m11_spread_p229 (s0 : Int32) : gM Int32 := (mp s0)
def m11_spread_p40 : Nat → Nat → Int32 → Int32 → Int32 → Int32 → Int32 → Int32 → Int32 → Int32 → gM Int32
  | 0, _, _, _, _, _, _, _, _, _ => mf
  | n + 1, v0, v1, v2, v3, v4, v5, v6, v7, v8 => (mb (gGetR [10] v0 0) fun r1 => (mb (gGetI [1] r1 10) fun x2 => (if (x2 : Int32) ≤ v8 then (if v3 = 0 then (mp v5) else (if v3 = 1 then (mp v4) else (if (v5 : Int32) < 2 then (m11_spread_p174) else (if (2 : Int32) ≤ (v4 - v5) then (if v3 = 2 then (mp (((1000000 : Int32) + (v7 * (v4 - v5))) - ((v6 - v7) * v5))) else (if v3 = 3 then (mb (mv [10] v0 (m11_waysAtLeast v0 v4 v5 v7)) fun x4 => (m11_spread_p229 x4)) else (mb (m11_ways v4 v5) fun x3 => (m11_spread_p229 x3)))) else (m11_spread_p174))))) else (mb (gGetR [10] v0 0) fun r5 => (mb (gGetR [1] r5 11) fun r6 => (mb (gLdR 105 r6 v8) fun r7 => (mb (gVk r7 [(7, m8_isDrawn r7 ), (2, m2_isDrawn r7 )]) fun x8 => (if x8 = 0 then (m11_spread_p138 (m11_spread_p40 n) v0 v1 v2 v3 v4 v5 v6 v7 v8) else (mb (gGetR [10] v0 0) fun r9 => (mb (mv [1] r9 (m1_stands r9 v8 v2)) fun x10 => (if x10 = 0 then (m11_spread_p138 (m11_spread_p40 n) v0 v1 v2 v3 v4 v5 v6 v7 v8) else (mb (gGetR [10] v0 13) fun r11 => (mb (gGetI [7, 2] r7 1) fun x12 => (mb (gStI 100 r11 v4 x12) fun _ => (mb (gGetI [7, 2] r7 1) fun x13 => (mb (gGetI [7, 2] r7 3) fun x14 => (if (x14 : Int32) = v1 then (mb (gGetI [7, 2] r7 1) fun x15 => (m11_spread_p138 (m11_spread_p40 n) v0 v1 v2 v3 (v4 + 1) (v5 + 1) (v6 + x13) (v7 + x15) v8)) else (m11_spread_p138 (m11_spread_p40 n) v0 v1 v2 v3 (v4 + 1) v5 (v6 + x13) v7 v8))))))))))))))))))
def m11_spread (v0 : Nat) (v1 : Int32) (v2 : Int32) (v3 : Int32) : gM Int32 := (mb (m11_isCourt v1) fun x16 => (if x16 = 0 then (m11_spread_p23) else (mb (m11_isDay v2) fun x17 => (if x17 = 0 then (m11_spread_p23) else (if v3 < 0 then (m11_spread_p23) else (if (v3 : Int32) ≤ 4 then (m11_spread_p40 FU v0 v1 v2 v3 0 0 0 0 0) else (m11_spread_p23)))))))
/-- m11_another -/
def m11_another_p119 (k18 : Nat → Int32 → Int32 → Int32 → Int32 → gM Int32) (v0 : Nat) (v1 : Int32) (v2 : Int32) (v3 : Int32) (v4 : Int32) : gM Int32 := (k18 v0 v1 v2 v3 (v4 + 1))
def m11_another_p117 (k18 : Nat → Int32 → Int32 → Int32 → Int32 → gM Int32) (v0 : Nat) (v1 : Int32) (v2 : Int32) (v4 : Int32) (s0 : Int32) (s1 : Int32) : gM Int32 := (m11_another_p119 k18 v0 v1 v2 (s0 + s1) v4)
def m11_another_p18 : Nat → Nat → Int32 → Int32 → Int32 → Int32 → gM Int32
  | 0, _, _, _, _, _ => mf
  | n + 1, v0, v1, v2, v3, v4 => (mb (gGetR [10] v0 0) fun r1 => (mb (gGetI [1] r1 10) fun x2 => (if (x2 : Int32) ≤ v4 then (mp v3) else (mb (gGetR [10] v0 0) fun r3 => (mb (gGetR [10] v0 0) fun r4 => (mb (gGetI [1] r4 0) fun x5 => (mb (mv [1] r3 (m1_stands r3 v4 x5)) fun x6 => (if x6 = 0 then (m11_another_p119 (m11_another_p18 n) v0 v1 v2 v3 v4) else (mb (gGetR [10] v0 0) fun r7 => (mb (gGetR [10] v0 0) fun r8 => (mb (gGetR [1] r8 9) fun r9 => (mb (gLdR 104 r9 v1) fun r10 => (mb (gGetR [10] v0 0) fun r11 => (mb (gGetR [1] r11 11) fun r12 => (mb (gLdR 105 r12 v4) fun r13 => (mb (gGetR [7, 2] r13 2) fun r14 => (mb (gGetR [10] v0 0) fun r15 => (mb (gGetI [1] r15 0) fun x16 => (mb (mv [1] r7 (m1_rangeBy r7 r10 r14 x16)) fun x17 => (if (x17 : Int32) = (-3) then (m11_another_p119 (m11_another_p18 n) v0 v1 v2 v3 v4) else (if v2 = 0 then (mb (gDiv x17 1000) fun x18 => (m11_another_p117 (m11_another_p18 n) v0 v1 v2 v4 v3 x18)) else (mb (gRem x17 1000) fun x19 => (m11_another_p117 (m11_another_p18 n) v0 v1 v2 v4 v3 x19)))))))))))))))))))))))
def m11_another (v0 : Nat) (v1 : Int32) (v2 : Int32) : gM Int32 := (mb (gGetR [10] v0 0) fun r20 => (mb (mv [1] r20 (m1_isLaw r20 v1)) fun x21 => (if x21 = 0 then (mp (-1)) else (m11_another_p18 FU v0 v1 v2 0 0))))
/-- m11_like -/
def m11_like_p18 : gM Int32 := (mp (-1))
def m11_like_p122 (k29 : Nat → Int32 → Int32 → Int32 → Int32 → Int32 → gM Int32) (v0 : Nat) (v1 : Int32) (v2 : Int32) (v3 : Int32) (v4 : Int32) (v5 : Int32) : gM Int32 := (k29 v0 v1 v2 v3 v4 (v5 + 1))
def m11_like_p115 (k29 : Nat → Int32 → Int32 → Int32 → Int32 → Int32 → gM Int32) (v0 : Nat) (v1 : Int32) (v2 : Int32) (v5 : Int32) (v6 : Int32) : gM Int32 := (m11_like_p122 k29 v0 v1 v2 v5 v6 v5)
def m11_like_p29 : Nat → Nat → Int32 → Int32 → Int32 → Int32 → Int32 → gM Int32
  | 0, _, _, _, _, _, _ => mf
  | n + 1, v0, v1, v2, v3, v4, v5 => (mb (gGetR [10] v0 0) fun r1 => (mb (gGetI [1] r1 4) fun x2 => (if (x2 : Int32) ≤ v5 then (mp v3) else (if (v5 : Int32) = v1 then (m11_like_p122 (m11_like_p29 n) v0 v1 v2 v3 v4 v5) else (mb (gGetR [10] v0 0) fun r3 => (mb (gGetR [10] v0 0) fun r4 => (mb (gGetR [1] r4 5) fun r5 => (mb (gLdR 102 r5 v5) fun r6 => (mb (mv [1] r3 (m1_termOf r3 r6 v2)) fun x7 => (if x7 = (-3) then (m11_like_p122 (m11_like_p29 n) v0 v1 v2 v3 v4 v5) else (mb (gGetR [10] v0 0) fun r8 => (mb (gGetR [10] v0 0) fun r9 => (mb (gGetR [1] r9 5) fun r10 => (mb (gLdR 102 r10 v1) fun r11 => (mb (gGetR [10] v0 0) fun r12 => (mb (gGetR [1] r12 5) fun r13 => (mb (gLdR 102 r13 v5) fun r14 => (mb (mv [1] r8 (m1_apart r8 r11 r14 v2)) fun x15 => (if (v3 : Int32) = (-3) then (m11_like_p115 (m11_like_p29 n) v0 v1 v2 v5 x15) else (if (v4 : Int32) ≤ x15 then (m11_like_p122 (m11_like_p29 n) v0 v1 v2 v3 v4 v5) else (m11_like_p115 (m11_like_p29 n) v0 v1 v2 v5 x15)))))))))))))))))))))
def m11_like (v0 : Nat) (v1 : Int32) (v2 : Int32) : gM Int32 := (mb (gGetR [10] v0 0) fun r16 => (mb (mv [1] r16 (m1_isDeed r16 v1)) fun x17 => (if x17 = 0 then (m11_like_p18) else (mb (m11_isDay v2) fun x18 => (if x18 = 0 then (m11_like_p18) else (m11_like_p29 FU v0 v1 v2 (-3) 0 0))))))
/-- m11_isSheet -/
def m11_isSheet_p14 (s0 : Int32) : gM Int32 := (mz s0)
def m11_isSheet_p13 : gM Int32 := (m11_isSheet_p14 0)
def m11_isSheet (v0 : Int32) : gM Int32 := (if v0 < 0 then (m11_isSheet_p13) else (if (4 : Int32) ≤ v0 then (m11_isSheet_p13) else (m11_isSheet_p14 1)))
/-- m11_isSort -/
def m11_isSort_p14 (s0 : Int32) : gM Int32 := (mz s0)
def m11_isSort_p13 : gM Int32 := (m11_isSort_p14 0)
def m11_isSort (v0 : Int32) : gM Int32 := (if v0 < 0 then (m11_isSort_p13) else (if (3 : Int32) < v0 then (m11_isSort_p13) else (m11_isSort_p14 1)))
/-- m11_sheet -/
def m11_sheet_p36 : gM Int32 := (mp (-1))
def m11_sheet (v0 : Nat) (v1 : Int32) (v2 : Int32) (v3 : Int32) : gM Int32 := (mb (m11_isSheet v1) fun x1 => (if x1 = 0 then (mp (-1)) else (if v2 = (-1) then (mb (gGetR [10] v0 7) fun r7 => (mb (gStI 100 r7 v1 (-1)) fun _ => (mp 1))) else (mb (m11_isSort v2) fun x2 => (if x2 = 0 then (m11_sheet_p36) else (if (v3 : Int32) ≤ 40 then (if 0 ≤ v3 then (mb (gGetR [10] v0 7) fun r3 => (mb (gStI 100 r3 v1 v2) fun _ => (mb (gGetR [10] v0 8) fun r4 => (mb (gStI 100 r4 v1 v3) fun _ => (mb (gGetR [10] v0 6) fun r5 => (mb (gLdR 106 r5 v1) fun r6 => (mb (mj_fill r6 0) fun _ => (mp 1)))))))) else (mp (-14))) else (m11_sheet_p36)))))))
/-- m11_narrowed -/
def m11_narrowed_p47 (s0 : Int32) : gM Int32 := (mp s0)
def m11_narrowed_p48 (v0 : Int32) : gM Int32 := (mp v0)
def m11_narrowed (v0 : Int32) (v1 : Int32) : gM Int32 := (if v1 = 0 then (mp (Int8.toInt32 (Int32.toInt8 v0))) else (if v1 = 1 then (mp (Int16.toInt32 (Int32.toInt16 v0))) else (if v1 = 2 then (m11_narrowed_p48 v0) else (if v1 = 3 then (if v0 = 0 then (m11_narrowed_p47 0) else (m11_narrowed_p47 1)) else (m11_narrowed_p48 v0)))))
/-- m11_put -/
def m11_put_p36 : gM Int32 := (mp (-12))
def m11_put (v0 : Nat) (v1 : Int32) (v2 : Int32) (v3 : Int32) : gM Int32 := (mb (m11_isSheet v1) fun x1 => (if x1 = 0 then (mp (-1)) else (mb (gGetR [10] v0 7) fun r2 => (mb (gLdI 100 r2 v1) fun x3 => (if x3 = (-1) then (mp (-11)) else (if v2 < 0 then (m11_put_p36) else (mb (gGetR [10] v0 8) fun r4 => (mb (gLdI 100 r4 v1) fun x5 => (if (v2 : Int32) < x5 then (mb (gGetR [10] v0 6) fun r6 => (mb (gLdR 106 r6 v1) fun r7 => (mb (gGetR [10] v0 7) fun r8 => (mb (gLdI 100 r8 v1) fun x9 => (mb (m11_narrowed v3 x9) fun x10 => (mb (gStI 100 r7 v2 x10) fun _ => (mp 1))))))) else (m11_put_p36))))))))))
/-- m11_refusalAs -/
def m11_refusalAs_p29 (s0 : Int32) : gM Int32 := (mp s0)
def m11_refusalAs (v0 : Nat) (v1 : Int32) (v2 : Int32) : gM Int32 := (mb (gGetR [10] v0 7) fun r1 => (mb (gLdI 100 r1 v1) fun x2 => (if x2 = (-1) then (mp (-11)) else (mb (gGetR [10] v0 7) fun r3 => (mb (gLdI 100 r3 v1) fun x4 => (if x4 = v2 then (m11_refusalAs_p29 0) else (m11_refusalAs_p29 (-13))))))))
/-- m11_item -/
def m11_item_p14 : gM Int32 := (mp (-1))
def m11_item_p46 : gM Int32 := (mp (-12))
def m11_item (v0 : Nat) (v1 : Int32) (v2 : Int32) (v3 : Int32) : gM Int32 := (mb (m11_isSheet v1) fun x1 => (if x1 = 0 then (m11_item_p14) else (mb (m11_isSort v2) fun x2 => (if x2 = 0 then (m11_item_p14) else (mb (mv [10] v0 (m11_refusalAs v0 v1 v2)) fun x3 => (if x3 = 0 then (if v3 < 0 then (m11_item_p46) else (mb (gGetR [10] v0 8) fun r4 => (mb (gLdI 100 r4 v1) fun x5 => (if (v3 : Int32) < x5 then (mb (gGetR [10] v0 6) fun r6 => (mb (gLdR 106 r6 v1) fun r7 => (mb (gLdI 100 r7 v3) fun x8 => (mp x8)))) else (m11_item_p46))))) else (mp x3)))))))
/-- m11_comes -/
def m11_comes_p30 : gM Int32 := (mp (-1))
def m11_comes_p83 : gM Int32 := (mp (-12))
def m11_comes_p138 (k54 : Nat → Int32 → Int32 → Int32 → Int32 → Int32 → Int32 → gM Int32) (v0 : Nat) (v1 : Int32) (v2 : Int32) (v3 : Int32) (v4 : Int32) (v6 : Int32) (v7 : Int32) : gM Int32 := (k54 v0 v1 v2 v3 v4 v6 (v7 + 1))
def m11_comes_p54 : Nat → Nat → Int32 → Int32 → Int32 → Int32 → Int32 → Int32 → gM Int32
  | 0, _, _, _, _, _, _, _ => mf
  | n + 1, v0, v1, v2, v3, v4, v6, v7 => (if (v4 : Int32) ≤ v7 then (mp v6) else (if (v3 + v7) < 0 then (m11_comes_p83) else (mb (gGetR [10] v0 8) fun r1 => (mb (gLdI 100 r1 v2) fun x2 => (if ((v3 + v7) : Int32) < x2 then (mb (gGetR [10] v0 6) fun r3 => (mb (gLdR 106 r3 v2) fun r4 => (mb (gLdI 100 r4 (v3 + v7)) fun x5 => (mb (m11_areFacts x5) fun x6 => (if x6 = 0 then (m11_comes_p138 (m11_comes_p54 n) v0 v1 v2 v3 v4 v6 v7) else (mb (gGetR [10] v0 0) fun r7 => (mb (gGetI [1] r7 6) fun x8 => (if (x8 : Int32) < 24 then (mb (gGetR [10] v0 0) fun r9 => (mb (mv [1] r9 (m1_addFinding r9 v1 x5 0)) fun x10 => (m11_comes_p138 (m11_comes_p54 n) v0 v1 v2 v3 v4 (v6 + 1) v7))) else (mp (-2)))))))))) else (m11_comes_p83))))))
def m11_comes (v0 : Nat) (v1 : Int32) (v2 : Int32) (v3 : Int32) (v4 : Int32) : gM Int32 := (mb (gGetR [10] v0 0) fun r11 => (mb (mv [1] r11 (m1_isDeed r11 v1)) fun x12 => (if x12 = 0 then (m11_comes_p30) else (mb (m11_isSheet v2) fun x13 => (if x13 = 0 then (m11_comes_p30) else (if v4 < 0 then (m11_comes_p30) else (if (v4 : Int32) ≤ 9 then (mb (mv [10] v0 (m11_refusalAs v0 v2 1)) fun x14 => (if x14 = 0 then (m11_comes_p54 FU v0 v1 v2 v3 v4 0 0) else (mp x14))) else (m11_comes_p30))))))))
/-- m11_isShelf -/
def m11_isShelf_p14 (s0 : Int32) : gM Int32 := (mz s0)
def m11_isShelf_p13 : gM Int32 := (m11_isShelf_p14 0)
def m11_isShelf (v0 : Int32) : gM Int32 := (if v0 < 0 then (m11_isShelf_p13) else (if (4 : Int32) ≤ v0 then (m11_isShelf_p13) else (m11_isShelf_p14 1)))
/-- m11_isThing -/
def m11_isThing_p87 (s0 : Int32) : gM Int32 := (mz s0)
def m11_isThing (v0 : Nat) (v1 : Int32) (v2 : Int32) : gM Int32 := (if v1 = 0 then (mb (gGetR [10] v0 0) fun r9 => (mb (mv [1] r9 (m1_isDeed r9 v2)) fun x10 => (mz x10))) else (if v1 = 1 then (mb (gGetR [10] v0 0) fun r7 => (mb (mv [1] r7 (m1_isFinding r7 v2)) fun x8 => (mz x8))) else (if v1 = 2 then (mb (gGetR [10] v0 0) fun r5 => (mb (mv [1] r5 (m1_isTerm r5 v2)) fun x6 => (mz x6))) else (if v1 = 3 then (mb (gGetR [10] v0 0) fun r3 => (mb (mv [1] r3 (m1_isLaw r3 v2)) fun x4 => (mz x4))) else (if v1 = 4 then (mb (m11_isSheet v2) fun x2 => (mz x2)) else (if v1 = 5 then (m11_isThing_p87 1) else (m11_isThing_p87 0)))))))
/-- m11_shelf -/
def m11_shelf_p16 : gM Int32 := (mp (-1))
def m11_shelf_p56 (v0 : Nat) (v1 : Int32) (v3 : Int32) : gM Int32 := (mb (gGetR [10] v0 11) fun r1 => (mb (gGetR [10] v0 7) fun r2 => (mb (gLdI 100 r2 v3) fun x3 => (mb (gStI 100 r1 v1 x3) fun _ => (mb (gGetR [10] v0 12) fun r4 => (mb (gGetR [10] v0 8) fun r5 => (mb (gLdI 100 r5 v3) fun x6 => (mb (gStI 100 r4 v1 x6) fun _ => (mp 1)))))))))
def m11_shelf (v0 : Nat) (v1 : Int32) (v2 : Int32) (v3 : Int32) : gM Int32 := (mb (m11_isShelf v1) fun x7 => (if x7 = 0 then (m11_shelf_p16) else (mb (mv [10] v0 (m11_isThing v0 v2 v3)) fun x8 => (if x8 = 0 then (m11_shelf_p16) else (mb (gGetR [10] v0 9) fun r9 => (mb (gStI 100 r9 v1 v2) fun _ => (mb (gGetR [10] v0 10) fun r10 => (mb (gStI 100 r10 v1 v3) fun _ => (if (v2 : Int32) = 4 then (mb (gGetR [10] v0 7) fun r11 => (mb (gLdI 100 r11 v3) fun x12 => (if x12 = (-1) then (mb (gGetR [10] v0 9) fun r13 => (mb (gStI 100 r13 v1 5) fun _ => (m11_shelf_p56 v0 v1 v3))) else (m11_shelf_p56 v0 v1 v3)))) else (mp 1))))))))))
/-- m11_isPaperKind -/
def m11_isPaperKind_p15 (s0 : Int32) : gM Int32 := (mz s0)
def m11_isPaperKind_p14 : gM Int32 := (m11_isPaperKind_p15 0)
def m11_isPaperKind (v0 : Int32) : gM Int32 := (if v0 < 0 then (m11_isPaperKind_p14) else (if (6 : Int32) < v0 then (m11_isPaperKind_p14) else (m11_isPaperKind_p15 1)))
/-- m11_paperOn -/
def m11_paperOn (v0 : Nat) (v1 : Int32) : gM (Option Nat) := (mb (gGetR [10] v0 10) fun r1 => (mb (gLdI 100 r1 v1) fun x2 => (mb (gGetR [10] v0 9) fun r3 => (mb (gLdI 100 r3 v1) fun x4 => (mb (mv [10] v0 (m11_isThing v0 x4 x2)) fun x5 => (if x5 = 0 then (mp none) else (mb (gGetR [10] v0 9) fun r6 => (mb (gLdI 100 r6 v1) fun x7 => (if x7 = 0 then (mb (gGetR [10] v0 0) fun r18 => (mb (gGetR [1] r18 5) fun r19 => (mb (gLdR 102 r19 x2) fun r20 => (mp (some r20))))) else (if x7 = 1 then (mb (gGetR [10] v0 0) fun r15 => (mb (gGetR [1] r15 7) fun r16 => (mb (gLdR 103 r16 x2) fun r17 => (mp (some r17))))) else (if x7 = 2 then (mb (gGetR [10] v0 0) fun r12 => (mb (gGetR [1] r12 11) fun r13 => (mb (gLdR 105 r13 x2) fun r14 => (mp (some r14))))) else (if x7 = 3 then (mb (gGetR [10] v0 0) fun r9 => (mb (gGetR [1] r9 9) fun r10 => (mb (gLdR 104 r10 x2) fun r11 => (mp (some r11))))) else (mp none)))))))))))))
/-- m11_isOfKind -/
def m11_isOfKind_p79 (s0 : Int32) : gM Int32 := (mz s0)
def m11_isOfKind (v0 : Nat) (v1 : Int32) : gM Int32 := (if v1 = 1 then (mb (gInst [0, 9] v0) fun x7 => (mz x7)) else (if v1 = 2 then (mb (gInst [9] v0) fun x6 => (mz x6)) else (if v1 = 3 then (mb (gInst [3] v0) fun x5 => (mz x5)) else (if v1 = 4 then (mb (gInst [7, 2] v0) fun x4 => (mz x4)) else (if v1 = 5 then (mb (gInst [2] v0) fun x3 => (mz x3)) else (if v1 = 6 then (mb (gInst [4] v0) fun x2 => (mz x2)) else (if v1 = 0 then (m11_isOfKind_p79 1) else (m11_isOfKind_p79 0))))))))
/-- m11_taken -/
def m11_taken_p24 : gM Int32 := (mp (-1))
def m11_taken_p60 (s0 : Int32) : gM Int32 := (mp s0)
def m11_taken_p98 (s0 : Int32) : gM Int32 := (mp s0)
def m11_taken_p96 : gM Int32 := (m11_taken_p98 (-13))
def m11_taken_p26 (v0 : Nat) (v1 : Int32) (v2 : Int32) : gM Int32 := (mb (gGetR [10] v0 9) fun r1 => (mb (gLdI 100 r1 v1) fun x2 => (if x2 = 4 then (mb (gGetR [10] v0 11) fun r8 => (mb (gLdI 100 r8 v1) fun x9 => (if (v2 - 10) = x9 then (mb (gGetR [10] v0 12) fun r10 => (mb (gLdI 100 r10 v1) fun x11 => (m11_taken_p60 x11))) else (m11_taken_p60 (-13))))) else (mb (mv [10] v0 (m11_paperOn v0 v1)) fun r3 => (mo r3 (mp (-11)) fun r4 => (mb (m11_isPaperKind v2) fun x5 => (if x5 = 0 then (m11_taken_p96) else (mb (m11_isOfKind r4 v2) fun x6 => (if x6 = 0 then (m11_taken_p96) else (mb (gGetI [0, 2, 3, 4, 7, 9] r4 0) fun x7 => (m11_taken_p98 x7)))))))))))
def m11_taken (v0 : Nat) (v1 : Int32) (v2 : Int32) : gM Int32 := (mb (m11_isShelf v1) fun x12 => (if x12 = 0 then (m11_taken_p24) else (mb (m11_isPaperKind v2) fun x13 => (if x13 = 0 then (mb (m11_isSort (v2 - 10)) fun x14 => (if x14 = 0 then (m11_taken_p24) else (m11_taken_p26 v0 v1 v2))) else (m11_taken_p26 v0 v1 v2)))))
/-- m11_act -/
def m11_act_p140 (s0 : Int32) : gM Int32 := (mp s0)
def m11_act_p123 (v0 : Nat) (v5 : Int32) : gM Int32 := (mb (gGetR [10] v0 5) fun r1 => (mb (gGetI [8] r1 2) fun x2 => (if x2 = 0 then (m11_act_p140 v5) else (m11_act_p140 (-15)))))
def m11_act (v0 : Nat) (v1 : Int32) (v2 : Int32) (v3 : Int32) : gM Int32 := (mb (gGetR [10] v0 5) fun r3 => (mb (mv [8] r3 (m9_clear r3)) fun _ => (mb (m11_isShelf v1) fun x4 => (if x4 = 0 then (mp 0) else (mb (mv [10] v0 (m11_paperOn v0 v1)) fun r5 => (mo r5 (mp 0) fun r6 => (if v2 = 0 then (mb (gGetR [10] v0 5) fun r14 => (mb (gVk r6 [(0, m0_weighs r6 v3 r14), (2, m2_weighs r6 v3 r14), (3, m6_weighs r6 v3 r14), (4, m6_weighs r6 v3 r14), (7, m6_weighs r6 v3 r14), (9, m0_weighs r6 v3 r14)]) fun x15 => (m11_act_p123 v0 x15))) else (if v2 = 1 then (mb (gGetR [10] v0 5) fun r12 => (mb (gVk r6 [(0, m6_bars r6 v3 r12), (2, m8_bars r6 v3 r12), (3, m6_bars r6 v3 r12), (4, m6_bars r6 v3 r12), (7, m8_bars r6 v3 r12), (9, m10_bars r6 v3 r12)]) fun x13 => (m11_act_p123 v0 x13))) else (if v2 = 2 then (mb (gGetR [10] v0 5) fun r10 => (mb (gVk r6 [(0, m6_parts r6 v3 r10), (2, m2_parts r6 v3 r10), (3, m3_parts r6 v3 r10), (4, m6_parts r6 v3 r10), (7, m6_parts r6 v3 r10), (9, m6_parts r6 v3 r10)]) fun x11 => (m11_act_p123 v0 x11))) else (if v2 = 3 then (mb (gGetR [10] v0 5) fun r8 => (mb (gVk r6 [(0, m6_tells r6 v3 r8), (2, m6_tells r6 v3 r8), (3, m3_tells r6 v3 r8), (4, m4_tells r6 v3 r8), (7, m6_tells r6 v3 r8), (9, m6_tells r6 v3 r8)]) fun x9 => (m11_act_p123 v0 x9))) else (m11_act_p123 v0 0)))))))))))
/-- m11_trace -/
def m11_trace_p29 (s0 : Int32) : gM Int32 := (mp s0)
def m11_trace_p27 : gM Int32 := (m11_trace_p29 (-3))
def m11_trace (v0 : Nat) (v1 : Int32) : gM Int32 := (if v1 < 0 then (m11_trace_p27) else (mb (gGetR [10] v0 5) fun r1 => (mb (gGetI [8] r1 1) fun x2 => (if (x2 : Int32) ≤ v1 then (m11_trace_p27) else (mb (gGetR [10] v0 5) fun r3 => (mb (gGetR [8] r3 0) fun r4 => (mb (gLdI 100 r4 v1) fun x5 => (m11_trace_p29 x5))))))))
/-- m11_many -/
def m11_many (v0 : Nat) (v1 : Int32) : gM Int32 := (if v1 = 0 then (mb (gGetR [10] v0 0) fun r24 => (mb (gGetI [1] r24 0) fun x25 => (mp x25))) else (if v1 = 1 then (mb (gGetR [10] v0 0) fun r22 => (mb (gGetI [1] r22 1) fun x23 => (mp x23))) else (if v1 = 2 then (mb (gGetR [10] v0 0) fun r20 => (mb (gGetI [1] r20 4) fun x21 => (mp x21))) else (if v1 = 3 then (mb (gGetR [10] v0 0) fun r18 => (mb (gGetI [1] r18 6) fun x19 => (mp x19))) else (if v1 = 4 then (mb (gGetR [10] v0 0) fun r16 => (mb (gGetI [1] r16 8) fun x17 => (mp x17))) else (if v1 = 5 then (mb (gGetR [10] v0 0) fun r14 => (mb (gGetI [1] r14 10) fun x15 => (mp x15))) else (if v1 = 6 then (mb (gGetR [10] v0 0) fun r10 => (mb (gGetR [10] v0 0) fun r11 => (mb (gGetI [1] r11 0) fun x12 => (mb (mv [1] r10 (m1_standing r10 x12)) fun x13 => (mp x13))))) else (if v1 = 7 then (mb (gGetR [10] v0 0) fun r8 => (mb (gGetI [1] r8 13) fun x9 => (mp x9))) else (if v1 = 8 then (mb (gGetR [10] v0 4) fun r6 => (mb (gGetI [6] r6 1) fun x7 => (mp x7))) else (if v1 = 9 then (mb (gGetR [10] v0 3) fun r4 => (mb (gGetI [5] r4 0) fun x5 => (mp x5))) else (if v1 = 10 then (mb (gGetR [10] v0 5) fun r2 => (mb (gGetI [8] r2 1) fun x3 => (mp x3))) else (mp (-1)))))))))))))
/-- m11_keep -/
def m11_keep (v0 : Nat) : gM Int32 := (mb (gGetR [10] v0 1) fun r1 => (mb (gGetR [10] v0 0) fun r2 => (mb (mv [1] r1 (m1_become r1 r2)) fun _ => (mb (gPutZ [10] v0 2 1) fun _ => (mp 1)))))
/-- m11_again -/
def m11_again (v0 : Nat) : gM Int32 := (mb (gGetI [10] v0 2) fun x1 => (if x1 = 0 then (mp (-3)) else (mb (gGetR [10] v0 0) fun r2 => (mb (gGetR [10] v0 1) fun r3 => (mb (mv [1] r2 (m1_become r2 r3)) fun _ => (mp 1))))))

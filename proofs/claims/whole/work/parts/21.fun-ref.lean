/-- m12_init -/
def m12_init (v0 : Nat) : gM Unit := (mb (gNewA 100 7) fun r1 => (mb (gPutR [11] v0 0 (some r1)) fun _ => (mb (gNewA 100 16) fun r2 => (mb (gPutR [11] v0 1 (some r2)) fun _ => (mb (gNewA 100 48) fun r3 => (mb (gPutR [11] v0 2 (some r3)) fun _ => (mb (gNewA 100 96) fun r4 => (mb (gPutR [11] v0 3 (some r4)) fun _ => (mb (gNewA 100 12) fun r5 => (mb (gPutR [11] v0 4 (some r5)) fun _ => (mb (gNewA 100 504) fun r6 => (mb (gPutR [11] v0 5 (some r6)) fun _ => (mb (gNewA 100 1560) fun r7 => (mb (gPutR [11] v0 6 (some r7)) fun _ => (mb (gNewA 100 112) fun r8 => (mb (gPutR [11] v0 7 (some r8)) fun _ => (mb (gNewA 100 36) fun r9 => (mb (gPutR [11] v0 8 (some r9)) fun _ => (mb (gNewA 100 250) fun r10 => (mb (gPutR [11] v0 9 (some r10)) fun _ => (mb (gNewA 100 84) fun r11 => (mb (gPutR [11] v0 16 (some r11)) fun _ => (mb (gNewA 100 260) fun r12 => (mb (gPutR [11] v0 17 (some r12)) fun _ => (mb (gNewA 100 260) fun r13 => (mb (gPutR [11] v0 18 (some r13)) fun _ => (mb (gNewA 100 7) fun r14 => (mb (gStI 100 r14 0 112) fun _ => (mb (gStI 100 r14 1 108) fun _ => (mb (gStI 100 r14 2 101) fun _ => (mb (gStI 100 r14 3 97) fun _ => (mb (gStI 100 r14 4 100) fun _ => (mb (gStI 100 r14 5 101) fun _ => (mb (gStI 100 r14 6 100) fun _ => (mb (gPutR [11] v0 21 (some r14)) fun _ => (mb (gNewA 100 260) fun r15 => (mb (gPutR [11] v0 22 (some r15)) fun _ => (mb (gNewA 100 16) fun r16 => (mb (gPutR [11] v0 24 (some r16)) fun _ => (mb (gNewA 100 16) fun r17 => (mb (gPutR [11] v0 25 (some r17)) fun _ => (mb (gNewA 100 16) fun r18 => (mb (gPutR [11] v0 26 (some r18)) fun _ => (mb (gNewA 100 48) fun r19 => (mb (gPutR [11] v0 28 (some r19)) fun _ => (mb (gNewA 100 65280) fun r20 => (mb (gPutR [11] v0 29 (some r20)) fun _ => (mb (gNewA 100 4) fun r21 => (mb (gStI 100 r21 0 (-1)) fun _ => (mb (gStI 100 r21 1 (-1)) fun _ => (mb (gStI 100 r21 2 (-1)) fun _ => (mb (gStI 100 r21 3 (-1)) fun _ => (mb (gPutR [11] v0 30 (some r21)) fun _ => (mb (gNewA 100 4) fun r22 => (mb (gPutR [11] v0 31 (some r22)) fun _ => (mb (gNewA 100 160) fun r23 => (mb (gPutR [11] v0 32 (some r23)) fun _ => (mb (gNewA 100 4) fun r24 => (mb (gStI 100 r24 0 (-1)) fun _ => (mb (gStI 100 r24 1 (-1)) fun _ => (mb (gStI 100 r24 2 (-1)) fun _ => (mb (gStI 100 r24 3 (-1)) fun _ => (mb (gPutR [11] v0 33 (some r24)) fun _ => (mb (gNewA 100 4) fun r25 => (mb (gPutR [11] v0 34 (some r25)) fun _ => (mb (gNewA 100 4) fun r26 => (mb (gPutR [11] v0 35 (some r26)) fun _ => (mb (gNewA 100 30) fun r27 => (mb (gPutR [11] v0 39 (some r27)) fun _ => (mb (gNewA 100 2400) fun r28 => (mb (gPutR [11] v0 43 (some r28)) fun _ => (mp ()))))))))))))))))))))))))))))))))))))))))))))))))))))))))))))))))))))))))
/-- m12_in -/
def m12_in_p15 (s0 : Int32) : gM Int32 := (mz s0)
def m12_in_p14 : gM Int32 := (m12_in_p15 0)
def m12_in (v0 : Int32) (v1 : Int32) (v2 : Int32) : gM Int32 := (if (v0 : Int32) < v1 then (m12_in_p14) else (if (v2 : Int32) < v0 then (m12_in_p14) else (m12_in_p15 1)))
/-- m12_isDay -/
def m12_isDay (v0 : Int32) : gM Int32 := (mb (m12_in v0 0 9999) fun x1 => (mz x1))
/-- m12_isPerson -/
def m12_isPerson (v0 : Nat) (v1 : Int32) : gM Int32 := (mb (gGetR [11] v0 0) fun r1 => (mb (gLdI 100 r1 1) fun x2 => (mb (m12_in v1 0 (x2 - 1)) fun x3 => (mz x3))))
/-- m12_isDeed -/
def m12_isDeed (v0 : Nat) (v1 : Int32) : gM Int32 := (mb (gGetR [11] v0 0) fun r1 => (mb (gLdI 100 r1 2) fun x2 => (mb (m12_in v1 0 (x2 - 1)) fun x3 => (mz x3))))
/-- m12_isVersion -/
def m12_isVersion (v0 : Nat) (v1 : Int32) : gM Int32 := (mb (gGetR [11] v0 0) fun r1 => (mb (gLdI 100 r1 4) fun x2 => (mb (m12_in v1 0 (x2 - 1)) fun x3 => (mz x3))))
/-- m12_isTerm -/
def m12_isTerm (v0 : Nat) (v1 : Int32) : gM Int32 := (mb (gGetR [11] v0 0) fun r1 => (mb (gLdI 100 r1 5) fun x2 => (mb (m12_in v1 0 (x2 - 1)) fun x3 => (mz x3))))
/-- m12_of -/
def m12_of (v0 : Nat) (v1 : Int32) (v2 : Int32) : gM Int32 := (mb (gGetR [11] v0 7) fun r1 => (mb (gLdI 100 r1 (((7 : Int32) * v1) + v2)) fun x2 => (mp x2)))
/-- m12_whose -/
def m12_whose (v0 : Nat) (v1 : Int32) : gM Int32 := (mb (gGetR [11] v0 2) fun r1 => (mb (mv [11] v0 (m12_of v0 v1 0)) fun x2 => (mb (gLdI 100 r1 ((3 : Int32) * x2)) fun x3 => (mp x3))))
/-- m12_orNone -/
def m12_orNone_p10 (s0 : Int32) : gM Int32 := (mp s0)
def m12_orNone (v0 : Int32) : gM Int32 := (if 0 ≤ v0 then (m12_orNone_p10 v0) else (m12_orNone_p10 (-3)))
/-- m12_days -/
def m12_days (v0 : Nat) (v1 : Int32) : gM Int32 := (mb (m12_in v1 1 2000) fun x1 => (if x1 = 0 then (mp (-1)) else (mb (gGetR [11] v0 0) fun r2 => (mb (gLdI 100 r2 0) fun x3 => (if ((x3 + v1) : Int32) ≤ 9999 then (mb (gGetR [11] v0 0) fun r4 => (mb (gLdI 100 r4 0) fun x5 => (mb (gStI 100 r4 0 (x5 + v1)) fun _ => (mb (gGetR [11] v0 0) fun r6 => (mb (gLdI 100 r6 0) fun x7 => (mp x7)))))) else (mp (-4)))))))
/-- m12_person -/
def m12_person_p21 : gM Int32 := (mp (-1))
def m12_person (v0 : Nat) (v1 : Int32) (v2 : Int32) : gM Int32 := (mb (m12_in v1 0 90) fun x1 => (if x1 = 0 then (m12_person_p21) else (mb (m12_in v2 0 359) fun x2 => (if x2 = 0 then (m12_person_p21) else (mb (gGetR [11] v0 0) fun r3 => (mb (gLdI 100 r3 1) fun x4 => (if x4 = 8 then (mp (-2)) else (mb (gGetR [11] v0 1) fun r5 => (mb (gStI 100 r5 ((2 : Int32) * x4) (((360 : Int32) * v1) + v2)) fun _ => (mb (gGetR [11] v0 1) fun r6 => (mb (gStI 100 r6 (((2 : Int32) * x4) + 1) 0) fun _ => (mb (gGetR [11] v0 0) fun r7 => (mb (gLdI 100 r7 1) fun x8 => (mb (gStI 100 r7 1 (x8 + 1)) fun _ => (mp x4)))))))))))))))
/-- m12_ageOn -/
def m12_ageOn (v0 : Nat) (v1 : Int32) (v2 : Int32) : gM Int32 := (mb (gGetR [11] v0 1) fun r1 => (mb (gLdI 100 r1 ((2 : Int32) * v1)) fun x2 => (mb (gDiv (x2 + v2) 360) fun x3 => (mp x3))))
/-- m12_age -/
def m12_age_p25 (s0 : Int32) : gM Int32 := (mp s0)
def m12_age_p24 : gM Int32 := (m12_age_p25 (-1))
def m12_age (v0 : Nat) (v1 : Int32) (v2 : Int32) : gM Int32 := (mb (mv [11] v0 (m12_isPerson v0 v1)) fun x1 => (if x1 = 0 then (m12_age_p24) else (mb (m12_isDay v2) fun x2 => (if x2 = 0 then (m12_age_p24) else (mb (mv [11] v0 (m12_ageOn v0 v1 v2)) fun x3 => (m12_age_p25 x3))))))
/-- m12_deed -/
def m12_deed_p31 : gM Int32 := (mp (-1))
def m12_deed (v0 : Nat) (v1 : Int32) (v2 : Int32) (v3 : Int32) : gM Int32 := (mb (mv [11] v0 (m12_isPerson v0 v1)) fun x1 => (if x1 = 0 then (m12_deed_p31) else (mb (m12_in v2 0 5) fun x2 => (if x2 = 0 then (m12_deed_p31) else (mb (gGetR [11] v0 0) fun r3 => (mb (gLdI 100 r3 0) fun x4 => (mb (m12_in v3 0 x4) fun x5 => (if x5 = 0 then (m12_deed_p31) else (mb (gGetR [11] v0 0) fun r6 => (mb (gLdI 100 r6 2) fun x7 => (if x7 = 16 then (mp (-2)) else (mb (gGetR [11] v0 2) fun r8 => (mb (gStI 100 r8 ((3 : Int32) * x7) v1) fun _ => (mb (gGetR [11] v0 2) fun r9 => (mb (gStI 100 r9 (((3 : Int32) * x7) + 1) v2) fun _ => (mb (gGetR [11] v0 2) fun r10 => (mb (gStI 100 r10 (((3 : Int32) * x7) + 2) v3) fun _ => (mb (gGetR [11] v0 0) fun r11 => (mb (gLdI 100 r11 2) fun x12 => (mb (gStI 100 r11 2 (x12 + 1)) fun _ => (mp x7)))))))))))))))))))))
/-- m12_dayOf -/
def m12_dayOf (v0 : Nat) (v1 : Int32) : gM Int32 := (mb (gGetR [11] v0 2) fun r1 => (mb (gLdI 100 r1 (((3 : Int32) * v1) + 2)) fun x2 => (mp x2)))
/-- m12_ageAt -/
def m12_ageAt (v0 : Nat) (v1 : Int32) : gM Int32 := (mb (gGetR [11] v0 2) fun r1 => (mb (gLdI 100 r1 ((3 : Int32) * v1)) fun x2 => (mb (mv [11] v0 (m12_dayOf v0 v1)) fun x3 => (mb (mv [11] v0 (m12_ageOn v0 x2 x3)) fun x4 => (mp x4)))))
/-- m12_isYoung -/
def m12_isYoung_p15 (s0 : Int32) : gM Int32 := (mz s0)
def m12_isYoung (v0 : Nat) (v1 : Int32) : gM Int32 := (mb (mv [11] v0 (m12_ageAt v0 v1)) fun x1 => (if (18 : Int32) ≤ x1 then (m12_isYoung_p15 0) else (m12_isYoung_p15 1)))
/-- m12_finding -/
def m12_finding_p18 : gM Int32 := (mp (-1))
def m12_finding_p79 (v0 : Nat) (v4 : Int32) (s0 : Nat) (s1 : Int32) (s2 : Int32) : gM Int32 := (mb (gStI 100 s0 s1 s2) fun _ => (mb (gGetR [11] v0 3) fun r1 => (mb (gGetR [11] v0 0) fun r2 => (mb (gLdI 100 r2 0) fun x3 => (mb (gStI 100 r1 (((4 : Int32) * v4) + 3) x3) fun _ => (mb (gGetR [11] v0 0) fun r4 => (mb (gLdI 100 r4 3) fun x5 => (mb (gStI 100 r4 3 (x5 + 1)) fun _ => (mp v4)))))))))
def m12_finding (v0 : Nat) (v1 : Int32) (v2 : Int32) (v3 : Int32) : gM Int32 := (mb (mv [11] v0 (m12_isDeed v0 v1)) fun x6 => (if x6 = 0 then (m12_finding_p18) else (mb (m12_in v2 0 15) fun x7 => (if x7 = 0 then (m12_finding_p18) else (mb (gGetR [11] v0 0) fun r8 => (mb (gLdI 100 r8 3) fun x9 => (if x9 = 24 then (mp (-2)) else (mb (gGetR [11] v0 3) fun r10 => (mb (gStI 100 r10 ((4 : Int32) * x9) v1) fun _ => (mb (gGetR [11] v0 3) fun r11 => (mb (gStI 100 r11 (((4 : Int32) * x9) + 1) v2) fun _ => (mb (gGetR [11] v0 3) fun r12 => (if v3 = 0 then (m12_finding_p79 v0 x9 r12 (((4 : Int32) * x9) + 2) 0) else (m12_finding_p79 v0 x9 r12 (((4 : Int32) * x9) + 2) 1))))))))))))))
/-- m12_foundOf -/
def m12_foundOf_p50 (k5 : Nat → Int32 → Int32 → Int32 → Int32 → gM Int32) (v0 : Nat) (v1 : Int32) (v2 : Int32) (v4 : Int32) (s0 : Int32) : gM Int32 := (k5 v0 v1 v2 s0 (v4 + 1))
def m12_foundOf_p49 (k5 : Nat → Int32 → Int32 → Int32 → Int32 → gM Int32) (v0 : Nat) (v1 : Int32) (v2 : Int32) (v3 : Int32) (v4 : Int32) : gM Int32 := (m12_foundOf_p50 k5 v0 v1 v2 v4 v3)
def m12_foundOf_p5 : Nat → Nat → Int32 → Int32 → Int32 → Int32 → gM Int32
  | 0, _, _, _, _, _ => mf
  | n + 1, v0, v1, v2, v3, v4 => (mb (gGetR [11] v0 0) fun r1 => (mb (gLdI 100 r1 3) fun x2 => (if (x2 : Int32) ≤ v4 then (mp v3) else (mb (gGetR [11] v0 3) fun r3 => (mb (gLdI 100 r3 ((4 : Int32) * v4)) fun x4 => (if x4 = v1 then (mb (gGetR [11] v0 3) fun r5 => (mb (gLdI 100 r5 (((4 : Int32) * v4) + 3)) fun x6 => (if (v2 : Int32) < x6 then (m12_foundOf_p49 (m12_foundOf_p5 n) v0 v1 v2 v3 v4) else (m12_foundOf_p50 (m12_foundOf_p5 n) v0 v1 v2 v4 v4)))) else (m12_foundOf_p49 (m12_foundOf_p5 n) v0 v1 v2 v3 v4)))))))
def m12_foundOf (v0 : Nat) (v1 : Int32) (v2 : Int32) : gM Int32 := (m12_foundOf_p5 FU v0 v1 v2 (-1) 0)
/-- m12_factsOf -/
def m12_factsOf_p25 (s0 : Int32) : gM Int32 := (mp s0)
def m12_factsOf (v0 : Nat) (v1 : Int32) (v2 : Int32) : gM Int32 := (mb (mv [11] v0 (m12_foundOf v0 v1 v2)) fun x1 => (if 0 ≤ x1 then (mb (gGetR [11] v0 3) fun r2 => (mb (gLdI 100 r2 (((4 : Int32) * x1) + 1)) fun x3 => (m12_factsOf_p25 x3))) else (m12_factsOf_p25 0)))
/-- m12_isPleaded -/
def m12_isPleaded_p30 (s0 : Int32) : gM Int32 := (mz s0)
def m12_isPleaded_p29 : gM Int32 := (m12_isPleaded_p30 0)
def m12_isPleaded (v0 : Nat) (v1 : Int32) (v2 : Int32) : gM Int32 := (mb (mv [11] v0 (m12_foundOf v0 v1 v2)) fun x1 => (if x1 < 0 then (m12_isPleaded_p29) else (mb (gGetR [11] v0 3) fun r2 => (mb (gLdI 100 r2 (((4 : Int32) * x1) + 2)) fun x3 => (if x3 = 1 then (m12_isPleaded_p30 1) else (m12_isPleaded_p29))))))
/-- m12_stands -/
def m12_stands_p26 (s0 : Int32) : gM Int32 := (mz s0)
def m12_stands_p25 : gM Int32 := (m12_stands_p26 0)
def m12_stands (v0 : Nat) (v1 : Int32) (v2 : Int32) : gM Int32 := (mb (mv [11] v0 (m12_of v0 v1 5)) fun x1 => (if (v2 : Int32) < x1 then (m12_stands_p25) else (mb (mv [11] v0 (m12_of v0 v1 6)) fun x2 => (if (x2 : Int32) ≤ v2 then (m12_stands_p25) else (m12_stands_p26 1)))))
/-- m12_termOf -/
def m12_termOf_p43 (k5 : Nat → Int32 → Int32 → Int32 → Int32 → gM Int32) (v0 : Nat) (v1 : Int32) (v2 : Int32) (v4 : Int32) (s0 : Int32) : gM Int32 := (k5 v0 v1 v2 s0 (v4 + 1))
def m12_termOf_p42 (k5 : Nat → Int32 → Int32 → Int32 → Int32 → gM Int32) (v0 : Nat) (v1 : Int32) (v2 : Int32) (v3 : Int32) (v4 : Int32) : gM Int32 := (m12_termOf_p43 k5 v0 v1 v2 v4 v3)
def m12_termOf_p5 : Nat → Nat → Int32 → Int32 → Int32 → Int32 → gM Int32
  | 0, _, _, _, _, _ => mf
  | n + 1, v0, v1, v2, v3, v4 => (mb (gGetR [11] v0 0) fun r1 => (mb (gLdI 100 r1 5) fun x2 => (if (x2 : Int32) ≤ v4 then (mp v3) else (mb (mv [11] v0 (m12_of v0 v4 0)) fun x3 => (if x3 = v1 then (mb (mv [11] v0 (m12_stands v0 v4 v2)) fun x4 => (if x4 = 0 then (m12_termOf_p42 (m12_termOf_p5 n) v0 v1 v2 v3 v4) else (m12_termOf_p43 (m12_termOf_p5 n) v0 v1 v2 v4 v4))) else (m12_termOf_p42 (m12_termOf_p5 n) v0 v1 v2 v3 v4))))))
def m12_termOf (v0 : Nat) (v1 : Int32) (v2 : Int32) : gM Int32 := (m12_termOf_p5 FU v0 v1 v2 (-1) 0)
/-- m12_deedOf -/
def m12_deedOf_p24 : gM Int32 := (mp (-1))
def m12_deedOf_p87 (s0 : Int32) : gM Int32 := (mp s0)
def m12_deedOf (v0 : Nat) (v1 : Int32) (v2 : Int32) (v3 : Int32) : gM Int32 := (mb (mv [11] v0 (m12_isDeed v0 v1)) fun x1 => (if x1 = 0 then (m12_deedOf_p24) else (mb (m12_isDay v2) fun x2 => (if x2 = 0 then (m12_deedOf_p24) else (mb (m12_in v3 0 5) fun x3 => (if x3 = 0 then (m12_deedOf_p24) else (if (3 : Int32) ≤ v3 then (if v3 = 3 then (mb (mv [11] v0 (m12_factsOf v0 v1 v2)) fun x7 => (m12_deedOf_p87 x7)) else (if v3 = 4 then (mb (mv [11] v0 (m12_isPleaded v0 v1 v2)) fun x6 => (if x6 = 0 then (m12_deedOf_p87 0) else (m12_deedOf_p87 1))) else (mb (mv [11] v0 (m12_termOf v0 v1 v2)) fun x4 => (mb (m12_orNone x4) fun x5 => (m12_deedOf_p87 x5))))) else (mb (gGetR [11] v0 2) fun r8 => (mb (gLdI 100 r8 (((3 : Int32) * v1) + v3)) fun x9 => (mp x9))))))))))
/-- m12_feed -/
def m12_feed_p30 : Nat → Nat → Int64 → Int32 → Int32 → gM Int32
  | 0, _, _, _, _ => mf
  | n + 1, v0, v1, v3, v4 => (if (v3 : Int32) ≤ v4 then (mb (gGetI [11] v0 10) fun x1 => (mp x1)) else (mb (gGetR [11] v0 9) fun r2 => (mb (gGetI [11] v0 10) fun x3 => (mb (gStI 100 r2 x3 (Int64.toInt32 ((lush v1 ((8 : Int32) * v4)) &&& 255))) fun _ => (mb (gGetI [11] v0 10) fun x4 => (mb (gPutI [11] v0 10 (x4 + 1)) fun _ => (m12_feed_p30 n v0 v1 v3 (v4 + 1))))))))
def m12_feed (v0 : Nat) (v1 : Int64) (v3 : Int32) : gM Int32 := (mb (m12_in v3 1 8) fun x5 => (if x5 = 0 then (mp (-1)) else (mb (gGetI [11] v0 10) fun x6 => (if ((x6 + v3) : Int32) ≤ 250 then (m12_feed_p30 FU v0 v1 v3 0) else (mp (-2))))))
/-- m12_isLetter -/
def m12_isLetter_p17 (s0 : Int32) : gM Int32 := (mz s0)
def m12_isLetter_p16 : gM Int32 := (m12_isLetter_p17 0)
def m12_isLetter (v0 : Int32) : gM Int32 := (if (v0 : Int32) < 97 then (m12_isLetter_p16) else (if (122 : Int32) < v0 then (m12_isLetter_p16) else (m12_isLetter_p17 1)))
/-- m12_isDigit -/
def m12_isDigit_p17 (s0 : Int32) : gM Int32 := (mz s0)
def m12_isDigit_p16 : gM Int32 := (m12_isDigit_p17 0)
def m12_isDigit (v0 : Int32) : gM Int32 := (if (v0 : Int32) < 48 then (m12_isDigit_p16) else (if (57 : Int32) < v0 then (m12_isDigit_p16) else (m12_isDigit_p17 1)))
/-- m12_isSeven -/
def m12_isSeven_p57 (k22 : Nat → Int32 → Int32 → gM Int32) (v0 : Nat) (v2 : Int32) (s0 : Int32) : gM Int32 := (k22 v0 s0 (v2 + 1))
def m12_isSeven_p64 (v1 : Int32) : gM Int32 := (mz v1)
def m12_isSeven_p22 : Nat → Nat → Int32 → Int32 → gM Int32
  | 0, _, _, _ => mf
  | n + 1, v0, v1, v2 => (if (7 : Int32) ≤ v2 then (m12_isSeven_p64 v1) else (if v1 = 0 then (m12_isSeven_p64 v1) else (mb (gGetR [11] v0 9) fun r1 => (mb (gGetI [11] v0 12) fun x2 => (mb (gLdI 100 r1 (x2 + v2)) fun x3 => (mb (gGetR [11] v0 21) fun r4 => (mb (gLdI 100 r4 v2) fun x5 => (if x3 = x5 then (m12_isSeven_p57 (m12_isSeven_p22 n) v0 v2 1) else (m12_isSeven_p57 (m12_isSeven_p22 n) v0 v2 0)))))))))
def m12_isSeven_p19 (v0 : Nat) (s0 : Int32) : gM Int32 := (m12_isSeven_p22 FU v0 s0 0)
def m12_isSeven (v0 : Nat) : gM Int32 := (mb (gGetI [11] v0 13) fun x6 => (mb (gGetI [11] v0 12) fun x7 => (if (x6 - x7) = 7 then (m12_isSeven_p19 v0 1) else (m12_isSeven_p19 v0 0))))
/-- m12_advance -/
def m12_advance_p126 (k73 : Nat → Int32 → gM Unit) (v0 : Nat) (v1 : Int32) (s0 : Nat) (s1 : Int32) : gM Unit := (mb (gPutI [11] s0 14 s1) fun _ => (k73 v0 (v1 + 1)))
def m12_advance_p278 : gM Unit := (mp ())
def m12_advance_p275 (s0 : Nat) (s1 : Int32) : gM Unit := (mb (gPutI [11] s0 14 s1) fun _ => (m12_advance_p278))
def m12_advance_p234 (v0 : Nat) (v1 : Int32) : gM Unit := (mb (gPutI [11] v0 13 v1) fun _ => (mb (gGetI [11] v0 11) fun x1 => (if x1 = 1 then (mb (gGetI [11] v0 13) fun x2 => (mb (gGetI [11] v0 12) fun x3 => (if ((x2 - x3) : Int32) ≤ 6 then (m12_advance_p278) else (mb (mv [11] v0 (m12_isSeven v0)) fun x4 => (if x4 = 0 then (m12_advance_p275 v0 0) else (m12_advance_p275 v0 (-2))))))) else (m12_advance_p278))))
def m12_advance_p73 : Nat → Nat → Int32 → gM Unit
  | 0, _, _ => mf
  | n + 1, v0, v1 => (mb (gGetI [11] v0 10) fun x5 => (if (x5 : Int32) ≤ v1 then (m12_advance_p234 v0 v1) else (mb (gGetR [11] v0 9) fun r6 => (mb (gLdI 100 r6 v1) fun x7 => (mb (m12_isLetter x7) fun x8 => (if x8 = 0 then (m12_advance_p234 v0 v1) else (mb (gGetI [11] v0 12) fun x9 => (if (6 : Int32) ≤ (v1 - x9) then (m12_advance_p126 (m12_advance_p73 n) v0 v1 v0 0) else (mb (gGetI [11] v0 14) fun x10 => (mb (gGetR [11] v0 9) fun r11 => (mb (gLdI 100 r11 v1) fun x12 => (m12_advance_p126 (m12_advance_p73 n) v0 v1 v0 ((((27 : Int32) * x10) + x12) - 96)))))))))))))
def m12_advance_p207 (k152 : Nat → Int32 → gM Unit) (v0 : Nat) (v1 : Int32) (s0 : Nat) (s1 : Int32) : gM Unit := (mb (gPutI [11] s0 14 s1) fun _ => (k152 v0 (v1 + 1)))
def m12_advance_p152 : Nat → Nat → Int32 → gM Unit
  | 0, _, _ => mf
  | n + 1, v0, v1 => (mb (gGetI [11] v0 10) fun x13 => (if (x13 : Int32) ≤ v1 then (m12_advance_p234 v0 v1) else (mb (gGetR [11] v0 9) fun r14 => (mb (gLdI 100 r14 v1) fun x15 => (mb (m12_isDigit x15) fun x16 => (if x16 = 0 then (m12_advance_p234 v0 v1) else (mb (gGetI [11] v0 12) fun x17 => (if (3 : Int32) ≤ (v1 - x17) then (mb (gGetI [11] v0 14) fun x18 => (m12_advance_p207 (m12_advance_p152 n) v0 v1 v0 x18)) else (mb (gGetI [11] v0 14) fun x19 => (mb (gGetR [11] v0 9) fun r20 => (mb (gLdI 100 r20 v1) fun x21 => (m12_advance_p207 (m12_advance_p152 n) v0 v1 v0 ((((10 : Int32) * x19) + x21) - 48)))))))))))))
def m12_advance_p30 (v0 : Nat) (v1 : Int32) : gM Unit := (mb (gPutI [11] v0 12 v1) fun _ => (mb (gPutI [11] v0 14 0) fun _ => (mb (gGetI [11] v0 10) fun x22 => (if v1 = x22 then (mb (gPutI [11] v0 11 0) fun _ => (m12_advance_p234 v0 v1)) else (mb (gGetR [11] v0 9) fun r23 => (mb (gLdI 100 r23 v1) fun x24 => (mb (m12_isLetter x24) fun x25 => (if x25 = 0 then (mb (gGetR [11] v0 9) fun r26 => (mb (gLdI 100 r26 v1) fun x27 => (mb (m12_isDigit x27) fun x28 => (if x28 = 0 then (mb (gPutI [11] v0 11 3) fun _ => (mb (gGetR [11] v0 9) fun r29 => (mb (gLdI 100 r29 v1) fun x30 => (mb (gPutI [11] v0 14 x30) fun _ => (m12_advance_p234 v0 (v1 + 1)))))) else (mb (gPutI [11] v0 11 2) fun _ => (m12_advance_p152 FU v0 v1)))))) else (mb (gPutI [11] v0 11 1) fun _ => (m12_advance_p73 FU v0 v1))))))))))
def m12_advance_p5 : Nat → Nat → Int32 → gM Unit
  | 0, _, _ => mf
  | n + 1, v0, v1 => (mb (gGetI [11] v0 10) fun x31 => (if (x31 : Int32) ≤ v1 then (m12_advance_p30 v0 v1) else (mb (gGetR [11] v0 9) fun r32 => (mb (gLdI 100 r32 v1) fun x33 => (if x33 = 32 then (m12_advance_p5 n v0 (v1 + 1)) else (m12_advance_p30 v0 v1))))))
def m12_advance (v0 : Nat) : gM Unit := (mb (gGetI [11] v0 13) fun x34 => (m12_advance_p5 FU v0 x34))
/-- m12_isGood -/
def m12_isGood_p12 (s0 : Int32) : gM Int32 := (mz s0)
def m12_isGood (v0 : Nat) : gM Int32 := (mb (gGetI [11] v0 15) fun x1 => (if 0 ≤ x1 then (m12_isGood_p12 0) else (m12_isGood_p12 1)))
/-- m12_wrong -/
def m12_wrong_p19 (s0 : Nat) (s1 : Int32) : gM Unit := (mb (gPutI [11] s0 15 s1) fun _ => (mp ()))
def m12_wrong (v0 : Nat) : gM Unit := (mb (gGetI [11] v0 15) fun x1 => (if 0 ≤ x1 then (mb (gGetI [11] v0 15) fun x2 => (m12_wrong_p19 v0 x2)) else (mb (gGetI [11] v0 12) fun x3 => (m12_wrong_p19 v0 x3))))
/-- m12_wantNumber -/
def m12_wantNumber_p53 (v3 : Int32) : gM Int32 := (mp v3)
def m12_wantNumber_p49 (v0 : Nat) (v3 : Int32) : gM Int32 := (mb (mv [11] v0 (m12_wrong v0)) fun _ => (m12_wantNumber_p53 v3))
def m12_wantNumber (v0 : Nat) (v1 : Int32) (v2 : Int32) : gM Int32 := (mb (gGetI [11] v0 14) fun x1 => (mb (mv [11] v0 (m12_isGood v0)) fun x2 => (if x2 = 0 then (m12_wantNumber_p53 x1) else (mb (gGetI [11] v0 11) fun x3 => (if x3 = 2 then (mb (gGetI [11] v0 13) fun x4 => (mb (gGetI [11] v0 12) fun x5 => (if (3 : Int32) < (x4 - x5) then (m12_wantNumber_p49 v0 x1) else (mb (m12_in x1 v1 v2) fun x6 => (if x6 = 0 then (m12_wantNumber_p49 v0 x1) else (mb (mv [11] v0 (m12_advance v0)) fun _ => (m12_wantNumber_p53 x1))))))) else (m12_wantNumber_p49 v0 x1))))))
/-- m12_isWord -/
def m12_isWord_p21 (s0 : Int32) : gM Int32 := (mz s0)
def m12_isWord_p20 : gM Int32 := (m12_isWord_p21 0)
def m12_isWord (v0 : Nat) (v1 : Int32) : gM Int32 := (mb (gGetI [11] v0 11) fun x1 => (if x1 = 1 then (mb (gGetI [11] v0 14) fun x2 => (if x2 = v1 then (m12_isWord_p21 1) else (m12_isWord_p20))) else (m12_isWord_p20)))
/-- m12_isMark -/
def m12_isMark_p21 (s0 : Int32) : gM Int32 := (mz s0)
def m12_isMark_p20 : gM Int32 := (m12_isMark_p21 0)
def m12_isMark (v0 : Nat) (v1 : Int32) : gM Int32 := (mb (gGetI [11] v0 11) fun x1 => (if x1 = 3 then (mb (gGetI [11] v0 14) fun x2 => (if x2 = v1 then (m12_isMark_p21 1) else (m12_isMark_p20))) else (m12_isMark_p20)))
/-- m12_want -/
def m12_want_p22 : gM Unit := (mp ())
def m12_want (v0 : Nat) (v1 : Int32) : gM Unit := (mb (mv [11] v0 (m12_isGood v0)) fun x1 => (if x1 = 0 then (m12_want_p22) else (if v1 = 0 then (mb (mv [11] v0 (m12_wrong v0)) fun _ => (m12_want_p22)) else (mb (mv [11] v0 (m12_advance v0)) fun _ => (m12_want_p22)))))
/-- m12_emit -/
def m12_emit (v0 : Nat) (v1 : Int32) : gM Unit := (mb (gGetR [11] v0 17) fun r1 => (mb (gGetI [11] v0 19) fun x2 => (mb (gStI 100 r1 x2 v1) fun _ => (mb (gGetI [11] v0 19) fun x3 => (mb (gPutI [11] v0 19 (x3 + 1)) fun _ => (mp ()))))))
/-- m12_settle -/
def m12_settle_p64 : gM Unit := (mp ())
def m12_settle_p0 : Nat → Nat → Int32 → gM Unit
  | 0, _, _ => mf
  | n + 1, v0, v1 => (mb (gGetI [11] v0 20) fun x1 => (if x1 ≤ 0 then (m12_settle_p64) else (mb (gGetR [11] v0 18) fun r2 => (mb (gGetI [11] v0 20) fun x3 => (mb (gLdI 100 r2 (x3 - 1)) fun x4 => (if (x4 : Int32) = 10 then (m12_settle_p64) else (mb (gGetR [11] v0 18) fun r5 => (mb (gGetI [11] v0 20) fun x6 => (mb (gLdI 100 r5 (x6 - 1)) fun x7 => (if (v1 : Int32) < x7 then (m12_settle_p64) else (mb (gGetI [11] v0 20) fun x8 => (mb (gPutI [11] v0 20 (x8 - 1)) fun _ => (mb (gGetR [11] v0 18) fun r9 => (mb (gGetI [11] v0 20) fun x10 => (mb (gLdI 100 r9 x10) fun x11 => (mb (mv [11] v0 (m12_emit v0 x11)) fun _ => (m12_settle_p0 n v0 v1)))))))))))))))))
def m12_settle (v0 : Nat) (v1 : Int32) : gM Unit := (m12_settle_p0 FU v0 v1)
/-- m12_hold -/
def m12_hold (v0 : Nat) (v1 : Int32) : gM Unit := (mb (gGetR [11] v0 18) fun r1 => (mb (gGetI [11] v0 20) fun x2 => (mb (gStI 100 r1 x2 v1) fun _ => (mb (gGetI [11] v0 20) fun x3 => (mb (gPutI [11] v0 20 (x3 + 1)) fun _ => (mb (mv [11] v0 (m12_advance v0)) fun _ => (mp ())))))))
/-- m12_factHere -/
def m12_factHere_p80 (s0 : Int32) : gM Int32 := (mp s0)
def m12_factHere (v0 : Nat) : gM Int32 := (mb (mv [11] v0 (m12_isWord v0 332713832)) fun x1 => (if x1 = 0 then (mb (mv [11] v0 (m12_isWord v0 173279)) fun x2 => (if x2 = 0 then (mb (mv [11] v0 (m12_isWord v0 117696460)) fun x3 => (if x3 = 0 then (mb (mv [11] v0 (m12_isWord v0 139109)) fun x4 => (if x4 = 0 then (mb (mv [11] v0 (m12_isWord v0 13596964)) fun x5 => (if x5 = 0 then (mb (mv [11] v0 (m12_isWord v0 (-2))) fun x6 => (if x6 = 0 then (m12_factHere_p80 0) else (m12_factHere_p80 6))) else (m12_factHere_p80 5))) else (m12_factHere_p80 4))) else (m12_factHere_p80 3))) else (m12_factHere_p80 2))) else (m12_factHere_p80 1)))
/-- m12_wantValue -/
def m12_wantValue_p86 : gM Unit := (mp ())
def m12_wantValue_p44 (v0 : Nat) (s0 : Int32) : gM Unit := (if s0 ≤ 0 then (mb (mv [11] v0 (m12_wantNumber v0 0 999)) fun x1 => (mb (mv [11] v0 (m12_isGood v0)) fun x2 => (if x2 = 0 then (m12_wantValue_p86) else (mb (mv [11] v0 (m12_emit v0 ((1000 : Int32) + x1))) fun _ => (m12_wantValue_p86))))) else (mb (mv [11] v0 (m12_emit v0 s0)) fun _ => (mb (mv [11] v0 (m12_advance v0)) fun _ => (m12_wantValue_p86))))
def m12_wantValue (v0 : Nat) : gM Unit := (mb (mv [11] v0 (m12_isWord v0 237742039)) fun x3 => (if x3 = 0 then (mb (mv [11] v0 (m12_isWord v0 223456)) fun x4 => (if x4 = 0 then (mb (mv [11] v0 (m12_isWord v0 923)) fun x5 => (if x5 = 0 then (m12_wantValue_p44 v0 0) else (m12_wantValue_p44 v0 13))) else (m12_wantValue_p44 v0 12))) else (m12_wantValue_p44 v0 11)))
/-- m12_wantSum -/
def m12_wantSum_p44 : gM Unit := (mp ())
def m12_wantSum_p4 : Nat → Nat → gM Unit
  | 0, _ => mf
  | n + 1, v0 => (mb (mv [11] v0 (m12_isGood v0)) fun x1 => (if x1 = 0 then (m12_wantSum_p44) else (mb (mv [11] v0 (m12_isMark v0 43)) fun x2 => (if x2 = 0 then (m12_wantSum_p44) else (mb (mv [11] v0 (m12_advance v0)) fun _ => (mb (mv [11] v0 (m12_wantValue v0)) fun _ => (mb (mv [11] v0 (m12_isGood v0)) fun x3 => (if x3 = 0 then (m12_wantSum_p4 n v0) else (mb (mv [11] v0 (m12_emit v0 14)) fun _ => (m12_wantSum_p4 n v0))))))))))
def m12_wantSum (v0 : Nat) : gM Unit := (mb (mv [11] v0 (m12_wantValue v0)) fun _ => (m12_wantSum_p4 FU v0))
/-- m12_wantAsk -/
def m12_wantAsk_p103 : gM Unit := (mp ())
def m12_wantAsk_p91 (v0 : Nat) (v2 : Int32) : gM Unit := (mb (mv [11] v0 (m12_isGood v0)) fun x1 => (if x1 = 0 then (m12_wantAsk_p103) else (mb (mv [11] v0 (m12_emit v0 v2)) fun _ => (m12_wantAsk_p103))))
def m12_wantAsk_p77 (v0 : Nat) (v2 : Int32) (s0 : Nat) (s1 : Int32) : gM Unit := (mb (mv [11] s0 (m12_want s0 s1)) fun _ => (mb (mv [11] v0 (m12_isGood v0)) fun x2 => (if x2 = 0 then (m12_wantAsk_p91 v0 v2) else (mb (mv [11] v0 (m12_wantSum v0)) fun _ => (m12_wantAsk_p91 v0 v2)))))
def m12_wantAsk_p66 (v0 : Nat) (s0 : Int32) : gM Unit := (if s0 ≤ 0 then (m12_wantAsk_p77 v0 s0 v0 0) else (m12_wantAsk_p77 v0 s0 v0 1))
def m12_wantAsk (v0 : Nat) : gM Unit := (mb (mv [11] v0 (m12_factHere v0)) fun x3 => (if x3 ≤ 0 then (mb (mv [11] v0 (m12_wantSum v0)) fun _ => (mb (mv [11] v0 (m12_isMark v0 60)) fun x4 => (if x4 = 0 then (mb (mv [11] v0 (m12_isMark v0 61)) fun x5 => (if x5 = 0 then (mb (mv [11] v0 (m12_isMark v0 62)) fun x6 => (if x6 = 0 then (m12_wantAsk_p66 v0 0) else (m12_wantAsk_p66 v0 17))) else (m12_wantAsk_p66 v0 16))) else (m12_wantAsk_p66 v0 15)))) else (mb (mv [11] v0 (m12_emit v0 x3)) fun _ => (mb (mv [11] v0 (m12_advance v0)) fun _ => (mp ())))))
/-- m12_wantCond -/
def m12_wantCond_p130 (k11 : Nat → Int32 → Int32 → Int32 → gM Unit) (v0 : Nat) (v1 : Int32) (v3 : Int32) (s0 : Int32) : gM Unit := (mb (mv [11] v0 (m12_settle v0 s0)) fun _ => (mb (mv [11] v0 (m12_hold v0 s0)) fun _ => (k11 v0 v1 1 v3)))
def m12_wantCond_p113 (k11 : Nat → Int32 → Int32 → Int32 → gM Unit) (v0 : Nat) (v1 : Int32) (v3 : Int32) : gM Unit := (mb (mv [11] v0 (m12_isWord v0 1111)) fun x1 => (if x1 = 0 then (m12_wantCond_p130 k11 v0 v1 v3 9) else (m12_wantCond_p130 k11 v0 v1 v3 8)))
def m12_wantCond_p196 (v0 : Nat) : gM Unit := (mb (mv [11] v0 (m12_settle v0 9)) fun _ => (mp ()))
def m12_wantCond_p11 : Nat → Nat → Int32 → Int32 → Int32 → gM Unit
  | 0, _, _, _, _ => mf
  | n + 1, v0, v1, v2, v3 => (if v3 = 0 then (m12_wantCond_p196 v0) else (mb (mv [11] v0 (m12_isGood v0)) fun x2 => (if x2 = 0 then (m12_wantCond_p196 v0) else (if v2 = 0 then (mb (mv [11] v0 (m12_isWord v0 1111)) fun x3 => (if x3 = 0 then (mb (mv [11] v0 (m12_isWord v0 423)) fun x4 => (if x4 = 0 then (if v1 ≤ 0 then (m12_wantCond_p11 n v0 v1 v2 0) else (mb (mv [11] v0 (m12_settle v0 9)) fun _ => (mb (gGetI [11] v0 20) fun x5 => (mb (gPutI [11] v0 20 (x5 - 1)) fun _ => (mb (mv [11] v0 (m12_isMark v0 41)) fun x6 => (mb (mv [11] v0 (m12_want v0 x6)) fun _ => (mb (mv [11] v0 (m12_settle v0 7)) fun _ => (m12_wantCond_p11 n v0 (v1 + (-1)) v2 v3)))))))) else (m12_wantCond_p113 (m12_wantCond_p11 n) v0 v1 v3))) else (m12_wantCond_p113 (m12_wantCond_p11 n) v0 v1 v3))) else (mb (mv [11] v0 (m12_isWord v0 10631)) fun x7 => (if x7 = 0 then (mb (mv [11] v0 (m12_isMark v0 40)) fun x8 => (if x8 = 0 then (mb (mv [11] v0 (m12_wantAsk v0)) fun _ => (mb (mv [11] v0 (m12_settle v0 7)) fun _ => (m12_wantCond_p11 n v0 v1 0 v3))) else (if v1 = 4 then (mb (mv [11] v0 (m12_wrong v0)) fun _ => (m12_wantCond_p11 n v0 v1 v2 v3)) else (mb (mv [11] v0 (m12_hold v0 10)) fun _ => (m12_wantCond_p11 n v0 (v1 + 1) v2 v3))))) else (mb (mv [11] v0 (m12_hold v0 7)) fun _ => (m12_wantCond_p11 n v0 v1 v2 v3))))))))
def m12_wantCond (v0 : Nat) : gM Unit := (mb (gPutI [11] v0 20 0) fun _ => (m12_wantCond_p11 FU v0 0 1 1))
/-- m12_sortHere -/
def m12_sortHere_p32 (s0 : Int32) : gM Int32 := (mp s0)
def m12_sortHere_p18 (v0 : Nat) : gM Int32 := (mb (mv [11] v0 (m12_isWord v0 4075709)) fun x1 => (if x1 = 0 then (m12_sortHere_p32 1) else (m12_sortHere_p32 0)))
def m12_sortHere_p67 (s0 : Int32) : gM Int32 := (mp s0)
def m12_sortHere_p52 (v0 : Nat) : gM Int32 := (mb (mv [11] v0 (m12_isWord v0 11263)) fun x2 => (if x2 = 0 then (m12_sortHere_p67 3) else (m12_sortHere_p67 2)))
def m12_sortHere_p102 (s0 : Int32) : gM Int32 := (mp s0)
def m12_sortHere_p87 (v0 : Nat) : gM Int32 := (mb (mv [11] v0 (m12_isWord v0 583)) fun x3 => (if x3 = 0 then (m12_sortHere_p102 5) else (m12_sortHere_p102 4)))
def m12_sortHere_p132 (s0 : Int32) : gM Int32 := (mp s0)
def m12_sortHere (v0 : Nat) : gM Int32 := (mb (mv [11] v0 (m12_isWord v0 4075709)) fun x4 => (if x4 = 0 then (mb (mv [11] v0 (m12_isWord v0 237742039)) fun x5 => (if x5 = 0 then (mb (mv [11] v0 (m12_isWord v0 11263)) fun x6 => (if x6 = 0 then (mb (mv [11] v0 (m12_isWord v0 9596021)) fun x7 => (if x7 = 0 then (mb (mv [11] v0 (m12_isWord v0 583)) fun x8 => (if x8 = 0 then (mb (mv [11] v0 (m12_isWord v0 90302)) fun x9 => (if x9 = 0 then (mb (mv [11] v0 (m12_isWord v0 31735670)) fun x10 => (if x10 = 0 then (mb (mv [11] v0 (m12_isWord v0 40187)) fun x11 => (if x11 = 0 then (m12_sortHere_p132 (-1)) else (m12_sortHere_p132 7))) else (m12_sortHere_p132 6))) else (m12_sortHere_p87 v0))) else (m12_sortHere_p87 v0))) else (m12_sortHere_p52 v0))) else (m12_sortHere_p52 v0))) else (m12_sortHere_p18 v0))) else (m12_sortHere_p18 v0)))
/-- m12_wantLine -/
def m12_wantLine_p15 (v0 : Nat) : gM Unit := (mb (mv [11] v0 (m12_wrong v0)) fun _ => (mp ()))
def m12_wantLine_p269 (v0 : Nat) (v3 : Int32) : gM Unit := (mb (gGetR [11] v0 16) fun r1 => (mb (gGetI [11] v0 19) fun x2 => (mb (gGetR [11] v0 16) fun r3 => (mb (gLdI 100 r3 (v3 + 5)) fun x4 => (mb (gStI 100 r1 (v3 + 6) (x2 - x4)) fun _ => (mb (mv [11] v0 (m12_isMark v0 59)) fun x5 => (mb (mv [11] v0 (m12_want v0 x5)) fun _ => (mp ()))))))))
def m12_wantLine_p96 (v0 : Nat) (v3 : Int32) : gM Unit := (mb (gGetR [11] v0 16) fun r6 => (mb (mv [11] v0 (m12_wantNumber v0 0 5)) fun x7 => (mb (gStI 100 r6 (v3 + 1) x7) fun _ => (mb (gGetR [11] v0 16) fun r8 => (mb (mv [11] v0 (m12_wantNumber v0 0 9)) fun x9 => (mb (gStI 100 r8 (v3 + 2) x9) fun _ => (m12_wantLine_p269 v0 v3)))))))
def m12_wantLine_p253 (v0 : Nat) (v3 : Int32) (s0 : Nat) (s1 : Int32) (s2 : Int32) : gM Unit := (mb (gStI 100 s0 s1 s2) fun _ => (mb (mv [11] v0 (m12_isWord v0 249)) fun x10 => (mb (mv [11] v0 (m12_want v0 x10)) fun _ => (mb (mv [11] v0 (m12_wantCond v0)) fun _ => (m12_wantLine_p269 v0 v3)))))
def m12_wantLine_p230 (v0 : Nat) (v2 : Int32) (v3 : Int32) : gM Unit := (mb (gGetR [11] v0 16) fun r11 => (if v2 = 6 then (m12_wantLine_p253 v0 v3 r11 (v3 + 1) 0) else (mb (mv [11] v0 (m12_wantNumber v0 0 4)) fun x12 => (m12_wantLine_p253 v0 v3 r11 (v3 + 1) x12))))
def m12_wantLine (v0 : Nat) (v1 : Int32) : gM Unit := (mb (mv [11] v0 (m12_sortHere v0)) fun x13 => (if x13 < 0 then (m12_wantLine_p15 v0) else (if v1 = 12 then (m12_wantLine_p15 v0) else (mb (mv [11] v0 (m12_advance v0)) fun _ => (mb (gGetR [11] v0 16) fun r14 => (mb (gStI 100 r14 ((7 : Int32) * v1) x13) fun _ => (mb (gGetR [11] v0 16) fun r15 => (mb (gGetI [11] v0 19) fun x16 => (mb (gStI 100 r15 (((7 : Int32) * v1) + 5) x16) fun _ => (if x13 = 0 then (m12_wantLine_p96 v0 ((7 : Int32) * v1)) else (if x13 = 1 then (m12_wantLine_p96 v0 ((7 : Int32) * v1)) else (if x13 = 2 then (mb (gGetR [11] v0 16) fun r29 => (mb (mv [11] v0 (m12_wantNumber v0 0 90)) fun x30 => (mb (gStI 100 r29 (((7 : Int32) * v1) + 1) x30) fun _ => (m12_wantLine_p269 v0 ((7 : Int32) * v1))))) else (if x13 = 3 then (mb (gGetR [11] v0 16) fun r18 => (mb (mv [11] v0 (m12_wantNumber v0 0 4)) fun x19 => (mb (gStI 100 r18 (((7 : Int32) * v1) + 1) x19) fun _ => (mb (gGetR [11] v0 16) fun r20 => (mb (mv [11] v0 (m12_wantNumber v0 0 3)) fun x21 => (mb (gStI 100 r20 (((7 : Int32) * v1) + 2) x21) fun _ => (mb (gGetR [11] v0 16) fun r22 => (mb (mv [11] v0 (m12_wantNumber v0 0 240)) fun x23 => (mb (gStI 100 r22 (((7 : Int32) * v1) + 3) x23) fun _ => (mb (mv [11] v0 (m12_isWord v0 555)) fun x24 => (mb (mv [11] v0 (m12_want v0 x24)) fun _ => (mb (gGetR [11] v0 16) fun r25 => (mb (gGetR [11] v0 16) fun r26 => (mb (gLdI 100 r26 (((7 : Int32) * v1) + 3)) fun x27 => (mb (mv [11] v0 (m12_wantNumber v0 x27 240)) fun x28 => (mb (gStI 100 r25 (((7 : Int32) * v1) + 4) x28) fun _ => (m12_wantLine_p269 v0 ((7 : Int32) * v1)))))))))))))))))) else (if x13 = 4 then (m12_wantLine_p230 v0 x13 ((7 : Int32) * v1)) else (if x13 = 5 then (m12_wantLine_p230 v0 x13 ((7 : Int32) * v1)) else (if x13 = 6 then (m12_wantLine_p230 v0 x13 ((7 : Int32) * v1)) else (if x13 = 7 then (m12_wantLine_p269 v0 ((7 : Int32) * v1)) else (m12_wantLine_p230 v0 x13 ((7 : Int32) * v1)))))))))))))))))))
/-- m12_read -/
def m12_read_p142 : Nat → Nat → Int32 → Int32 → gM Int32
  | 0, _, _, _ => mf
  | n + 1, v0, v2, v3 => (mb (gGetI [11] v0 19) fun x1 => (if (x1 : Int32) ≤ v3 then (mb (gGetR [11] v0 0) fun r2 => (mb (gLdI 100 r2 4) fun x3 => (mb (gStI 100 r2 4 (x3 + 1)) fun _ => (mp v2)))) else (mb (gGetR [11] v0 6) fun r4 => (mb (gGetR [11] v0 17) fun r5 => (mb (gLdI 100 r5 v3) fun x6 => (mb (gStI 100 r4 (((260 : Int32) * v2) + v3) x6) fun _ => (m12_read_p142 n v0 v2 (v3 + 1))))))))
def m12_read_p109 : Nat → Nat → Int32 → Int32 → Int32 → gM Int32
  | 0, _, _, _, _ => mf
  | n + 1, v0, v1, v2, v3 => (if (((7 : Int32) * v1) : Int32) ≤ v3 then (m12_read_p142 FU v0 v2 0) else (mb (gGetR [11] v0 5) fun r7 => (mb (gGetR [11] v0 16) fun r8 => (mb (gLdI 100 r8 v3) fun x9 => (mb (gStI 100 r7 (((84 : Int32) * v2) + v3) x9) fun _ => (m12_read_p109 n v0 v1 v2 (v3 + 1)))))))
def m12_read_p46 (v0 : Nat) (v1 : Int32) : gM Int32 := (mb (gPutI [11] v0 10 0) fun _ => (mb (mv [11] v0 (m12_isGood v0)) fun x10 => (if x10 = 0 then (mb (gGetI [11] v0 15) fun x17 => (mp (((-100) : Int32) - x17))) else (mb (gGetR [11] v0 0) fun r11 => (mb (gLdI 100 r11 4) fun x12 => (if x12 = 6 then (mp (-2)) else (mb (gGetR [11] v0 4) fun r13 => (mb (gStI 100 r13 ((2 : Int32) * x12) v1) fun _ => (mb (gGetR [11] v0 4) fun r14 => (mb (gGetR [11] v0 0) fun r15 => (mb (gLdI 100 r15 0) fun x16 => (mb (gStI 100 r14 (((2 : Int32) * x12) + 1) x16) fun _ => (m12_read_p109 FU v0 v1 x12 0)))))))))))))
def m12_read_p21 : Nat → Nat → Int32 → gM Int32
  | 0, _, _ => mf
  | n + 1, v0, v1 => (mb (gGetI [11] v0 11) fun x18 => (if x18 = 0 then (m12_read_p46 v0 v1) else (mb (mv [11] v0 (m12_isGood v0)) fun x19 => (if x19 = 0 then (m12_read_p46 v0 v1) else (mb (mv [11] v0 (m12_wantLine v0 v1)) fun _ => (m12_read_p21 n v0 (v1 + 1)))))))
def m12_read (v0 : Nat) : gM Int32 := (mb (gPutI [11] v0 15 (-1)) fun _ => (mb (gPutI [11] v0 13 0) fun _ => (mb (gPutI [11] v0 19 0) fun _ => (mb (mv [11] v0 (m12_advance v0)) fun _ => (m12_read_p21 FU v0 0)))))
/-- m12_ofLine -/
def m12_ofLine (v0 : Nat) (v1 : Int32) (v2 : Int32) (v3 : Int32) : gM Int32 := (mb (gGetR [11] v0 5) fun r1 => (mb (gLdI 100 r1 ((((84 : Int32) * v1) + ((7 : Int32) * v2)) + v3)) fun x2 => (mp x2)))
/-- m12_looksBack -/
def m12_looksBack_p37 (k4 : Nat → Int32 → Int32 → Int32 → gM Int32) (v0 : Nat) (v1 : Int32) (v3 : Int32) (s0 : Int32) : gM Int32 := (k4 v0 v1 s0 (v3 + 1))
def m12_looksBack_p32 (k4 : Nat → Int32 → Int32 → Int32 → gM Int32) (v0 : Nat) (v1 : Int32) (v3 : Int32) : gM Int32 := (m12_looksBack_p37 k4 v0 v1 v3 1)
def m12_looksBack_p4 : Nat → Nat → Int32 → Int32 → Int32 → gM Int32
  | 0, _, _, _, _ => mf
  | n + 1, v0, v1, v2, v3 => (mb (gGetR [11] v0 4) fun r1 => (mb (gLdI 100 r1 ((2 : Int32) * v1)) fun x2 => (if (x2 : Int32) ≤ v3 then (mz v2) else (if v2 = 0 then (mb (mv [11] v0 (m12_ofLine v0 v1 v3 0)) fun x3 => (if x3 = 7 then (m12_looksBack_p32 (m12_looksBack_p4 n) v0 v1 v3) else (m12_looksBack_p37 (m12_looksBack_p4 n) v0 v1 v3 0))) else (m12_looksBack_p32 (m12_looksBack_p4 n) v0 v1 v3)))))
def m12_looksBack (v0 : Nat) (v1 : Int32) : gM Int32 := (m12_looksBack_p4 FU v0 v1 0 0)
/-- m12_version -/
def m12_version_p36 (v0 : Nat) (v1 : Int32) (v2 : Int32) : gM Int32 := (mb (gGetR [11] v0 4) fun r1 => (mb (gLdI 100 r1 (((2 : Int32) * v1) + v2)) fun x2 => (mp x2)))
def m12_version_p60 (s0 : Int32) : gM Int32 := (mp s0)
def m12_version_p95 (s0 : Int32) : gM Int32 := (mp s0)
def m12_version (v0 : Nat) (v1 : Int32) (v2 : Int32) : gM Int32 := (mb (mv [11] v0 (m12_isVersion v0 v1)) fun x3 => (if x3 = 0 then (mp (-1)) else (if v2 = 0 then (m12_version_p36 v0 v1 v2) else (if v2 = 1 then (m12_version_p36 v0 v1 v2) else (if v2 = 2 then (mb (mv [11] v0 (m12_looksBack v0 v1)) fun x9 => (if x9 = 0 then (m12_version_p60 0) else (m12_version_p60 1))) else (mb (gGetR [11] v0 4) fun r4 => (mb (gLdI 100 r4 ((2 : Int32) * v1)) fun x5 => (mb (m12_in v2 10 ((9 : Int32) + x5)) fun x6 => (if x6 = 0 then (m12_version_p95 (-1)) else (mb (mv [11] v0 (m12_ofLine v0 v1 (v2 - 10) 0)) fun x7 => (m12_version_p95 x7)))))))))))
/-- m12_lawOf -/
def m12_lawOf_p81 (k8 : Nat → Int32 → Int32 → Int32 → Int32 → Int32 → gM Int32) (v0 : Nat) (v1 : Int32) (v2 : Int32) (v3 : Int32) (v5 : Int32) (s0 : Int32) : gM Int32 := (k8 v0 v1 v2 v3 s0 (v5 + 1))
def m12_lawOf_p79 (k8 : Nat → Int32 → Int32 → Int32 → Int32 → Int32 → gM Int32) (v0 : Nat) (v1 : Int32) (v2 : Int32) (v3 : Int32) (v4 : Int32) (v5 : Int32) : gM Int32 := (m12_lawOf_p81 k8 v0 v1 v2 v3 v5 v4)
def m12_lawOf_p48 (k8 : Nat → Int32 → Int32 → Int32 → Int32 → Int32 → gM Int32) (v0 : Nat) (v1 : Int32) (v2 : Int32) (v4 : Int32) (v5 : Int32) (v6 : Int32) (s0 : Int32) : gM Int32 := (mb (mv [11] v0 (m12_dayOf v0 v1)) fun x1 => (if (v6 : Int32) ≤ x1 then (m12_lawOf_p79 k8 v0 v1 v2 s0 v4 v5) else (if (v2 : Int32) < v6 then (m12_lawOf_p79 k8 v0 v1 v2 s0 v4 v5) else (mb (mv [11] v0 (m12_looksBack v0 v5)) fun x2 => (if x2 = 0 then (m12_lawOf_p79 k8 v0 v1 v2 s0 v4 v5) else (m12_lawOf_p81 k8 v0 v1 v2 s0 v5 v5))))))
def m12_lawOf_p100 (s0 : Int32) : gM Int32 := (mp s0)
def m12_lawOf_p8 : Nat → Nat → Int32 → Int32 → Int32 → Int32 → Int32 → gM Int32
  | 0, _, _, _, _, _, _ => mf
  | n + 1, v0, v1, v2, v3, v4, v5 => (mb (gGetR [11] v0 0) fun r3 => (mb (gLdI 100 r3 4) fun x4 => (if (x4 : Int32) ≤ v5 then (if v4 < 0 then (m12_lawOf_p100 v3) else (m12_lawOf_p100 v4)) else (mb (gGetR [11] v0 4) fun r5 => (mb (gLdI 100 r5 (((2 : Int32) * v5) + 1)) fun x6 => (mb (mv [11] v0 (m12_dayOf v0 v1)) fun x7 => (if (x7 : Int32) < x6 then (m12_lawOf_p48 (m12_lawOf_p8 n) v0 v1 v2 v4 v5 x6 v3) else (m12_lawOf_p48 (m12_lawOf_p8 n) v0 v1 v2 v4 v5 x6 v5))))))))
def m12_lawOf (v0 : Nat) (v1 : Int32) (v2 : Int32) : gM Int32 := (m12_lawOf_p8 FU v0 v1 v2 (-1) (-1) 0)
/-- m12_law -/
def m12_law_p37 (s0 : Int32) : gM Int32 := (mp s0)
def m12_law_p36 : gM Int32 := (m12_law_p37 (-1))
def m12_law (v0 : Nat) (v1 : Int32) (v2 : Int32) : gM Int32 := (mb (mv [11] v0 (m12_isDeed v0 v1)) fun x1 => (if x1 = 0 then (m12_law_p36) else (mb (m12_isDay v2) fun x2 => (if x2 = 0 then (m12_law_p36) else (mb (mv [11] v0 (m12_dayOf v0 v1)) fun x3 => (if (v2 : Int32) < x3 then (m12_law_p36) else (mb (mv [11] v0 (m12_lawOf v0 v1 v2)) fun x4 => (mb (m12_orNone x4) fun x5 => (m12_law_p37 x5)))))))))
/-- m12_toldOf -/
def m12_toldOf_p56 (k6 : Nat → Int32 → Int32 → Int32 → Int32 → Int32 → gM Int32) (v0 : Nat) (v1 : Int32) (v2 : Int32) (v3 : Int32) (v5 : Int32) (s0 : Int32) : gM Int32 := (k6 v0 v1 v2 v3 s0 (v5 + 1))
def m12_toldOf_p54 (k6 : Nat → Int32 → Int32 → Int32 → Int32 → Int32 → gM Int32) (v0 : Nat) (v1 : Int32) (v2 : Int32) (v3 : Int32) (v4 : Int32) (v5 : Int32) : gM Int32 := (m12_toldOf_p56 k6 v0 v1 v2 v3 v5 v4)
def m12_toldOf_p6 : Nat → Nat → Int32 → Int32 → Int32 → Int32 → Int32 → gM Int32
  | 0, _, _, _, _, _, _ => mf
  | n + 1, v0, v1, v2, v3, v4, v5 => (mb (gGetR [11] v0 4) fun r1 => (mb (gLdI 100 r1 ((2 : Int32) * v1)) fun x2 => (if (x2 : Int32) ≤ v5 then (mp v4) else (mb (mv [11] v0 (m12_ofLine v0 v1 v5 0)) fun x3 => (if x3 = v2 then (mb (mv [11] v0 (m12_ofLine v0 v1 v5 1)) fun x4 => (if x4 = v3 then (mb (mv [11] v0 (m12_ofLine v0 v1 v5 2)) fun x5 => (m12_toldOf_p56 (m12_toldOf_p6 n) v0 v1 v2 v3 v5 x5)) else (m12_toldOf_p54 (m12_toldOf_p6 n) v0 v1 v2 v3 v4 v5))) else (m12_toldOf_p54 (m12_toldOf_p6 n) v0 v1 v2 v3 v4 v5))))))
def m12_toldOf (v0 : Nat) (v1 : Int32) (v2 : Int32) (v3 : Int32) : gM Int32 := (m12_toldOf_p6 FU v0 v1 v2 v3 0 0)
/-- m12_oldOf -/
def m12_oldOf_p39 (k5 : Nat → Int32 → Int32 → Int32 → gM Int32) (v0 : Nat) (v1 : Int32) (v3 : Int32) (s0 : Int32) : gM Int32 := (k5 v0 v1 s0 (v3 + 1))
def m12_oldOf_p5 : Nat → Nat → Int32 → Int32 → Int32 → gM Int32
  | 0, _, _, _, _ => mf
  | n + 1, v0, v1, v2, v3 => (mb (gGetR [11] v0 4) fun r1 => (mb (gLdI 100 r1 ((2 : Int32) * v1)) fun x2 => (if (x2 : Int32) ≤ v3 then (mp v2) else (mb (mv [11] v0 (m12_ofLine v0 v1 v3 0)) fun x3 => (if x3 = 2 then (mb (mv [11] v0 (m12_ofLine v0 v1 v3 1)) fun x4 => (m12_oldOf_p39 (m12_oldOf_p5 n) v0 v1 v3 x4)) else (m12_oldOf_p39 (m12_oldOf_p5 n) v0 v1 v3 v2))))))
def m12_oldOf (v0 : Nat) (v1 : Int32) : gM Int32 := (m12_oldOf_p5 FU v0 v1 90 0)
/-- m12_pointsOf -/
def m12_pointsOf_p139 (k13 : Nat → Int32 → Int32 → Int32 → Int32 → Int32 → Int32 → gM Int32) (v0 : Nat) (v1 : Int32) (v2 : Int32) (v3 : Int32) (v5 : Int32) (v6 : Int32) (s0 : Int32) (s1 : Int32) : gM Int32 := (k13 v0 v1 v2 v3 (s0 + s1) v5 (v6 + 1))
def m12_pointsOf_p109 (k13 : Nat → Int32 → Int32 → Int32 → Int32 → Int32 → Int32 → gM Int32) (v0 : Nat) (v1 : Int32) (v2 : Int32) (v3 : Int32) (v4 : Int32) (v5 : Int32) (v6 : Int32) (s0 : Int32) : gM Int32 := (if s0 = 0 then (m12_pointsOf_p139 k13 v0 v1 v2 v3 v5 v6 v4 0) else (mb (gGetR [11] v0 2) fun r1 => (mb (gLdI 100 r1 (((3 : Int32) * v6) + 1)) fun x2 => (mb (mv [11] v0 (m12_toldOf v0 v2 1 x2)) fun x3 => (m12_pointsOf_p139 k13 v0 v1 v2 v3 v5 v6 v4 x3)))))
def m12_pointsOf_p108 (k13 : Nat → Int32 → Int32 → Int32 → Int32 → Int32 → Int32 → gM Int32) (v0 : Nat) (v1 : Int32) (v2 : Int32) (v3 : Int32) (v4 : Int32) (v5 : Int32) (v6 : Int32) : gM Int32 := (m12_pointsOf_p109 k13 v0 v1 v2 v3 v4 v5 v6 0)
def m12_pointsOf_p61 (k13 : Nat → Int32 → Int32 → Int32 → Int32 → Int32 → Int32 → gM Int32) (v0 : Nat) (v1 : Int32) (v2 : Int32) (v3 : Int32) (v4 : Int32) (v5 : Int32) (v6 : Int32) (s0 : Int32) : gM Int32 := (if s0 < 0 then (m12_pointsOf_p108 k13 v0 v1 v2 v3 v4 v5 v6) else (mb (mv [11] v0 (m12_of v0 s0 5)) fun x4 => (mb (mv [11] v0 (m12_dayOf v0 v1)) fun x5 => (if (x5 : Int32) ≤ x4 then (m12_pointsOf_p108 k13 v0 v1 v2 v3 v4 v5 v6) else (mb (mv [11] v0 (m12_dayOf v0 v1)) fun x6 => (mb (mv [11] v0 (m12_dayOf v0 v6)) fun x7 => (if (((360 : Int32) * v5) : Int32) < (x6 - x7) then (m12_pointsOf_p108 k13 v0 v1 v2 v3 v4 v5 v6) else (m12_pointsOf_p109 k13 v0 v1 v2 v3 v4 v5 v6 1))))))))
def m12_pointsOf_p60 (k13 : Nat → Int32 → Int32 → Int32 → Int32 → Int32 → Int32 → gM Int32) (v0 : Nat) (v1 : Int32) (v2 : Int32) (v3 : Int32) (v4 : Int32) (v5 : Int32) (v6 : Int32) : gM Int32 := (m12_pointsOf_p61 k13 v0 v1 v2 v3 v4 v5 v6 (-1))
def m12_pointsOf_p13 : Nat → Nat → Int32 → Int32 → Int32 → Int32 → Int32 → Int32 → gM Int32
  | 0, _, _, _, _, _, _, _ => mf
  | n + 1, v0, v1, v2, v3, v4, v5, v6 => (mb (gGetR [11] v0 0) fun r8 => (mb (gLdI 100 r8 2) fun x9 => (if (x9 : Int32) ≤ v6 then (mp v4) else (if (v6 : Int32) = v1 then (m12_pointsOf_p60 (m12_pointsOf_p13 n) v0 v1 v2 v3 v4 v5 v6) else (mb (gGetR [11] v0 2) fun r10 => (mb (gLdI 100 r10 ((3 : Int32) * v6)) fun x11 => (mb (gGetR [11] v0 2) fun r12 => (mb (gLdI 100 r12 ((3 : Int32) * v1)) fun x13 => (if x11 = x13 then (mb (mv [11] v0 (m12_termOf v0 v6 v3)) fun x14 => (m12_pointsOf_p61 (m12_pointsOf_p13 n) v0 v1 v2 v3 v4 v5 v6 x14)) else (m12_pointsOf_p60 (m12_pointsOf_p13 n) v0 v1 v2 v3 v4 v5 v6))))))))))
def m12_pointsOf (v0 : Nat) (v1 : Int32) (v2 : Int32) (v3 : Int32) : gM Int32 := (mb (mv [11] v0 (m12_oldOf v0 v2)) fun x15 => (m12_pointsOf_p13 FU v0 v1 v2 v3 0 x15 0))
/-- m12_valueOf -/
def m12_valueOf_p65 (s0 : Int32) : gM Int32 := (mp s0)
def m12_valueOf_p80 (s0 : Int32) : gM Int32 := (mp s0)
def m12_valueOf_p128 (s0 : Int32) : gM Int32 := (mp s0)
def m12_valueOf_p101 (v0 : Nat) (v1 : Int32) (v2 : Int32) (v3 : Int32) : gM Int32 := (if (v1 : Int32) < 1000 then (mb (mv [11] v0 (m12_factsOf v0 v2 v3)) fun x1 => (m12_valueOf_p128 ((x1 >>> ((v1 - 1) &&& 31)) &&& 1))) else (m12_valueOf_p128 (v1 - 1000)))
def m12_valueOf (v0 : Nat) (v1 : Int32) (v2 : Int32) (v3 : Int32) (v4 : Int32) : gM Int32 := (if v1 = 5 then (mb (mv [11] v0 (m12_isYoung v0 v2)) fun x7 => (if x7 = 0 then (m12_valueOf_p65 0) else (m12_valueOf_p65 1))) else (if v1 = 6 then (mb (mv [11] v0 (m12_isPleaded v0 v2 v3)) fun x6 => (if x6 = 0 then (m12_valueOf_p80 0) else (m12_valueOf_p80 1))) else (if v1 = 7 then (m12_valueOf_p101 v0 v1 v2 v3) else (if v1 = 8 then (m12_valueOf_p101 v0 v1 v2 v3) else (if v1 = 9 then (m12_valueOf_p101 v0 v1 v2 v3) else (if v1 = 10 then (m12_valueOf_p101 v0 v1 v2 v3) else (if v1 = 11 then (mp v4) else (if v1 = 12 then (mb (gGetR [11] v0 2) fun r4 => (mb (gLdI 100 r4 (((3 : Int32) * v2) + 1)) fun x5 => (mp x5))) else (if v1 = 13 then (mb (mv [11] v0 (m12_ageAt v0 v2)) fun x3 => (mp x3)) else (m12_valueOf_p101 v0 v1 v2 v3))))))))))
/-- m12_joined -/
def m12_joined_p74 (s0 : Int32) : gM Int32 := (mp s0)
def m12_joined_p85 (s0 : Int32) : gM Int32 := (mp s0)
def m12_joined_p96 (s0 : Int32) : gM Int32 := (mp s0)
def m12_joined_p86 (v1 : Int32) (v2 : Int32) : gM Int32 := (if (v1 : Int32) ≤ v2 then (m12_joined_p96 0) else (m12_joined_p96 1))
def m12_joined (v0 : Int32) (v1 : Int32) (v2 : Int32) : gM Int32 := (if v0 = 8 then (mp (v1 &&& v2)) else (if v0 = 9 then (mp (v1 ||| v2)) else (if v0 = 10 then (m12_joined_p86 v1 v2) else (if v0 = 11 then (m12_joined_p86 v1 v2) else (if v0 = 12 then (m12_joined_p86 v1 v2) else (if v0 = 13 then (m12_joined_p86 v1 v2) else (if v0 = 14 then (mp (v1 + v2)) else (if v0 = 15 then (if (v2 : Int32) ≤ v1 then (m12_joined_p74 0) else (m12_joined_p74 1)) else (if v0 = 16 then (if v1 = v2 then (m12_joined_p85 1) else (m12_joined_p85 0)) else (m12_joined_p86 v1 v2))))))))))
/-- m12_joins -/
def m12_joins_p28 (s0 : Int32) : gM Int32 := (mz s0)
def m12_joins_p23 : gM Int32 := (m12_joins_p28 1)
def m12_joins (v0 : Int32) : gM Int32 := (if (v0 : Int32) = 8 then (m12_joins_p23) else (if (v0 : Int32) = 9 then (m12_joins_p23) else (mb (m12_in v0 14 17) fun x1 => (if x1 = 0 then (m12_joins_p28 0) else (m12_joins_p23)))))
/-- m12_holds -/
def m12_holds_p142 (k22 : Nat → Int32 → Int32 → Int32 → Int32 → Int32 → Int32 → Int32 → Int32 → gM Int32) (v0 : Nat) (v1 : Int32) (v2 : Int32) (v3 : Int32) (v4 : Int32) (v5 : Int32) (v6 : Int32) (v7 : Int32) (v8 : Int32) : gM Int32 := (k22 v0 v1 v2 v3 v4 v5 v6 v7 (v8 + 1))
def m12_holds_p163 (s0 : Int32) : gM Int32 := (mz s0)
def m12_holds_p22 : Nat → Nat → Int32 → Int32 → Int32 → Int32 → Int32 → Int32 → Int32 → Int32 → gM Int32
  | 0, _, _, _, _, _, _, _, _, _ => mf
  | n + 1, v0, v1, v2, v3, v4, v5, v6, v7, v8 => (mb (mv [11] v0 (m12_ofLine v0 v1 v2 6)) fun x1 => (if ((v6 + x1) : Int32) ≤ v8 then (mb (gGetR [11] v0 22) fun r2 => (mb (gLdI 100 r2 0) fun x3 => (if x3 = 1 then (m12_holds_p163 1) else (m12_holds_p163 0)))) else (mb (gGetR [11] v0 6) fun r4 => (mb (gLdI 100 r4 v8) fun x5 => (if x5 = 7 then (mb (gGetR [11] v0 22) fun r15 => (mb (gGetR [11] v0 22) fun r16 => (mb (gLdI 100 r16 (v7 - 1)) fun x17 => (mb (gStI 100 r15 (v7 - 1) ((1 : Int32) - x17)) fun _ => (m12_holds_p142 (m12_holds_p22 n) v0 v1 v2 v3 v4 v5 v6 v7 v8))))) else (mb (m12_joins x5) fun x6 => (if x6 = 0 then (mb (gGetR [11] v0 22) fun r7 => (mb (mv [11] v0 (m12_valueOf v0 x5 v3 v4 v5)) fun x8 => (mb (gStI 100 r7 v7 x8) fun _ => (m12_holds_p142 (m12_holds_p22 n) v0 v1 v2 v3 v4 v5 v6 (v7 + 1) v8)))) else (mb (gGetR [11] v0 22) fun r9 => (mb (gGetR [11] v0 22) fun r10 => (mb (gLdI 100 r10 ((v7 + (-1)) - 1)) fun x11 => (mb (gGetR [11] v0 22) fun r12 => (mb (gLdI 100 r12 (v7 + (-1))) fun x13 => (mb (m12_joined x5 x11 x13) fun x14 => (mb (gStI 100 r9 ((v7 + (-1)) - 1) x14) fun _ => (m12_holds_p142 (m12_holds_p22 n) v0 v1 v2 v3 v4 v5 v6 (v7 + (-1)) v8)))))))))))))))
def m12_holds (v0 : Nat) (v1 : Int32) (v2 : Int32) (v3 : Int32) (v4 : Int32) (v5 : Int32) : gM Int32 := (mb (mv [11] v0 (m12_ofLine v0 v1 v2 5)) fun x18 => (m12_holds_p22 FU v0 v1 v2 v3 v4 v5 (((260 : Int32) * v1) + x18) 0 (((260 : Int32) * v1) + x18)))
/-- m12_graveOf -/
def m12_graveOf_p110 (k30 : Nat → Int32 → Int32 → Int32 → Int32 → Int32 → Int32 → gM Int32) (v0 : Nat) (v1 : Int32) (v2 : Int32) (v3 : Int32) (v4 : Int32) (v5 : Int32) (v6 : Int32) : gM Int32 := (k30 v0 v1 v2 v3 v4 v5 (v6 + 1))
def m12_graveOf_p107 (k30 : Nat → Int32 → Int32 → Int32 → Int32 → Int32 → Int32 → gM Int32) (v0 : Nat) (v1 : Int32) (v2 : Int32) (v3 : Int32) (v4 : Int32) (v6 : Int32) (s0 : Int32) (s1 : Int32) : gM Int32 := (m12_graveOf_p110 k30 v0 v1 v2 v3 v4 (s0 + s1) v6)
def m12_graveOf_p65 (k30 : Nat → Int32 → Int32 → Int32 → Int32 → Int32 → Int32 → gM Int32) (v0 : Nat) (v1 : Int32) (v2 : Int32) (v3 : Int32) (v4 : Int32) (v5 : Int32) (v6 : Int32) (v7 : Int32) : gM Int32 := (mb (mv [11] v0 (m12_holds v0 v2 v6 v1 v3 v4)) fun x1 => (if x1 = 0 then (m12_graveOf_p110 k30 v0 v1 v2 v3 v4 v5 v6) else (if v7 = 4 then (mb (mv [11] v0 (m12_ofLine v0 v2 v6 1)) fun x3 => (m12_graveOf_p107 k30 v0 v1 v2 v3 v4 v6 v5 x3)) else (mb (mv [11] v0 (m12_ofLine v0 v2 v6 1)) fun x2 => (m12_graveOf_p107 k30 v0 v1 v2 v3 v4 v6 v5 (-x2))))))
def m12_graveOf_p137 (s0 : Int32) : gM Int32 := (mp s0)
def m12_graveOf_p30 : Nat → Nat → Int32 → Int32 → Int32 → Int32 → Int32 → Int32 → gM Int32
  | 0, _, _, _, _, _, _, _ => mf
  | n + 1, v0, v1, v2, v3, v4, v5, v6 => (mb (gGetR [11] v0 4) fun r4 => (mb (gLdI 100 r4 ((2 : Int32) * v2)) fun x5 => (if (x5 : Int32) ≤ v6 then (if 0 ≤ v5 then (if (v5 : Int32) ≤ 4 then (m12_graveOf_p137 v5) else (m12_graveOf_p137 4)) else (m12_graveOf_p137 0)) else (mb (mv [11] v0 (m12_ofLine v0 v2 v6 0)) fun x6 => (if (x6 : Int32) = 4 then (m12_graveOf_p65 (m12_graveOf_p30 n) v0 v1 v2 v3 v4 v5 v6 x6) else (if x6 = 5 then (m12_graveOf_p65 (m12_graveOf_p30 n) v0 v1 v2 v3 v4 v5 v6 x6) else (m12_graveOf_p110 (m12_graveOf_p30 n) v0 v1 v2 v3 v4 v5 v6)))))))
def m12_graveOf (v0 : Nat) (v1 : Int32) (v2 : Int32) (v3 : Int32) : gM Int32 := (mb (mv [11] v0 (m12_pointsOf v0 v1 v2 v3)) fun x7 => (mb (gGetR [11] v0 2) fun r8 => (mb (gLdI 100 r8 (((3 : Int32) * v1) + 1)) fun x9 => (mb (mv [11] v0 (m12_toldOf v0 v2 0 x9)) fun x10 => (m12_graveOf_p30 FU v0 v1 v2 v3 x7 x10 0)))))
/-- m12_rangeOf -/
def m12_rangeOf_p136 (k47 : Nat → Int32 → Int32 → Int32 → Int32 → Int32 → gM Int32) (v0 : Nat) (v2 : Int32) (v5 : Int32) (v6 : Int32) (v7 : Int32) (s0 : Int32) : gM Int32 := (k47 v0 v2 s0 v5 v6 (v7 + 1))
def m12_rangeOf_p103 (k47 : Nat → Int32 → Int32 → Int32 → Int32 → Int32 → gM Int32) (v0 : Nat) (v2 : Int32) (v4 : Int32) (v5 : Int32) (v6 : Int32) (v7 : Int32) (s0 : Int32) : gM Int32 := (if s0 = 0 then (m12_rangeOf_p136 k47 v0 v2 v5 v6 v7 v4) else (mb (mv [11] v0 (m12_ofLine v0 v2 v7 3)) fun x1 => (mb (mv [11] v0 (m12_ofLine v0 v2 v7 4)) fun x2 => (m12_rangeOf_p136 k47 v0 v2 v5 v6 v7 (((1000 : Int32) * x1) + x2)))))
def m12_rangeOf_p102 (k47 : Nat → Int32 → Int32 → Int32 → Int32 → Int32 → gM Int32) (v0 : Nat) (v2 : Int32) (v4 : Int32) (v5 : Int32) (v6 : Int32) (v7 : Int32) : gM Int32 := (m12_rangeOf_p103 k47 v0 v2 v4 v5 v6 v7 0)
def m12_rangeOf_p47 : Nat → Nat → Int32 → Int32 → Int32 → Int32 → Int32 → gM Int32
  | 0, _, _, _, _, _, _ => mf
  | n + 1, v0, v2, v4, v5, v6, v7 => (mb (gGetR [11] v0 4) fun r3 => (mb (gLdI 100 r3 ((2 : Int32) * v2)) fun x4 => (if (x4 : Int32) ≤ v7 then (mp v4) else (mb (mv [11] v0 (m12_ofLine v0 v2 v7 0)) fun x5 => (if x5 = 3 then (mb (mv [11] v0 (m12_ofLine v0 v2 v7 1)) fun x6 => (if x6 = v5 then (mb (mv [11] v0 (m12_ofLine v0 v2 v7 2)) fun x7 => (if x7 = v6 then (m12_rangeOf_p103 (m12_rangeOf_p47 n) v0 v2 v4 v5 v6 v7 1) else (m12_rangeOf_p102 (m12_rangeOf_p47 n) v0 v2 v4 v5 v6 v7))) else (m12_rangeOf_p102 (m12_rangeOf_p47 n) v0 v2 v4 v5 v6 v7))) else (m12_rangeOf_p102 (m12_rangeOf_p47 n) v0 v2 v4 v5 v6 v7))))))
def m12_rangeOf_p42 (v0 : Nat) (v2 : Int32) (v4 : Int32) (v5 : Int32) (s0 : Int32) : gM Int32 := (m12_rangeOf_p47 FU v0 v2 v4 v5 s0 0)
def m12_rangeOf (v0 : Nat) (v1 : Int32) (v2 : Int32) (v3 : Int32) : gM Int32 := (if 0 ≤ v2 then (mb (mv [11] v0 (m12_graveOf v0 v1 v2 v3)) fun x8 => (mb (mv [11] v0 (m12_pointsOf v0 v1 v2 v3)) fun x9 => (mb (gDiv x9 3) fun x10 => (if (x10 : Int32) ≤ 3 then (m12_rangeOf_p42 v0 v2 (-1) x8 x10) else (m12_rangeOf_p42 v0 v2 (-1) x8 3))))) else (mp (-1)))
/-- m12_canAsk -/
def m12_canAsk_p28 (s0 : Int32) : gM Int32 := (mz s0)
def m12_canAsk_p27 : gM Int32 := (m12_canAsk_p28 0)
def m12_canAsk (v0 : Nat) (v1 : Int32) (v2 : Int32) (v3 : Int32) : gM Int32 := (mb (mv [11] v0 (m12_isDeed v0 v1)) fun x1 => (if x1 = 0 then (m12_canAsk_p27) else (mb (mv [11] v0 (m12_isVersion v0 v2)) fun x2 => (if x2 = 0 then (m12_canAsk_p27) else (mb (m12_isDay v3) fun x3 => (if x3 = 0 then (m12_canAsk_p27) else (m12_canAsk_p28 1)))))))
/-- m12_points -/
def m12_points_p21 (s0 : Int32) : gM Int32 := (mp s0)
def m12_points (v0 : Nat) (v1 : Int32) (v2 : Int32) (v3 : Int32) : gM Int32 := (mb (mv [11] v0 (m12_canAsk v0 v1 v2 v3)) fun x1 => (if x1 = 0 then (m12_points_p21 (-1)) else (mb (mv [11] v0 (m12_pointsOf v0 v1 v2 v3)) fun x2 => (m12_points_p21 x2))))
/-- m12_grave -/
def m12_grave_p21 (s0 : Int32) : gM Int32 := (mp s0)
def m12_grave (v0 : Nat) (v1 : Int32) (v2 : Int32) (v3 : Int32) : gM Int32 := (mb (mv [11] v0 (m12_canAsk v0 v1 v2 v3)) fun x1 => (if x1 = 0 then (m12_grave_p21 (-1)) else (mb (mv [11] v0 (m12_graveOf v0 v1 v2 v3)) fun x2 => (m12_grave_p21 x2))))
/-- m12_range -/
def m12_range_p24 (s0 : Int32) : gM Int32 := (mp s0)
def m12_range (v0 : Nat) (v1 : Int32) (v2 : Int32) (v3 : Int32) : gM Int32 := (mb (mv [11] v0 (m12_canAsk v0 v1 v2 v3)) fun x1 => (if x1 = 0 then (m12_range_p24 (-1)) else (mb (mv [11] v0 (m12_rangeOf v0 v1 v2 v3)) fun x2 => (mb (m12_orNone x2) fun x3 => (m12_range_p24 x3)))))
/-- m12_standing -/
def m12_standing_p29 (k4 : Nat → Int32 → Int32 → Int32 → gM Int32) (v0 : Nat) (v1 : Int32) (v3 : Int32) (s0 : Int32) (s1 : Int32) : gM Int32 := (k4 v0 v1 (s0 + s1) (v3 + 1))
def m12_standing_p4 : Nat → Nat → Int32 → Int32 → Int32 → gM Int32
  | 0, _, _, _, _ => mf
  | n + 1, v0, v1, v2, v3 => (mb (gGetR [11] v0 0) fun r1 => (mb (gLdI 100 r1 5) fun x2 => (if (x2 : Int32) ≤ v3 then (mp v2) else (mb (mv [11] v0 (m12_stands v0 v3 v1)) fun x3 => (if x3 = 0 then (m12_standing_p29 (m12_standing_p4 n) v0 v1 v3 v2 0) else (m12_standing_p29 (m12_standing_p4 n) v0 v1 v3 v2 1))))))
def m12_standing (v0 : Nat) (v1 : Int32) : gM Int32 := (m12_standing_p4 FU v0 v1 0 0)
/-- m12_term -/
def m12_term_p51 : gM Int32 := (mp (-1))
def m12_term (v0 : Nat) (v1 : Int32) (v2 : Int32) (v3 : Int32) (v4 : Int32) : gM Int32 := (mb (mv [11] v0 (m12_isDeed v0 v1)) fun x1 => (if x1 = 0 then (m12_term_p51) else (mb (m12_in v2 0 4) fun x2 => (if x2 = 0 then (m12_term_p51) else (mb (m12_in v3 0 240) fun x3 => (if x3 = 0 then (m12_term_p51) else (if v4 < 0 then (m12_term_p51) else (mb (gDiv v4 10) fun x4 => (if (3 : Int32) < x4 then (m12_term_p51) else (mb (gRem v4 10) fun x5 => (if (x5 : Int32) ≤ 1 then (mb (gGetR [11] v0 0) fun r6 => (mb (gLdI 100 r6 0) fun x7 => (mb (mv [11] v0 (m12_termOf v0 v1 x7)) fun x8 => (if x8 < 0 then (mb (gGetR [11] v0 0) fun r9 => (mb (gLdI 100 r9 5) fun x10 => (if x10 = 16 then (mp (-2)) else (mb (gGetR [11] v0 7) fun r11 => (mb (gStI 100 r11 (((7 : Int32) * x10) + 0) v1) fun _ => (mb (gGetR [11] v0 7) fun r12 => (mb (gStI 100 r12 (((7 : Int32) * x10) + 1) v2) fun _ => (mb (gGetR [11] v0 7) fun r13 => (mb (gStI 100 r13 (((7 : Int32) * x10) + 2) v3) fun _ => (mb (gGetR [11] v0 7) fun r14 => (mb (gDiv v4 10) fun x15 => (mb (gStI 100 r14 (((7 : Int32) * x10) + 3) x15) fun _ => (mb (gGetR [11] v0 7) fun r16 => (mb (gRem v4 10) fun x17 => (mb (gStI 100 r16 (((7 : Int32) * x10) + 4) x17) fun _ => (mb (gGetR [11] v0 7) fun r18 => (mb (gGetR [11] v0 0) fun r19 => (mb (gLdI 100 r19 0) fun x20 => (mb (gStI 100 r18 (((7 : Int32) * x10) + 5) x20) fun _ => (mb (gGetR [11] v0 7) fun r21 => (mb (gStI 100 r21 (((7 : Int32) * x10) + 6) 100000) fun _ => (mb (gGetR [11] v0 0) fun r22 => (mb (gLdI 100 r22 5) fun x23 => (mb (gStI 100 r22 5 (x23 + 1)) fun _ => (mp x10))))))))))))))))))))))))) else (mp (-4)))))) else (m12_term_p51))))))))))))
/-- m12_appeal -/
def m12_appeal (v0 : Nat) (v1 : Int32) : gM Int32 := (mb (mv [11] v0 (m12_isTerm v0 v1)) fun x1 => (if x1 = 0 then (mp (-1)) else (mb (gGetR [11] v0 0) fun r2 => (mb (gLdI 100 r2 0) fun x3 => (mb (mv [11] v0 (m12_stands v0 v1 x3)) fun x4 => (if x4 = 0 then (mp (-4)) else (mb (gGetR [11] v0 7) fun r5 => (mb (gGetR [11] v0 0) fun r6 => (mb (gLdI 100 r6 0) fun x7 => (mb (gStI 100 r5 (((7 : Int32) * v1) + 6) x7) fun _ => (mb (gGetR [11] v0 0) fun r8 => (mb (gLdI 100 r8 0) fun x9 => (mb (mv [11] v0 (m12_standing v0 x9)) fun x10 => (mp x10))))))))))))))
/-- m12_isAmiss -/
def m12_isAmiss_p68 (s0 : Int32) : gM Int32 := (mz s0)
def m12_isAmiss_p63 : gM Int32 := (m12_isAmiss_p68 1)
def m12_isAmiss_p67 : gM Int32 := (m12_isAmiss_p68 0)
def m12_isAmiss (v0 : Nat) (v1 : Int32) (v2 : Int32) : gM Int32 := (mb (mv [11] v0 (m12_of v0 v1 0)) fun x1 => (mb (mv [11] v0 (m12_of v0 v1 0)) fun x2 => (mb (mv [11] v0 (m12_of v0 v1 5)) fun x3 => (mb (mv [11] v0 (m12_lawOf v0 x2 x3)) fun x4 => (mb (mv [11] v0 (m12_rangeOf v0 x1 x4 v2)) fun x5 => (if x5 < 0 then (m12_isAmiss_p63) else (mb (mv [11] v0 (m12_of v0 v1 3)) fun x6 => (if x6 = 0 then (mb (mv [11] v0 (m12_of v0 v1 2)) fun x7 => (mb (gDiv x5 1000) fun x8 => (mb (gRem x5 1000) fun x9 => (mb (m12_in x7 x8 x9) fun x10 => (if x10 = 0 then (m12_isAmiss_p63) else (m12_isAmiss_p67)))))) else (m12_isAmiss_p67)))))))))
/-- m12_amiss -/
def m12_amiss_p49 (k13 : Nat → Int32 → Int32 → Int32 → gM Int32) (v0 : Nat) (v1 : Int32) (v3 : Int32) (s0 : Int32) (s1 : Int32) : gM Int32 := (k13 v0 v1 (s0 ||| s1) (v3 + 1))
def m12_amiss_p48 (k13 : Nat → Int32 → Int32 → Int32 → gM Int32) (v0 : Nat) (v1 : Int32) (v3 : Int32) (s0 : Int32) : gM Int32 := (m12_amiss_p49 k13 v0 v1 v3 s0 0)
def m12_amiss_p13 : Nat → Nat → Int32 → Int32 → Int32 → gM Int32
  | 0, _, _, _, _ => mf
  | n + 1, v0, v1, v2, v3 => (mb (gGetR [11] v0 0) fun r1 => (mb (gLdI 100 r1 5) fun x2 => (if (x2 : Int32) ≤ v3 then (mp v2) else (mb (mv [11] v0 (m12_stands v0 v3 v1)) fun x3 => (if x3 = 0 then (m12_amiss_p48 (m12_amiss_p13 n) v0 v1 v3 v2) else (mb (mv [11] v0 (m12_isAmiss v0 v3 v1)) fun x4 => (if x4 = 0 then (m12_amiss_p48 (m12_amiss_p13 n) v0 v1 v3 v2) else (m12_amiss_p49 (m12_amiss_p13 n) v0 v1 v3 v2 ((1 : Int32) <<< (v3 &&& 31))))))))))
def m12_amiss (v0 : Nat) (v1 : Int32) : gM Int32 := (mb (m12_isDay v1) fun x5 => (if x5 = 0 then (mp (-1)) else (m12_amiss_p13 FU v0 v1 0 0)))
/-- m12_runsBeside -/
def m12_runsBeside_p96 (k43 : Nat → Int32 → Int32 → Int32 → Int32 → Int32 → Int32 → gM Int32) (v0 : Nat) (v2 : Int32) (v3 : Int32) (v4 : Int32) (v5 : Int32) (v7 : Int32) (s0 : Int32) : gM Int32 := (k43 v0 v2 v3 v4 v5 s0 (v7 + 1))
def m12_runsBeside_p91 (k43 : Nat → Int32 → Int32 → Int32 → Int32 → Int32 → Int32 → gM Int32) (v0 : Nat) (v2 : Int32) (v3 : Int32) (v4 : Int32) (v5 : Int32) (v7 : Int32) : gM Int32 := (m12_runsBeside_p96 k43 v0 v2 v3 v4 v5 v7 1)
def m12_runsBeside_p95 (k43 : Nat → Int32 → Int32 → Int32 → Int32 → Int32 → Int32 → gM Int32) (v0 : Nat) (v2 : Int32) (v3 : Int32) (v4 : Int32) (v5 : Int32) (v7 : Int32) : gM Int32 := (m12_runsBeside_p96 k43 v0 v2 v3 v4 v5 v7 0)
def m12_runsBeside_p43 : Nat → Nat → Int32 → Int32 → Int32 → Int32 → Int32 → Int32 → gM Int32
  | 0, _, _, _, _, _, _, _ => mf
  | n + 1, v0, v2, v3, v4, v5, v6, v7 => (mb (gGetR [11] v0 4) fun r1 => (mb (gLdI 100 r1 ((2 : Int32) * v4)) fun x2 => (if (x2 : Int32) ≤ v7 then (mz v6) else (if v6 = 0 then (mb (mv [11] v0 (m12_ofLine v0 v4 v7 0)) fun x3 => (if x3 = 6 then (mb (mv [11] v0 (m12_holds v0 v4 v7 v3 v2 v5)) fun x4 => (if x4 = 0 then (m12_runsBeside_p95 (m12_runsBeside_p43 n) v0 v2 v3 v4 v5 v7) else (m12_runsBeside_p91 (m12_runsBeside_p43 n) v0 v2 v3 v4 v5 v7))) else (m12_runsBeside_p95 (m12_runsBeside_p43 n) v0 v2 v3 v4 v5 v7))) else (m12_runsBeside_p91 (m12_runsBeside_p43 n) v0 v2 v3 v4 v5 v7)))))
def m12_runsBeside (v0 : Nat) (v1 : Int32) (v2 : Int32) : gM Int32 := (mb (mv [11] v0 (m12_of v0 v1 0)) fun x5 => (mb (mv [11] v0 (m12_of v0 v1 5)) fun x6 => (mb (mv [11] v0 (m12_lawOf v0 x5 x6)) fun x7 => (if 0 ≤ x7 then (mb (mv [11] v0 (m12_pointsOf v0 x5 x7 v2)) fun x8 => (m12_runsBeside_p43 FU v0 v2 x5 x7 x8 0 0)) else (mz 0)))))
/-- m12_beginOf -/
def m12_beginOf_p29 (s0 : Int32) : gM Int32 := (mp s0)
def m12_beginOf_p23 (v0 : Nat) (v1 : Int32) : gM Int32 := (mb (mv [11] v0 (m12_of v0 v1 5)) fun x1 => (m12_beginOf_p29 x1))
def m12_beginOf (v0 : Nat) (v1 : Int32) (v2 : Int32) (v3 : Int32) : gM Int32 := (mb (mv [11] v0 (m12_of v0 v1 5)) fun x2 => (if (v2 : Int32) ≤ x2 then (m12_beginOf_p23 v0 v1) else (mb (mv [11] v0 (m12_runsBeside v0 v1 v3)) fun x3 => (if x3 = 0 then (m12_beginOf_p29 v2) else (m12_beginOf_p23 v0 v1)))))
/-- m12_lastEnd -/
def m12_lastEnd_p32 (k4 : Nat → Int32 → Int32 → gM Int32) (v0 : Nat) (v2 : Int32) (s0 : Int32) : gM Int32 := (k4 v0 s0 (v2 + 1))
def m12_lastEnd_p4 : Nat → Nat → Int32 → Int32 → gM Int32
  | 0, _, _, _ => mf
  | n + 1, v0, v1, v2 => (mb (gGetI [11] v0 23) fun x1 => (if (x1 : Int32) ≤ v2 then (mp v1) else (mb (gGetR [11] v0 26) fun r2 => (mb (gLdI 100 r2 v2) fun x3 => (if (x3 : Int32) ≤ v1 then (m12_lastEnd_p32 (m12_lastEnd_p4 n) v0 v2 v1) else (mb (gGetR [11] v0 26) fun r4 => (mb (gLdI 100 r4 v2) fun x5 => (m12_lastEnd_p32 (m12_lastEnd_p4 n) v0 v2 x5))))))))
def m12_lastEnd (v0 : Nat) : gM Int32 := (m12_lastEnd_p4 FU v0 0 0)
/-- m12_findTime -/
def m12_findTime_p102 (k7 : Nat → Int32 → Int32 → Int32 → gM Unit) (v0 : Nat) (v1 : Int32) (v2 : Int32) (v3 : Int32) : gM Unit := (k7 v0 v1 v2 (v3 + 1))
def m12_findTime_p7 : Nat → Nat → Int32 → Int32 → Int32 → gM Unit
  | 0, _, _, _, _ => mf
  | n + 1, v0, v1, v2, v3 => (mb (gGetR [11] v0 0) fun r1 => (mb (gLdI 100 r1 5) fun x2 => (if (x2 : Int32) ≤ v3 then (mp ()) else (mb (mv [11] v0 (m12_whose v0 v3)) fun x3 => (if x3 = v1 then (mb (mv [11] v0 (m12_stands v0 v3 v2)) fun x4 => (if x4 = 0 then (m12_findTime_p102 (m12_findTime_p7 n) v0 v1 v2 v3) else (mb (gGetR [11] v0 24) fun r5 => (mb (gGetI [11] v0 23) fun x6 => (mb (gStI 100 r5 x6 v3) fun _ => (mb (gGetR [11] v0 25) fun r7 => (mb (gGetI [11] v0 23) fun x8 => (mb (mv [11] v0 (m12_lastEnd v0)) fun x9 => (mb (mv [11] v0 (m12_beginOf v0 v3 x9 v2)) fun x10 => (mb (gStI 100 r7 x8 x10) fun _ => (mb (gGetR [11] v0 26) fun r11 => (mb (gGetI [11] v0 23) fun x12 => (mb (gGetR [11] v0 25) fun r13 => (mb (gGetI [11] v0 23) fun x14 => (mb (gLdI 100 r13 x14) fun x15 => (mb (mv [11] v0 (m12_of v0 v3 2)) fun x16 => (mb (gStI 100 r11 x12 (x15 + ((30 : Int32) * x16))) fun _ => (mb (gGetI [11] v0 23) fun x17 => (mb (gPutI [11] v0 23 (x17 + 1)) fun _ => (m12_findTime_p102 (m12_findTime_p7 n) v0 v1 v2 v3)))))))))))))))))))) else (m12_findTime_p102 (m12_findTime_p7 n) v0 v1 v2 v3))))))
def m12_findTime (v0 : Nat) (v1 : Int32) (v2 : Int32) : gM Unit := (mb (gPutI [11] v0 23 0) fun _ => (m12_findTime_p7 FU v0 v1 v2 0))
/-- m12_held -/
def m12_held_p30 : gM Int32 := (mp (-1))
def m12_held (v0 : Nat) (v1 : Int32) (v2 : Int32) (v3 : Int32) : gM Int32 := (mb (mv [11] v0 (m12_isPerson v0 v1)) fun x1 => (if x1 = 0 then (m12_held_p30) else (mb (m12_isDay v2) fun x2 => (if x2 = 0 then (m12_held_p30) else (if (v3 : Int32) < v2 then (m12_held_p30) else (mb (gGetR [11] v0 0) fun r3 => (mb (gLdI 100 r3 0) fun x4 => (if (v3 : Int32) ≤ x4 then (mb (gGetR [11] v0 0) fun r5 => (mb (gLdI 100 r5 6) fun x6 => (if x6 = 12 then (mp (-2)) else (mb (gGetR [11] v0 8) fun r7 => (mb (gStI 100 r7 ((3 : Int32) * x6) v1) fun _ => (mb (gGetR [11] v0 8) fun r8 => (mb (gStI 100 r8 (((3 : Int32) * x6) + 1) v2) fun _ => (mb (gGetR [11] v0 8) fun r9 => (mb (gStI 100 r9 (((3 : Int32) * x6) + 2) v3) fun _ => (mb (gGetR [11] v0 0) fun r10 => (mb (gLdI 100 r10 6) fun x11 => (mb (gStI 100 r10 6 (x11 + 1)) fun _ => (mp (x6 + 1)))))))))))))) else (m12_held_p30)))))))))
/-- m12_heldAhead -/
def m12_heldAhead_p82 (k17 : Nat → Int32 → Int32 → Int32 → Int32 → Int32 → Int32 → gM Int32) (v0 : Nat) (v1 : Int32) (v2 : Int32) (v3 : Int32) (v4 : Int32) (v6 : Int32) (s0 : Int32) : gM Int32 := (k17 v0 v1 v2 v3 v4 s0 (v6 + 1))
def m12_heldAhead_p81 (k17 : Nat → Int32 → Int32 → Int32 → Int32 → Int32 → Int32 → gM Int32) (v0 : Nat) (v1 : Int32) (v2 : Int32) (v3 : Int32) (v4 : Int32) (v6 : Int32) : gM Int32 := (m12_heldAhead_p82 k17 v0 v1 v2 v3 v4 v6 0)
def m12_heldAhead_p101 (k5 : Nat → Int32 → Int32 → Int32 → Int32 → gM Int32) (v0 : Nat) (v1 : Int32) (v2 : Int32) (v4 : Int32) (s0 : Int32) (s1 : Int32) : gM Int32 := (k5 v0 v1 v2 (s0 + s1) (v4 + 1))
def m12_heldAhead_p90 (k5 : Nat → Int32 → Int32 → Int32 → Int32 → gM Int32) (v0 : Nat) (v1 : Int32) (v2 : Int32) (v3 : Int32) (v4 : Int32) (v5 : Int32) : gM Int32 := (if v5 = 0 then (m12_heldAhead_p101 k5 v0 v1 v2 v4 v3 0) else (m12_heldAhead_p101 k5 v0 v1 v2 v4 v3 1))
def m12_heldAhead_p17 (k5 : Nat → Int32 → Int32 → Int32 → Int32 → gM Int32) : Nat → Nat → Int32 → Int32 → Int32 → Int32 → Int32 → Int32 → gM Int32
  | 0, _, _, _, _, _, _, _ => mf
  | n + 1, v0, v1, v2, v3, v4, v5, v6 => (mb (gGetR [11] v0 0) fun r1 => (mb (gLdI 100 r1 6) fun x2 => (if (x2 : Int32) ≤ v6 then (m12_heldAhead_p90 k5 v0 v1 v2 v3 v4 v5) else (if v5 = 0 then (mb (gGetR [11] v0 8) fun r3 => (mb (gLdI 100 r3 ((3 : Int32) * v6)) fun x4 => (if x4 = v1 then (mb (gGetR [11] v0 8) fun r5 => (mb (gLdI 100 r5 (((3 : Int32) * v6) + 1)) fun x6 => (mb (gGetR [11] v0 8) fun r7 => (mb (gLdI 100 r7 (((3 : Int32) * v6) + 2)) fun x8 => (mb (m12_in v4 x6 x8) fun x9 => (if x9 = 0 then (m12_heldAhead_p81 (m12_heldAhead_p17 k5 n) v0 v1 v2 v3 v4 v6) else (m12_heldAhead_p82 (m12_heldAhead_p17 k5 n) v0 v1 v2 v3 v4 v6 1))))))) else (m12_heldAhead_p81 (m12_heldAhead_p17 k5 n) v0 v1 v2 v3 v4 v6)))) else (m12_heldAhead_p90 k5 v0 v1 v2 v3 v4 v5)))))
def m12_heldAhead_p5 : Nat → Nat → Int32 → Int32 → Int32 → Int32 → gM Int32
  | 0, _, _, _, _, _ => mf
  | n + 1, v0, v1, v2, v3, v4 => (if (v2 : Int32) ≤ v4 then (mp v3) else (m12_heldAhead_p17 (m12_heldAhead_p5 n) FU v0 v1 v2 v3 v4 0 0))
def m12_heldAhead (v0 : Nat) (v1 : Int32) (v2 : Int32) : gM Int32 := (m12_heldAhead_p5 FU v0 v1 v2 0 0)
/-- m12_creditOf -/
def m12_creditOf_p27 (s0 : Int32) : gM Int32 := (mp s0)
def m12_creditOf (v0 : Nat) (v1 : Int32) : gM Int32 := (mb (gGetI [11] v0 23) fun x1 => (if x1 = 0 then (m12_creditOf_p27 0) else (mb (gGetR [11] v0 24) fun r2 => (mb (gLdI 100 r2 0) fun x3 => (mb (mv [11] v0 (m12_of v0 x3 5)) fun x4 => (mb (mv [11] v0 (m12_heldAhead v0 v1 x4)) fun x5 => (m12_creditOf_p27 x5)))))))
/-- m12_credit -/
def m12_credit_p15 : gM Int32 := (mp (-1))
def m12_credit (v0 : Nat) (v1 : Int32) (v2 : Int32) : gM Int32 := (mb (mv [11] v0 (m12_isPerson v0 v1)) fun x1 => (if x1 = 0 then (m12_credit_p15) else (mb (m12_isDay v2) fun x2 => (if x2 = 0 then (m12_credit_p15) else (mb (mv [11] v0 (m12_findTime v0 v1 v2)) fun _ => (mb (mv [11] v0 (m12_creditOf v0 v1)) fun x3 => (mp x3)))))))
/-- m12_good -/
def m12_good_p18 : gM Int32 := (mp (-1))
def m12_good (v0 : Nat) (v1 : Int32) (v2 : Int32) : gM Int32 := (mb (mv [11] v0 (m12_isPerson v0 v1)) fun x1 => (if x1 = 0 then (m12_good_p18) else (mb (m12_in v2 1 99) fun x2 => (if x2 = 0 then (m12_good_p18) else (mb (gGetR [11] v0 1) fun r3 => (mb (gLdI 100 r3 (((2 : Int32) * v1) + 1)) fun x4 => (if ((x4 + v2) : Int32) ≤ 999 then (mb (gGetR [11] v0 1) fun r5 => (mb (gLdI 100 r5 (((2 : Int32) * v1) + 1)) fun x6 => (mb (gStI 100 r5 (((2 : Int32) * v1) + 1) (x6 + v2)) fun _ => (mb (gGetR [11] v0 1) fun r7 => (mb (gLdI 100 r7 (((2 : Int32) * v1) + 1)) fun x8 => (mp x8)))))) else (mp (-4)))))))))
/-- m12_releaseOf -/
def m12_releaseOf_p67 (s0 : Int32) : gM Int32 := (mp s0)
def m12_releaseOf (v0 : Nat) (v1 : Int32) (v2 : Int32) : gM Int32 := (mb (mv [11] v0 (m12_findTime v0 v1 v2)) fun _ => (mb (gGetI [11] v0 23) fun x1 => (if x1 = 0 then (mp (-1)) else (mb (mv [11] v0 (m12_lastEnd v0)) fun x2 => (mb (mv [11] v0 (m12_creditOf v0 v1)) fun x3 => (mb (gGetR [11] v0 1) fun r4 => (mb (gLdI 100 r4 (((2 : Int32) * v1) + 1)) fun x5 => (mb (gGetR [11] v0 24) fun r6 => (mb (gGetI [11] v0 23) fun x7 => (mb (gLdI 100 r6 (x7 - 1)) fun x8 => (mb (mv [11] v0 (m12_of v0 x8 5)) fun x9 => (if (x9 : Int32) ≤ ((x2 - x3) - x5) then (m12_releaseOf_p67 ((x2 - x3) - x5)) else (m12_releaseOf_p67 x9)))))))))))))
/-- m12_release -/
def m12_release_p28 (s0 : Int32) : gM Int32 := (mp s0)
def m12_release_p27 : gM Int32 := (m12_release_p28 (-1))
def m12_release (v0 : Nat) (v1 : Int32) (v2 : Int32) : gM Int32 := (mb (mv [11] v0 (m12_isPerson v0 v1)) fun x1 => (if x1 = 0 then (m12_release_p27) else (mb (m12_isDay v2) fun x2 => (if x2 = 0 then (m12_release_p27) else (mb (mv [11] v0 (m12_releaseOf v0 v1 v2)) fun x3 => (mb (m12_orNone x3) fun x4 => (m12_release_p28 x4)))))))
/-- m12_beds -/
def m12_beds_p14 : gM Int32 := (mp (-1))
def m12_beds_p68 (k21 : Nat → Int32 → Int32 → Int32 → Int32 → gM Int32) (v0 : Nat) (v1 : Int32) (v2 : Int32) (v4 : Int32) (s0 : Int32) (s1 : Int32) : gM Int32 := (k21 v0 v1 v2 (s0 + s1) (v4 + 1))
def m12_beds_p67 (k21 : Nat → Int32 → Int32 → Int32 → Int32 → gM Int32) (v0 : Nat) (v1 : Int32) (v2 : Int32) (v4 : Int32) (s0 : Int32) : gM Int32 := (m12_beds_p68 k21 v0 v1 v2 v4 s0 0)
def m12_beds_p21 : Nat → Nat → Int32 → Int32 → Int32 → Int32 → gM Int32
  | 0, _, _, _, _, _ => mf
  | n + 1, v0, v1, v2, v3, v4 => (mb (gGetR [11] v0 0) fun r1 => (mb (gLdI 100 r1 1) fun x2 => (if (x2 : Int32) ≤ v4 then (mp v3) else (mb (mv [11] v0 (m12_releaseOf v0 v4 v2)) fun x3 => (if (x3 : Int32) ≤ v1 then (m12_beds_p67 (m12_beds_p21 n) v0 v1 v2 v4 v3) else (mb (gGetR [11] v0 24) fun r4 => (mb (gLdI 100 r4 0) fun x5 => (mb (mv [11] v0 (m12_of v0 x5 5)) fun x6 => (if (v1 : Int32) < x6 then (m12_beds_p67 (m12_beds_p21 n) v0 v1 v2 v4 v3) else (m12_beds_p68 (m12_beds_p21 n) v0 v1 v2 v4 v3 1))))))))))
def m12_beds (v0 : Nat) (v1 : Int32) (v2 : Int32) : gM Int32 := (mb (m12_isDay v1) fun x7 => (if x7 = 0 then (m12_beds_p14) else (mb (m12_isDay v2) fun x8 => (if x8 = 0 then (m12_beds_p14) else (m12_beds_p21 FU v0 v1 v2 0 0)))))
/-- m12_prove -/
def m12_prove_p31 : Nat → Nat → Int32 → gM Int32
  | 0, _, _ => mf
  | n + 1, v0, v2 => (mb (gGetI [11] v0 23) fun x1 => (if (x1 : Int32) ≤ v2 then (mb (gGetI [11] v0 27) fun x2 => (mp x2)) else (mb (gGetR [11] v0 28) fun r3 => (mb (gGetR [11] v0 24) fun r4 => (mb (gLdI 100 r4 v2) fun x5 => (mb (gStI 100 r3 ((3 : Int32) * v2) x5) fun _ => (mb (gGetR [11] v0 28) fun r6 => (mb (gGetR [11] v0 25) fun r7 => (mb (gLdI 100 r7 v2) fun x8 => (mb (gStI 100 r6 (((3 : Int32) * v2) + 1) x8) fun _ => (mb (gGetR [11] v0 28) fun r9 => (mb (gGetR [11] v0 26) fun r10 => (mb (gLdI 100 r10 v2) fun x11 => (mb (gStI 100 r9 (((3 : Int32) * v2) + 2) x11) fun _ => (m12_prove_p31 n v0 (v2 + 1))))))))))))))))
def m12_prove (v0 : Nat) (v1 : Int32) : gM Int32 := (mb (mv [11] v0 (m12_isPerson v0 v1)) fun x12 => (if x12 = 0 then (mp (-1)) else (mb (gGetR [11] v0 0) fun r13 => (mb (gLdI 100 r13 0) fun x14 => (mb (mv [11] v0 (m12_findTime v0 v1 x14)) fun _ => (mb (gGetI [11] v0 23) fun x15 => (mb (gPutI [11] v0 27 x15) fun _ => (m12_prove_p31 FU v0 0))))))))
/-- m12_isRow -/
def m12_isRow_p28 (s0 : Int32) : gM Int32 := (mz s0)
def m12_isRow_p27 : gM Int32 := (m12_isRow_p28 0)
def m12_isRow (v0 : Nat) (v1 : Int32) (v2 : Int32) : gM Int32 := (mb (gGetI [11] v0 27) fun x1 => (mb (m12_in v1 0 (x1 - 1)) fun x2 => (if x2 = 0 then (m12_isRow_p27) else (mb (m12_in v2 0 2) fun x3 => (if x3 = 0 then (m12_isRow_p27) else (m12_isRow_p28 1))))))
/-- m12_row -/
def m12_row_p24 (s0 : Int32) : gM Int32 := (mp s0)
def m12_row (v0 : Nat) (v1 : Int32) (v2 : Int32) : gM Int32 := (mb (mv [11] v0 (m12_isRow v0 v1 v2)) fun x1 => (if x1 = 0 then (m12_row_p24 (-9)) else (mb (gGetR [11] v0 28) fun r2 => (mb (gLdI 100 r2 (((3 : Int32) * v1) + v2)) fun x3 => (m12_row_p24 x3)))))
/-- m12_alterRow -/
def m12_alterRow (v0 : Nat) (v1 : Int32) (v2 : Int32) (v3 : Int32) : gM Int32 := (mb (mv [11] v0 (m12_isRow v0 v1 v2)) fun x1 => (if x1 = 0 then (mp (-9)) else (mb (gGetR [11] v0 28) fun r2 => (mb (gLdI 100 r2 (((3 : Int32) * v1) + v2)) fun x3 => (mb (gGetR [11] v0 28) fun r4 => (mb (gStI 100 r4 (((3 : Int32) * v1) + v2) v3) fun _ => (mp x3)))))))
/-- m12_judge -/
def m12_judge_p73 (v3 : Int32) : gM Int32 := (mp (v3 + 1))
def m12_judge_p133 (v3 : Int32) : gM Int32 := (mp (v3 + 1))
def m12_judge_p165 (k6 : Nat → Int32 → Int32 → Int32 → gM Int32) (v0 : Nat) (v3 : Int32) (v4 : Int32) (s0 : Int32) : gM Int32 := (k6 v0 s0 v4 (v3 + 1))
def m12_judge_p6 : Nat → Nat → Int32 → Int32 → Int32 → gM Int32
  | 0, _, _, _, _ => mf
  | n + 1, v0, v1, v2, v3 => (mb (gGetI [11] v0 27) fun x1 => (if (x1 : Int32) ≤ v3 then (mp 0) else (mb (gGetR [11] v0 28) fun r2 => (mb (gLdI 100 r2 ((3 : Int32) * v3)) fun x3 => (mb (mv [11] v0 (m12_isTerm v0 x3)) fun x4 => (if x4 = 0 then (m12_judge_p73 v3) else (if (x3 : Int32) ≤ v2 then (m12_judge_p73 v3) else (mb (gGetR [11] v0 0) fun r5 => (mb (gLdI 100 r5 0) fun x6 => (mb (mv [11] v0 (m12_stands v0 x3 x6)) fun x7 => (if x7 = 0 then (m12_judge_p73 v3) else (mb (mv [11] v0 (m12_whose v0 x3)) fun x8 => (mb (gGetR [11] v0 28) fun r9 => (mb (gLdI 100 r9 0) fun x10 => (mb (mv [11] v0 (m12_whose v0 x10)) fun x11 => (if (x8 : Int32) = x11 then (mb (gGetR [11] v0 0) fun r12 => (mb (gLdI 100 r12 0) fun x13 => (mb (mv [11] v0 (m12_beginOf v0 x3 v1 x13)) fun x14 => (mb (gGetR [11] v0 28) fun r15 => (mb (gLdI 100 r15 (((3 : Int32) * v3) + 1)) fun x16 => (if x16 = x14 then (mb (gGetR [11] v0 28) fun r17 => (mb (gLdI 100 r17 (((3 : Int32) * v3) + 2)) fun x18 => (mb (mv [11] v0 (m12_of v0 x3 2)) fun x19 => (if (x18 : Int32) = (x14 + ((30 : Int32) * x19)) then (mb (gGetR [11] v0 28) fun r20 => (mb (gLdI 100 r20 (((3 : Int32) * v3) + 2)) fun x21 => (if (x21 : Int32) ≤ v1 then (m12_judge_p165 (m12_judge_p6 n) v0 v3 x3 v1) else (mb (gGetR [11] v0 28) fun r22 => (mb (gLdI 100 r22 (((3 : Int32) * v3) + 2)) fun x23 => (m12_judge_p165 (m12_judge_p6 n) v0 v3 x3 x23)))))) else (m12_judge_p133 v3))))) else (m12_judge_p133 v3))))))) else (m12_judge_p73 v3)))))))))))))))))
def m12_judge (v0 : Nat) : gM Int32 := (m12_judge_p6 FU v0 0 (-1) 0)
/-- m12_isDrawn -/
def m12_isDrawn_p24 (s0 : Int32) : gM Int32 := (mz s0)
def m12_isDrawn_p23 : gM Int32 := (m12_isDrawn_p24 0)
def m12_isDrawn (v0 : Nat) (v1 : Int32) (v2 : Int32) : gM Int32 := (mb (mv [11] v0 (m12_of v0 v1 4)) fun x1 => (if x1 = 1 then (mb (mv [11] v0 (m12_stands v0 v1 v2)) fun x2 => (if x2 = 0 then (m12_isDrawn_p23) else (m12_isDrawn_p24 1))) else (m12_isDrawn_p23)))
/-- m12_waysOf -/
def m12_waysOf_p86 (k71 : Nat → Int32 → Int32 → Int32 → Int32 → Int32 → Int32 → gM Int32) : Nat → Nat → Int32 → Int32 → Int32 → Int32 → Int32 → Int32 → Int32 → gM Int32
  | 0, _, _, _, _, _, _, _, _ => mf
  | n + 1, v0, v1, v2, v3, v4, v5, v6, v7 => (if (v7 : Int32) < v5 then (k71 v0 v1 v2 v3 v4 v5 (v6 + (-1))) else (mb (gGetR [11] v0 29) fun r1 => (mb (gLdI 100 r1 (((3840 : Int32) * v6) + v7)) fun x2 => (mb (gGetR [11] v0 29) fun r3 => (mb (gLdI 100 r3 (((((3840 : Int32) * v6) - 3840) + v7) - v5)) fun x4 => (mb (gStI 100 r1 (((3840 : Int32) * v6) + v7) (x2 + x4)) fun _ => (m12_waysOf_p86 k71 n v0 v1 v2 v3 v4 v5 v6 (v7 + (-1)))))))))
def m12_waysOf_p143 (k34 : Nat → Int32 → Int32 → Int32 → Int32 → gM Int32) (v0 : Nat) (v1 : Int32) (v2 : Int32) (v3 : Int32) (v4 : Int32) : gM Int32 := (k34 v0 v1 v2 v3 (v4 + 1))
def m12_waysOf_p71 (k34 : Nat → Int32 → Int32 → Int32 → Int32 → gM Int32) : Nat → Nat → Int32 → Int32 → Int32 → Int32 → Int32 → Int32 → gM Int32
  | 0, _, _, _, _, _, _, _ => mf
  | n + 1, v0, v1, v2, v3, v4, v5, v6 => (if v6 ≤ 0 then (m12_waysOf_p143 k34 v0 v1 v2 v3 v4) else (if v5 < 0 then (m12_waysOf_p143 k34 v0 v1 v2 v3 v4) else (m12_waysOf_p86 (m12_waysOf_p71 k34 n) FU v0 v1 v2 v3 v4 v5 v6 3839)))
def m12_waysOf_p66 (k34 : Nat → Int32 → Int32 → Int32 → Int32 → gM Int32) (v0 : Nat) (v1 : Int32) (v2 : Int32) (v3 : Int32) (v4 : Int32) (s0 : Int32) : gM Int32 := (m12_waysOf_p71 k34 FU v0 v1 v2 v3 v4 s0 v1)
def m12_waysOf_p163 : Nat → Nat → Int32 → Int32 → Int32 → gM Int32
  | 0, _, _, _, _ => mf
  | n + 1, v0, v1, v4, v5 => (if (3840 : Int32) ≤ v5 then (mp v4) else (mb (gGetR [11] v0 29) fun r5 => (mb (gLdI 100 r5 (((3840 : Int32) * v1) + v5)) fun x6 => (m12_waysOf_p163 n v0 v1 (v4 + x6) (v5 + 1)))))
def m12_waysOf_p161 (v0 : Nat) (v1 : Int32) (v4 : Int32) (s0 : Int32) : gM Int32 := (m12_waysOf_p163 FU v0 v1 v4 s0)
def m12_waysOf_p34 : Nat → Nat → Int32 → Int32 → Int32 → Int32 → gM Int32
  | 0, _, _, _, _, _ => mf
  | n + 1, v0, v1, v2, v3, v4 => (mb (gGetR [11] v0 0) fun r7 => (mb (gLdI 100 r7 5) fun x8 => (if (x8 : Int32) ≤ v4 then (if 0 ≤ v3 then (m12_waysOf_p161 v0 v1 0 v3) else (m12_waysOf_p161 v0 v1 0 0)) else (mb (mv [11] v0 (m12_isDrawn v0 v4 v2)) fun x9 => (if x9 = 0 then (m12_waysOf_p66 (m12_waysOf_p34 n) v0 v1 v2 v3 v4 (-1)) else (mb (mv [11] v0 (m12_of v0 v4 2)) fun x10 => (m12_waysOf_p66 (m12_waysOf_p34 n) v0 v1 v2 v3 v4 x10)))))))
def m12_waysOf_p3 : Nat → Nat → Int32 → Int32 → Int32 → Int32 → gM Int32
  | 0, _, _, _, _, _ => mf
  | n + 1, v0, v1, v2, v3, v4 => (if (65280 : Int32) ≤ v4 then (mb (gGetR [11] v0 29) fun r11 => (mb (gStI 100 r11 0 1) fun _ => (m12_waysOf_p34 FU v0 v1 v2 v3 0))) else (mb (gGetR [11] v0 29) fun r12 => (mb (gStI 100 r12 v4 0) fun _ => (m12_waysOf_p3 n v0 v1 v2 v3 (v4 + 1)))))
def m12_waysOf (v0 : Nat) (v1 : Int32) (v2 : Int32) (v3 : Int32) : gM Int32 := (m12_waysOf_p3 FU v0 v1 v2 v3 0)
/-- m12_spread -/
def m12_spread_p25 : gM Int32 := (mp (-1))
def m12_spread_p132 (k42 : Nat → Int32 → Int32 → Int32 → Int32 → Int32 → Int32 → Int32 → Int32 → gM Int32) (v0 : Nat) (v1 : Int32) (v2 : Int32) (v3 : Int32) (v4 : Int32) (v5 : Int32) (v6 : Int32) (v7 : Int32) (v8 : Int32) : gM Int32 := (k42 v0 v1 v2 v3 v4 v5 v6 v7 (v8 + 1))
def m12_spread_p117 (k42 : Nat → Int32 → Int32 → Int32 → Int32 → Int32 → Int32 → Int32 → Int32 → gM Int32) (v0 : Nat) (v1 : Int32) (v2 : Int32) (v3 : Int32) (v4 : Int32) (v5 : Int32) (v7 : Int32) (v8 : Int32) (s0 : Int32) (s1 : Int32) : gM Int32 := (mb (mv [11] v0 (m12_of v0 v8 2)) fun x1 => (m12_spread_p132 k42 v0 v1 v2 v3 v4 v5 (s0 + s1) (v7 + x1) v8))
def m12_spread_p93 (k42 : Nat → Int32 → Int32 → Int32 → Int32 → Int32 → Int32 → Int32 → Int32 → gM Int32) (v0 : Nat) (v1 : Int32) (v2 : Int32) (v3 : Int32) (v5 : Int32) (v6 : Int32) (v7 : Int32) (v8 : Int32) (v9 : Int32) (s0 : Int32) (s1 : Int32) : gM Int32 := (if v9 = 0 then (m12_spread_p117 k42 v0 v1 v2 v3 (s0 + s1) (v5 + 1) v7 v8 v6 0) else (mb (mv [11] v0 (m12_of v0 v8 2)) fun x2 => (m12_spread_p117 k42 v0 v1 v2 v3 (s0 + s1) (v5 + 1) v7 v8 v6 x2)))
def m12_spread_p79 (k42 : Nat → Int32 → Int32 → Int32 → Int32 → Int32 → Int32 → Int32 → Int32 → gM Int32) (v0 : Nat) (v1 : Int32) (v2 : Int32) (v3 : Int32) (v4 : Int32) (v5 : Int32) (v6 : Int32) (v7 : Int32) (v8 : Int32) (s0 : Int32) : gM Int32 := (if s0 = 0 then (m12_spread_p93 k42 v0 v1 v2 v3 v5 v6 v7 v8 s0 v4 0) else (m12_spread_p93 k42 v0 v1 v2 v3 v5 v6 v7 v8 s0 v4 1))
def m12_spread_p154 (s0 : Int32) : gM Int32 := (mp s0)
def m12_spread_p170 : gM Int32 := (mp (-4))
def m12_spread_p215 (s0 : Nat) (s1 : Int32) (s2 : Int32) (s3 : Int32) : gM Int32 := (mb (mv [11] s0 (m12_waysOf s0 s1 s2 s3)) fun x3 => (mp x3))
def m12_spread_p42 : Nat → Nat → Int32 → Int32 → Int32 → Int32 → Int32 → Int32 → Int32 → Int32 → gM Int32
  | 0, _, _, _, _, _, _, _, _, _ => mf
  | n + 1, v0, v1, v2, v3, v4, v5, v6, v7, v8 => (mb (gGetR [11] v0 0) fun r4 => (mb (gLdI 100 r4 5) fun x5 => (if (x5 : Int32) ≤ v8 then (if (2 : Int32) ≤ v3 then (if (v4 : Int32) < 2 then (m12_spread_p170) else (if (2 : Int32) ≤ (v5 - v4) then (if v3 = 2 then (mp (((1000000 : Int32) + (v6 * (v5 - v4))) - ((v7 - v6) * v4))) else (if v3 = 3 then (m12_spread_p215 v0 v4 v2 v6) else (m12_spread_p215 v0 v4 v2 0))) else (m12_spread_p170))) else (if v3 = 0 then (m12_spread_p154 v4) else (m12_spread_p154 v5))) else (mb (mv [11] v0 (m12_isDrawn v0 v8 v2)) fun x6 => (if x6 = 0 then (m12_spread_p132 (m12_spread_p42 n) v0 v1 v2 v3 v4 v5 v6 v7 v8) else (mb (mv [11] v0 (m12_of v0 v8 1)) fun x7 => (if x7 = v1 then (m12_spread_p79 (m12_spread_p42 n) v0 v1 v2 v3 v4 v5 v6 v7 v8 1) else (m12_spread_p79 (m12_spread_p42 n) v0 v1 v2 v3 v4 v5 v6 v7 v8 0))))))))
def m12_spread (v0 : Nat) (v1 : Int32) (v2 : Int32) (v3 : Int32) : gM Int32 := (mb (m12_in v1 0 4) fun x8 => (if x8 = 0 then (m12_spread_p25) else (mb (m12_isDay v2) fun x9 => (if x9 = 0 then (m12_spread_p25) else (mb (m12_in v3 0 4) fun x10 => (if x10 = 0 then (m12_spread_p25) else (m12_spread_p42 FU v0 v1 v2 v3 0 0 0 0 0)))))))
/-- m12_another -/
def m12_another_p94 (k15 : Nat → Int32 → Int32 → Int32 → Int32 → gM Int32) (v0 : Nat) (v1 : Int32) (v2 : Int32) (v4 : Int32) (s0 : Int32) (s1 : Int32) : gM Int32 := (k15 v0 v1 v2 (s0 + s1) (v4 + 1))
def m12_another_p63 (k15 : Nat → Int32 → Int32 → Int32 → Int32 → gM Int32) (v0 : Nat) (v1 : Int32) (v2 : Int32) (v3 : Int32) (v4 : Int32) (s0 : Int32) : gM Int32 := (if 0 ≤ s0 then (if v2 = 0 then (mb (gDiv s0 1000) fun x1 => (m12_another_p94 k15 v0 v1 v2 v4 v3 x1)) else (mb (gRem s0 1000) fun x2 => (m12_another_p94 k15 v0 v1 v2 v4 v3 x2))) else (m12_another_p94 k15 v0 v1 v2 v4 v3 0))
def m12_another_p15 : Nat → Nat → Int32 → Int32 → Int32 → Int32 → gM Int32
  | 0, _, _, _, _, _ => mf
  | n + 1, v0, v1, v2, v3, v4 => (mb (gGetR [11] v0 0) fun r3 => (mb (gLdI 100 r3 5) fun x4 => (if (x4 : Int32) ≤ v4 then (mp v3) else (mb (gGetR [11] v0 0) fun r5 => (mb (gLdI 100 r5 0) fun x6 => (mb (mv [11] v0 (m12_stands v0 v4 x6)) fun x7 => (if x7 = 0 then (m12_another_p63 (m12_another_p15 n) v0 v1 v2 v3 v4 (-1)) else (mb (mv [11] v0 (m12_of v0 v4 0)) fun x8 => (mb (gGetR [11] v0 0) fun r9 => (mb (gLdI 100 r9 0) fun x10 => (mb (mv [11] v0 (m12_rangeOf v0 x8 v1 x10)) fun x11 => (m12_another_p63 (m12_another_p15 n) v0 v1 v2 v3 v4 x11))))))))))))
def m12_another (v0 : Nat) (v1 : Int32) (v2 : Int32) : gM Int32 := (mb (mv [11] v0 (m12_isVersion v0 v1)) fun x12 => (if x12 = 0 then (mp (-1)) else (m12_another_p15 FU v0 v1 v2 0 0)))
/-- m12_pointsBy -/
def m12_pointsBy_p22 (s0 : Int32) : gM Int32 := (mp s0)
def m12_pointsBy (v0 : Nat) (v1 : Int32) (v2 : Int32) : gM Int32 := (mb (mv [11] v0 (m12_lawOf v0 v1 v2)) fun x1 => (if 0 ≤ x1 then (mb (mv [11] v0 (m12_pointsOf v0 v1 x1 v2)) fun x2 => (m12_pointsBy_p22 x2)) else (m12_pointsBy_p22 0)))
/-- m12_unlike -/
def m12_unlike_p125 (s0 : Int32) (s1 : Int32) : gM Int32 := (mp (s0 + s1))
def m12_unlike_p92 (v0 : Nat) (v1 : Int32) (v2 : Int32) (v3 : Int32) (s0 : Int32) (s1 : Int32) : gM Int32 := (mb (mv [11] v0 (m12_pointsBy v0 v1 v3)) fun x1 => (mb (mv [11] v0 (m12_pointsBy v0 v2 v3)) fun x2 => (if 0 ≤ (x1 - x2) then (m12_unlike_p125 (s0 + s1) (x1 - x2)) else (m12_unlike_p125 (s0 + s1) (-(x1 - x2))))))
def m12_unlike_p48 : Nat → Nat → Int32 → Int32 → Int32 → Int32 → Int32 → Int32 → gM Int32
  | 0, _, _, _, _, _, _, _ => mf
  | n + 1, v0, v1, v2, v3, v4, v5, v6 => (if (4 : Int32) ≤ v6 then (mb (mv [11] v0 (m12_isYoung v0 v1)) fun x3 => (mb (mv [11] v0 (m12_isYoung v0 v2)) fun x4 => (if x3 = x4 then (m12_unlike_p92 v0 v1 v2 v3 v4 0) else (m12_unlike_p92 v0 v1 v2 v3 v4 2)))) else (m12_unlike_p48 n v0 v1 v2 v3 (v4 + ((v5 >>> (v6 &&& 31)) &&& 1)) v5 (v6 + 1)))
def m12_unlike_p28 (v0 : Nat) (v1 : Int32) (v2 : Int32) (v3 : Int32) (s0 : Int32) : gM Int32 := (mb (mv [11] v0 (m12_factsOf v0 v1 v3)) fun x5 => (mb (mv [11] v0 (m12_factsOf v0 v2 v3)) fun x6 => (m12_unlike_p48 FU v0 v1 v2 v3 s0 (x5 ^^^ x6) 0)))
def m12_unlike (v0 : Nat) (v1 : Int32) (v2 : Int32) (v3 : Int32) : gM Int32 := (mb (gGetR [11] v0 2) fun r7 => (mb (gLdI 100 r7 (((3 : Int32) * v1) + 1)) fun x8 => (mb (gGetR [11] v0 2) fun r9 => (mb (gLdI 100 r9 (((3 : Int32) * v2) + 1)) fun x10 => (if x8 = x10 then (m12_unlike_p28 v0 v1 v2 v3 0) else (m12_unlike_p28 v0 v1 v2 v3 3))))))
/-- m12_like -/
def m12_like_p15 : gM Int32 := (mp (-1))
def m12_like_p80 (k25 : Nat → Int32 → Int32 → Int32 → Int32 → Int32 → gM Int32) (v0 : Nat) (v1 : Int32) (v2 : Int32) (v3 : Int32) (v4 : Int32) (v5 : Int32) : gM Int32 := (k25 v0 v1 v2 v3 v4 (v5 + 1))
def m12_like_p73 (k25 : Nat → Int32 → Int32 → Int32 → Int32 → Int32 → gM Int32) (v0 : Nat) (v1 : Int32) (v2 : Int32) (v5 : Int32) (v6 : Int32) : gM Int32 := (m12_like_p80 k25 v0 v1 v2 v5 v6 v5)
def m12_like_p25 : Nat → Nat → Int32 → Int32 → Int32 → Int32 → Int32 → gM Int32
  | 0, _, _, _, _, _, _ => mf
  | n + 1, v0, v1, v2, v3, v4, v5 => (mb (gGetR [11] v0 0) fun r1 => (mb (gLdI 100 r1 2) fun x2 => (if (x2 : Int32) ≤ v5 then (mb (m12_orNone v3) fun x3 => (mp x3)) else (if (v5 : Int32) = v1 then (m12_like_p80 (m12_like_p25 n) v0 v1 v2 v3 v4 v5) else (mb (mv [11] v0 (m12_termOf v0 v5 v2)) fun x4 => (if x4 < 0 then (m12_like_p80 (m12_like_p25 n) v0 v1 v2 v3 v4 v5) else (mb (mv [11] v0 (m12_unlike v0 v1 v5 v2)) fun x5 => (if v3 < 0 then (m12_like_p73 (m12_like_p25 n) v0 v1 v2 v5 x5) else (if (v4 : Int32) ≤ x5 then (m12_like_p80 (m12_like_p25 n) v0 v1 v2 v3 v4 v5) else (m12_like_p73 (m12_like_p25 n) v0 v1 v2 v5 x5))))))))))
def m12_like (v0 : Nat) (v1 : Int32) (v2 : Int32) : gM Int32 := (mb (mv [11] v0 (m12_isDeed v0 v1)) fun x6 => (if x6 = 0 then (m12_like_p15) else (mb (m12_isDay v2) fun x7 => (if x7 = 0 then (m12_like_p15) else (m12_like_p25 FU v0 v1 v2 (-1) 0 0)))))
/-- m12_isShelf -/
def m12_isShelf (v0 : Int32) : gM Int32 := (mb (m12_in v0 0 3) fun x1 => (mz x1))
/-- m12_sheet -/
def m12_sheet_p26 : gM Int32 := (mp (-1))
def m12_sheet_p64 : Nat → Nat → Int32 → Int32 → gM Int32
  | 0, _, _, _ => mf
  | n + 1, v0, v1, v4 => (if (40 : Int32) ≤ v4 then (mp 1) else (mb (gGetR [11] v0 32) fun r1 => (mb (gStI 100 r1 (((40 : Int32) * v1) + v4) 0) fun _ => (m12_sheet_p64 n v0 v1 (v4 + 1)))))
def m12_sheet_p60 (v0 : Nat) (v1 : Int32) (s0 : Nat) (s1 : Int32) (s2 : Int32) : gM Int32 := (mb (gStI 100 s0 s1 s2) fun _ => (m12_sheet_p64 FU v0 v1 0))
def m12_sheet_p39 (v0 : Nat) (v1 : Int32) (v2 : Int32) (v3 : Int32) : gM Int32 := (mb (gGetR [11] v0 30) fun r2 => (mb (gStI 100 r2 v1 v2) fun _ => (mb (gGetR [11] v0 31) fun r3 => (if 0 ≤ v2 then (m12_sheet_p60 v0 v1 r3 v1 v3) else (m12_sheet_p60 v0 v1 r3 v1 0)))))
def m12_sheet_p28 (v0 : Nat) (v1 : Int32) (v2 : Int32) (v3 : Int32) : gM Int32 := (if v2 < 0 then (m12_sheet_p39 v0 v1 v2 v3) else (if 0 ≤ v3 then (m12_sheet_p39 v0 v1 v2 v3) else (mp (-14))))
def m12_sheet (v0 : Nat) (v1 : Int32) (v2 : Int32) (v3 : Int32) : gM Int32 := (mb (m12_isShelf v1) fun x4 => (if x4 = 0 then (m12_sheet_p26) else (mb (m12_in v2 (-1) 3) fun x5 => (if x5 = 0 then (m12_sheet_p26) else (if v2 < 0 then (m12_sheet_p28 v0 v1 v2 v3) else (if (v3 : Int32) ≤ 40 then (m12_sheet_p28 v0 v1 v2 v3) else (m12_sheet_p26)))))))
/-- m12_narrowed -/
def m12_narrowed_p47 (s0 : Int32) : gM Int32 := (mp s0)
def m12_narrowed_p48 (v1 : Int32) : gM Int32 := (mp v1)
def m12_narrowed (v0 : Int32) (v1 : Int32) : gM Int32 := (if v0 = 0 then (mp (Int8.toInt32 (Int32.toInt8 v1))) else (if v0 = 1 then (mp (Int16.toInt32 (Int32.toInt16 v1))) else (if v0 = 2 then (m12_narrowed_p48 v1) else (if v0 = 3 then (if v1 = 0 then (m12_narrowed_p47 0) else (m12_narrowed_p47 1)) else (m12_narrowed_p48 v1)))))
/-- m12_put -/
def m12_put (v0 : Nat) (v1 : Int32) (v2 : Int32) (v3 : Int32) : gM Int32 := (mb (m12_isShelf v1) fun x1 => (if x1 = 0 then (mp (-1)) else (mb (gGetR [11] v0 30) fun r2 => (mb (gLdI 100 r2 v1) fun x3 => (if 0 ≤ x3 then (mb (gGetR [11] v0 31) fun r4 => (mb (gLdI 100 r4 v1) fun x5 => (mb (m12_in v2 0 (x5 - 1)) fun x6 => (if x6 = 0 then (mp (-12)) else (mb (gGetR [11] v0 32) fun r7 => (mb (gGetR [11] v0 30) fun r8 => (mb (gLdI 100 r8 v1) fun x9 => (mb (m12_narrowed x9 v3) fun x10 => (mb (gStI 100 r7 (((40 : Int32) * v1) + v2) x10) fun _ => (mp 1)))))))))) else (mp (-11)))))))
/-- m12_lacksSort -/
def m12_lacksSort_p30 (s0 : Int32) : gM Int32 := (mp s0)
def m12_lacksSort (v0 : Nat) (v1 : Int32) (v2 : Int32) : gM Int32 := (mb (gGetR [11] v0 30) fun r1 => (mb (gLdI 100 r1 v1) fun x2 => (if 0 ≤ x2 then (mb (gGetR [11] v0 30) fun r3 => (mb (gLdI 100 r3 v1) fun x4 => (if (x4 : Int32) = v2 then (m12_lacksSort_p30 0) else (m12_lacksSort_p30 (-13))))) else (m12_lacksSort_p30 (-11)))))
/-- m12_item -/
def m12_item_p16 : gM Int32 := (mp (-1))
def m12_item_p66 (s0 : Int32) : gM Int32 := (mp s0)
def m12_item (v0 : Nat) (v1 : Int32) (v2 : Int32) (v3 : Int32) : gM Int32 := (mb (m12_isShelf v1) fun x1 => (if x1 = 0 then (m12_item_p16) else (mb (m12_in v2 0 3) fun x2 => (if x2 = 0 then (m12_item_p16) else (mb (mv [11] v0 (m12_lacksSort v0 v1 v2)) fun x3 => (if x3 = 0 then (mb (gGetR [11] v0 31) fun r4 => (mb (gLdI 100 r4 v1) fun x5 => (mb (m12_in v3 0 (x5 - 1)) fun x6 => (if x6 = 0 then (m12_item_p66 (-12)) else (mb (gGetR [11] v0 32) fun r7 => (mb (gLdI 100 r7 (((40 : Int32) * v1) + v3)) fun x8 => (m12_item_p66 x8))))))) else (mp x3)))))))
/-- m12_comes -/
def m12_comes_p26 : gM Int32 := (mp (-1))
def m12_comes_p76 : gM Int32 := (mp (-12))
def m12_comes_p123 (k50 : Nat → Int32 → Int32 → Int32 → Int32 → Int32 → Int32 → gM Int32) (v0 : Nat) (v1 : Int32) (v2 : Int32) (v3 : Int32) (v4 : Int32) (v6 : Int32) (v7 : Int32) : gM Int32 := (k50 v0 v1 v2 v3 v4 v6 (v7 + 1))
def m12_comes_p50 : Nat → Nat → Int32 → Int32 → Int32 → Int32 → Int32 → Int32 → gM Int32
  | 0, _, _, _, _, _, _, _ => mf
  | n + 1, v0, v1, v2, v3, v4, v6, v7 => (if (v4 : Int32) ≤ v7 then (mp v6) else (if v3 < 0 then (m12_comes_p76) else (mb (gGetR [11] v0 31) fun r1 => (mb (gLdI 100 r1 v2) fun x2 => (if (v3 : Int32) ≤ ((x2 - 1) - v7) then (mb (gGetR [11] v0 32) fun r3 => (mb (gLdI 100 r3 ((((40 : Int32) * v2) + v3) + v7)) fun x4 => (mb (m12_in x4 0 15) fun x5 => (if x5 = 0 then (m12_comes_p123 (m12_comes_p50 n) v0 v1 v2 v3 v4 v6 v7) else (mb (mv [11] v0 (m12_finding v0 v1 x4 0)) fun x6 => (if 0 ≤ x6 then (m12_comes_p123 (m12_comes_p50 n) v0 v1 v2 v3 v4 (v6 + 1) v7) else (mp (-2)))))))) else (m12_comes_p76))))))
def m12_comes (v0 : Nat) (v1 : Int32) (v2 : Int32) (v3 : Int32) (v4 : Int32) : gM Int32 := (mb (mv [11] v0 (m12_isDeed v0 v1)) fun x7 => (if x7 = 0 then (m12_comes_p26) else (mb (m12_isShelf v2) fun x8 => (if x8 = 0 then (m12_comes_p26) else (mb (m12_in v4 0 9) fun x9 => (if x9 = 0 then (m12_comes_p26) else (mb (mv [11] v0 (m12_lacksSort v0 v2 1)) fun x10 => (if x10 = 0 then (m12_comes_p50 FU v0 v1 v2 v3 v4 0 0) else (mp x10)))))))))
/-- m12_isThing -/
def m12_isThing_p81 (s0 : Int32) : gM Int32 := (mz s0)
def m12_isThing_p76 : gM Int32 := (m12_isThing_p81 1)
def m12_isThing (v0 : Nat) (v1 : Int32) (v2 : Int32) : gM Int32 := (if v1 = 0 then (mb (mv [11] v0 (m12_isDeed v0 v2)) fun x8 => (mz x8)) else (if v1 = 1 then (mb (gGetR [11] v0 0) fun r5 => (mb (gLdI 100 r5 3) fun x6 => (mb (m12_in v2 0 (x6 - 1)) fun x7 => (mz x7)))) else (if v1 = 2 then (mb (mv [11] v0 (m12_isTerm v0 v2)) fun x4 => (mz x4)) else (if v1 = 3 then (mb (mv [11] v0 (m12_isVersion v0 v2)) fun x3 => (mz x3)) else (if (v1 : Int32) = 5 then (m12_isThing_p76) else (mb (m12_isShelf v2) fun x1 => (if x1 = 0 then (m12_isThing_p81 0) else (m12_isThing_p76))))))))
/-- m12_shelf -/
def m12_shelf_p25 : gM Int32 := (mp (-1))
def m12_shelf_p98 (s0 : Nat) (s1 : Int32) (s2 : Int32) : gM Int32 := (mb (gStI 100 s0 s1 s2) fun _ => (mp 1))
def m12_shelf_p77 (v0 : Nat) (v1 : Int32) (v2 : Int32) (v3 : Int32) (s0 : Nat) (s1 : Int32) (s2 : Int32) : gM Int32 := (mb (gStI 100 s0 s1 s2) fun _ => (mb (gGetR [11] v0 35) fun r1 => (if v2 = 4 then (mb (gGetR [11] v0 31) fun r2 => (mb (gLdI 100 r2 v3) fun x3 => (m12_shelf_p98 r1 v1 x3))) else (m12_shelf_p98 r1 v1 0))))
def m12_shelf_p56 (v0 : Nat) (v1 : Int32) (v2 : Int32) (v3 : Int32) (s0 : Nat) (s1 : Int32) (s2 : Int32) : gM Int32 := (mb (gStI 100 s0 s1 s2) fun _ => (mb (gGetR [11] v0 34) fun r4 => (if v2 = 4 then (mb (gGetR [11] v0 30) fun r5 => (mb (gLdI 100 r5 v3) fun x6 => (m12_shelf_p77 v0 v1 v2 v3 r4 v1 x6))) else (m12_shelf_p77 v0 v1 v2 v3 r4 v1 v3))))
def m12_shelf_p51 (v0 : Nat) (v1 : Int32) (v2 : Int32) (v3 : Int32) (s0 : Nat) (s1 : Int32) : gM Int32 := (m12_shelf_p56 v0 v1 v2 v3 s0 s1 (-1))
def m12_shelf_p55 (v0 : Nat) (v1 : Int32) (v2 : Int32) (v3 : Int32) (s0 : Nat) (s1 : Int32) : gM Int32 := (m12_shelf_p56 v0 v1 v2 v3 s0 s1 v2)
def m12_shelf (v0 : Nat) (v1 : Int32) (v2 : Int32) (v3 : Int32) : gM Int32 := (mb (m12_isShelf v1) fun x7 => (if x7 = 0 then (m12_shelf_p25) else (mb (m12_in v2 0 5) fun x8 => (if x8 = 0 then (m12_shelf_p25) else (mb (mv [11] v0 (m12_isThing v0 v2 v3)) fun x9 => (if x9 = 0 then (m12_shelf_p25) else (mb (gGetR [11] v0 33) fun r10 => (if (v2 : Int32) = 5 then (m12_shelf_p51 v0 v1 v2 v3 r10 v1) else (if v2 = 4 then (mb (gGetR [11] v0 30) fun r11 => (mb (gLdI 100 r11 v3) fun x12 => (if 0 ≤ x12 then (m12_shelf_p55 v0 v1 v2 v3 r10 v1) else (m12_shelf_p51 v0 v1 v2 v3 r10 v1)))) else (m12_shelf_p55 v0 v1 v2 v3 r10 v1))))))))))
/-- m12_kindOn -/
def m12_kindOn_p33 (s0 : Int32) : gM Int32 := (mp s0)
def m12_kindOn_p23 (v2 : Int32) : gM Int32 := (if 0 ≤ v2 then (m12_kindOn_p33 9) else (m12_kindOn_p33 (-1)))
def m12_kindOn_p92 (s0 : Int32) : gM Int32 := (mp s0)
def m12_kindOn (v0 : Nat) (v1 : Int32) : gM Int32 := (mb (gGetR [11] v0 33) fun r1 => (mb (gLdI 100 r1 v1) fun x2 => (mb (gGetR [11] v0 34) fun r3 => (mb (gLdI 100 r3 v1) fun x4 => (if x2 < 0 then (m12_kindOn_p23 x2) else (if x2 = 4 then (m12_kindOn_p23 x2) else (mb (mv [11] v0 (m12_isThing v0 x2 x4)) fun x5 => (if x5 = 0 then (mp (-1)) else (if x2 = 0 then (mb (mv [11] v0 (m12_isYoung v0 x4)) fun x7 => (if x7 = 0 then (m12_kindOn_p92 1) else (m12_kindOn_p92 2))) else (if x2 = 1 then (m12_kindOn_p92 3) else (if x2 = 2 then (mb (mv [11] v0 (m12_of v0 x4 4)) fun x6 => (m12_kindOn_p92 ((4 : Int32) + x6))) else (m12_kindOn_p92 6))))))))))))
/-- m12_isUnder -/
def m12_isUnder_p34 (s0 : Int32) : gM Int32 := (mz s0)
def m12_isUnder_p29 : gM Int32 := (m12_isUnder_p34 1)
def m12_isUnder_p33 : gM Int32 := (m12_isUnder_p34 0)
def m12_isUnder_p19 (v0 : Int32) (v1 : Int32) : gM Int32 := (if v1 = 4 then (if v0 = 5 then (m12_isUnder_p29) else (m12_isUnder_p33)) else (m12_isUnder_p33))
def m12_isUnder (v0 : Int32) (v1 : Int32) : gM Int32 := (if v1 = 0 then (m12_isUnder_p29) else (if (v0 : Int32) = v1 then (m12_isUnder_p29) else (if v1 = 1 then (if (v0 : Int32) = 2 then (m12_isUnder_p29) else (m12_isUnder_p19 v0 v1)) else (m12_isUnder_p19 v0 v1))))
/-- m12_taken -/
def m12_taken_p28 : gM Int32 := (mp (-1))
def m12_taken_p73 (s0 : Int32) : gM Int32 := (mp s0)
def m12_taken_p99 (s0 : Int32) : gM Int32 := (mp s0)
def m12_taken_p97 : gM Int32 := (m12_taken_p99 (-13))
def m12_taken_p30 (v0 : Nat) (v1 : Int32) (v2 : Int32) : gM Int32 := (mb (mv [11] v0 (m12_kindOn v0 v1)) fun x1 => (if 0 ≤ x1 then (if x1 = 9 then (mb (gGetR [11] v0 34) fun r5 => (mb (gLdI 100 r5 v1) fun x6 => (if v2 = ((10 : Int32) + x6) then (mb (gGetR [11] v0 35) fun r7 => (mb (gLdI 100 r7 v1) fun x8 => (m12_taken_p73 x8))) else (m12_taken_p73 (-13))))) else (if (10 : Int32) ≤ v2 then (m12_taken_p97) else (mb (m12_isUnder x1 v2) fun x2 => (if x2 = 0 then (m12_taken_p97) else (mb (gGetR [11] v0 34) fun r3 => (mb (gLdI 100 r3 v1) fun x4 => (m12_taken_p99 x4))))))) else (mp (-11))))
def m12_taken (v0 : Nat) (v1 : Int32) (v2 : Int32) : gM Int32 := (mb (m12_isShelf v1) fun x9 => (if x9 = 0 then (m12_taken_p28) else (mb (m12_in v2 0 6) fun x10 => (if x10 = 0 then (mb (m12_in v2 10 13) fun x11 => (if x11 = 0 then (m12_taken_p28) else (m12_taken_p30 v0 v1 v2))) else (m12_taken_p30 v0 v1 v2)))))
/-- m12_ran -/
def m12_ran_p29 : gM Unit := (mp ())
def m12_ran (v0 : Nat) (v1 : Int32) : gM Unit := (mb (gGetI [11] v0 40) fun x1 => (if (30 : Int32) ≤ x1 then (m12_ran_p29) else (mb (gGetR [11] v0 39) fun r2 => (mb (gGetI [11] v0 40) fun x3 => (mb (gStI 100 r2 x3 v1) fun _ => (mb (gGetI [11] v0 40) fun x4 => (mb (gPutI [11] v0 40 (x4 + 1)) fun _ => (m12_ran_p29))))))))
/-- m12_weighs -/
def m12_weighs_p92 (s0 : Int32) : gM Int32 := (mp s0)
def m12_weighs_p67 (v0 : Nat) (v2 : Int32) : gM Int32 := (mb (gGetI [11] v0 38) fun x1 => (m12_weighs_p92 (v2 + x1)))
def m12_weighs_p36 (v0 : Nat) (v1 : Int32) : gM Int32 := (mb (mv [11] v0 (m12_ran v0 10)) fun _ => (mb (gGetI [11] v0 37) fun x2 => (mb (gGetI [11] v0 36) fun x3 => (if (x3 : Int32) = 1 then (m12_weighs_p67 v0 ((v1 * 2) + x2)) else (mb (gGetI [11] v0 36) fun x4 => (if x4 = 2 then (m12_weighs_p67 v0 ((v1 * 2) + x2)) else (mb (gGetI [11] v0 36) fun x5 => (if x5 = 5 then (m12_weighs_p92 (((v1 * 2) + x2) ^^^ 6)) else (m12_weighs_p92 ((v1 * 2) + x2))))))))))
def m12_weighs_p22 (v0 : Nat) (v1 : Int32) : gM Int32 := (mb (gGetI [11] v0 36) fun x6 => (if x6 = 5 then (mb (mv [11] v0 (m12_ran v0 60)) fun _ => (m12_weighs_p36 v0 v1)) else (m12_weighs_p36 v0 v1)))
def m12_weighs_p16 (v0 : Nat) (v1 : Int32) : gM Int32 := (mb (mv [11] v0 (m12_ran v0 20)) fun _ => (m12_weighs_p22 v0 v1))
def m12_weighs (v0 : Nat) (v1 : Int32) : gM Int32 := (mb (gGetI [11] v0 36) fun x7 => (if (x7 : Int32) = 1 then (m12_weighs_p16 v0 v1) else (mb (gGetI [11] v0 36) fun x8 => (if x8 = 2 then (m12_weighs_p16 v0 v1) else (m12_weighs_p22 v0 v1)))))
/-- m12_paperBars -/
def m12_paperBars (v0 : Nat) (v1 : Int32) : gM Int32 := (mb (mv [11] v0 (m12_ran v0 11)) fun _ => (mb (mv [11] v0 (m12_weighs v0 v1)) fun x1 => (mb (gGetI [11] v0 38) fun x2 => (mp (x1 - x2)))))
/-- m12_bars -/
def m12_bars_p44 (v0 : Nat) (v1 : Int32) : gM Int32 := (mb (mv [11] v0 (m12_ran v0 50)) fun _ => (mb (mv [11] v0 (m12_paperBars v0 v1)) fun x1 => (mp (x1 + 30))))
def m12_bars (v0 : Nat) (v1 : Int32) : gM Int32 := (mb (gGetI [11] v0 36) fun x2 => (if x2 = 2 then (mb (mv [11] v0 (m12_ran v0 30)) fun _ => (mb (mv [11] v0 (m12_paperBars v0 v1)) fun x6 => (mb (mv [11] v0 (m12_weighs v0 0)) fun x7 => (mp (x6 - x7))))) else (mb (gGetI [11] v0 36) fun x3 => (if (x3 : Int32) = 4 then (m12_bars_p44 v0 v1) else (mb (gGetI [11] v0 36) fun x4 => (if x4 = 5 then (m12_bars_p44 v0 v1) else (mb (mv [11] v0 (m12_paperBars v0 v1)) fun x5 => (mp x5))))))))
/-- m12_paperParts -/
def m12_paperParts (v0 : Nat) (v1 : Int32) : gM Int32 := (mb (mv [11] v0 (m12_ran v0 12)) fun _ => (mb (gGetI [11] v0 38) fun x1 => (mb (gGetI [11] v0 37) fun x2 => (if x1 = x2 then (mb (gPutZ [11] v0 41 1) fun _ => (mp 0)) else (mb (gGetI [11] v0 38) fun x3 => (mb (gGetI [11] v0 37) fun x4 => (mb (gDiv v1 (x3 - x4)) fun x5 => (mp x5))))))))
/-- m12_partsOf -/
def m12_partsOf (v0 : Nat) (v1 : Int32) : gM Int32 := (mb (gGetI [11] v0 36) fun x1 => (if x1 = 3 then (mb (mv [11] v0 (m12_ran v0 40)) fun _ => (mb (mv [11] v0 (m12_paperParts v0 (v1 + 2))) fun x5 => (mp x5))) else (mb (gGetI [11] v0 36) fun x2 => (if x2 = 5 then (mb (mv [11] v0 (m12_ran v0 61)) fun _ => (mb (mv [11] v0 (m12_paperParts v0 v1)) fun x4 => (mp (x4 - 1)))) else (mb (mv [11] v0 (m12_paperParts v0 v1)) fun x3 => (mp x3))))))
/-- m12_paperTells -/
def m12_paperTells (v0 : Nat) (v1 : Int32) : gM Int32 := (mb (mv [11] v0 (m12_ran v0 13)) fun _ => (mb (mv [11] v0 (m12_bars v0 v1)) fun x1 => (mb (gGetI [11] v0 38) fun x2 => (mp (x1 ^^^ x2)))))
/-- m12_tells -/
def m12_tells (v0 : Nat) (v1 : Int32) : gM Int32 := (mb (gGetI [11] v0 36) fun x1 => (if x1 = 3 then (mb (mv [11] v0 (m12_ran v0 41)) fun _ => (mb (mv [11] v0 (m12_paperTells v0 v1)) fun x7 => (mp (x7 * 5)))) else (mb (gGetI [11] v0 36) fun x2 => (if x2 = 6 then (mb (mv [11] v0 (m12_ran v0 70)) fun _ => (mb (mv [11] v0 (m12_paperTells v0 v1)) fun x4 => (mb (gGetI [11] v0 38) fun x5 => (mb (mv [11] v0 (m12_weighs v0 x5)) fun x6 => (mp (x4 + x6)))))) else (mb (mv [11] v0 (m12_paperTells v0 v1)) fun x3 => (mp x3))))))
/-- m12_theirs -/
def m12_theirs_p43 (v0 : Nat) (v2 : Int32) : gM Int32 := (mb (mv [11] v0 (m12_of v0 v2 2)) fun x1 => (mp x1))
def m12_theirs (v0 : Nat) (v1 : Int32) (v2 : Int32) : gM Int32 := (if v1 = 3 then (mb (gGetR [11] v0 3) fun r7 => (mb (gLdI 100 r7 (((4 : Int32) * v2) + 1)) fun x8 => (mp x8))) else (if v1 = 4 then (m12_theirs_p43 v0 v2) else (if v1 = 5 then (m12_theirs_p43 v0 v2) else (if v1 = 6 then (mb (gGetR [11] v0 4) fun r5 => (mb (gLdI 100 r5 ((2 : Int32) * v2)) fun x6 => (mp x6))) else (mb (gGetR [11] v0 2) fun r2 => (mb (gLdI 100 r2 (((3 : Int32) * v2) + 1)) fun x3 => (mp x3)))))))
/-- m12_act -/
def m12_act_p35 : gM Int32 := (mp 0)
def m12_act_p136 (s0 : Int32) : gM Int32 := (mp s0)
def m12_act_p120 (v0 : Nat) (s0 : Int32) : gM Int32 := (mb (gGetI [11] v0 41) fun x1 => (if x1 = 0 then (m12_act_p136 s0) else (m12_act_p136 (-15))))
def m12_act (v0 : Nat) (v1 : Int32) (v2 : Int32) (v3 : Int32) : gM Int32 := (mb (gPutI [11] v0 40 0) fun _ => (mb (m12_isShelf v1) fun x2 => (if x2 = 0 then (m12_act_p35) else (mb (m12_in v2 0 3) fun x3 => (if x3 = 0 then (m12_act_p35) else (mb (mv [11] v0 (m12_kindOn v0 v1)) fun x4 => (mb (m12_in x4 1 6) fun x5 => (if x5 = 0 then (m12_act_p35) else (mb (mv [11] v0 (m12_kindOn v0 v1)) fun x6 => (mb (gPutI [11] v0 36 x6) fun _ => (mb (gGetR [11] v0 34) fun r7 => (mb (gLdI 100 r7 v1) fun x8 => (mb (gPutI [11] v0 37 x8) fun _ => (mb (gGetI [11] v0 36) fun x9 => (mb (gGetI [11] v0 37) fun x10 => (mb (mv [11] v0 (m12_theirs v0 x9 x10)) fun x11 => (mb (gPutI [11] v0 38 x11) fun _ => (mb (gPutZ [11] v0 41 0) fun _ => (if v2 = 0 then (mb (mv [11] v0 (m12_weighs v0 v3)) fun x15 => (m12_act_p120 v0 x15)) else (if v2 = 1 then (mb (mv [11] v0 (m12_bars v0 v3)) fun x14 => (m12_act_p120 v0 x14)) else (if v2 = 2 then (mb (mv [11] v0 (m12_partsOf v0 v3)) fun x13 => (m12_act_p120 v0 x13)) else (mb (mv [11] v0 (m12_tells v0 v3)) fun x12 => (m12_act_p120 v0 x12)))))))))))))))))))))))
/-- m12_trace -/
def m12_trace_p25 (s0 : Int32) : gM Int32 := (mp s0)
def m12_trace (v0 : Nat) (v1 : Int32) : gM Int32 := (mb (gGetI [11] v0 40) fun x1 => (mb (m12_in v1 0 (x1 - 1)) fun x2 => (if x2 = 0 then (m12_trace_p25 (-3)) else (mb (gGetR [11] v0 39) fun r3 => (mb (gLdI 100 r3 v1) fun x4 => (m12_trace_p25 x4))))))
/-- m12_many -/
def m12_many (v0 : Nat) (v1 : Int32) : gM Int32 := (mb (m12_in v1 0 5) fun x1 => (if x1 = 0 then (if v1 = 6 then (mb (gGetR [11] v0 0) fun r8 => (mb (gLdI 100 r8 0) fun x9 => (mb (mv [11] v0 (m12_standing v0 x9)) fun x10 => (mp x10)))) else (if v1 = 7 then (mb (gGetR [11] v0 0) fun r6 => (mb (gLdI 100 r6 6) fun x7 => (mp x7))) else (if v1 = 8 then (mb (gGetI [11] v0 27) fun x5 => (mp x5)) else (if v1 = 9 then (mb (gGetI [11] v0 10) fun x4 => (mp x4)) else (if v1 = 10 then (mb (gGetI [11] v0 40) fun x3 => (mp x3)) else (mp (-1))))))) else (mb (gGetR [11] v0 0) fun r11 => (mb (gLdI 100 r11 v1) fun x12 => (mp x12)))))
/-- m12_move -/
def m12_move_p42 (k3 : Nat → Nat → Int32 → Int32 → Int32 → gM Unit) (v0 : Nat) (v1 : Nat) (v2 : Int32) (v3 : Int32) (v4 : Int32) : gM Unit := (mb (gGetI [11] v0 44) fun x1 => (mb (gPutI [11] v0 44 (x1 + 1)) fun _ => (k3 v0 v1 v2 v3 (v4 + 1))))
def m12_move_p3 : Nat → Nat → Nat → Int32 → Int32 → Int32 → gM Unit
  | 0, _, _, _, _, _ => mf
  | n + 1, v0, v1, v2, v3, v4 => (if (v2 : Int32) ≤ v4 then (mp ()) else (if v3 = 0 then (mb (gGetR [11] v0 43) fun r2 => (mb (gGetI [11] v0 44) fun x3 => (mb (gLdI 100 r2 x3) fun x4 => (mb (gStI 100 v1 v4 x4) fun _ => (m12_move_p42 (m12_move_p3 n) v0 v1 v2 v3 v4))))) else (mb (gGetR [11] v0 43) fun r5 => (mb (gGetI [11] v0 44) fun x6 => (mb (gLdI 100 v1 v4) fun x7 => (mb (gStI 100 r5 x6 x7) fun _ => (m12_move_p42 (m12_move_p3 n) v0 v1 v2 v3 v4)))))))
def m12_move (v0 : Nat) (v1 : Nat) (v2 : Int32) (v3 : Int32) : gM Unit := (m12_move_p3 FU v0 v1 v2 v3 0)
/-- m12_moveAll -/
def m12_moveAll (v0 : Nat) (v1 : Int32) : gM Unit := (mb (gPutI [11] v0 44 0) fun _ => (mb (gGetR [11] v0 0) fun r1 => (mb (mv [11] v0 (m12_move v0 r1 7 v1)) fun _ => (mb (gGetR [11] v0 1) fun r2 => (mb (mv [11] v0 (m12_move v0 r2 16 v1)) fun _ => (mb (gGetR [11] v0 2) fun r3 => (mb (mv [11] v0 (m12_move v0 r3 48 v1)) fun _ => (mb (gGetR [11] v0 3) fun r4 => (mb (mv [11] v0 (m12_move v0 r4 96 v1)) fun _ => (mb (gGetR [11] v0 4) fun r5 => (mb (mv [11] v0 (m12_move v0 r5 12 v1)) fun _ => (mb (gGetR [11] v0 5) fun r6 => (mb (mv [11] v0 (m12_move v0 r6 504 v1)) fun _ => (mb (gGetR [11] v0 6) fun r7 => (mb (mv [11] v0 (m12_move v0 r7 1560 v1)) fun _ => (mb (gGetR [11] v0 7) fun r8 => (mb (mv [11] v0 (m12_move v0 r8 112 v1)) fun _ => (mb (gGetR [11] v0 8) fun r9 => (mb (mv [11] v0 (m12_move v0 r9 36 v1)) fun _ => (mp ()))))))))))))))))))))
/-- m12_keep -/
def m12_keep (v0 : Nat) : gM Int32 := (mb (mv [11] v0 (m12_moveAll v0 1)) fun _ => (mb (gPutZ [11] v0 42 1) fun _ => (mp 1)))
/-- m12_again -/
def m12_again (v0 : Nat) : gM Int32 := (mb (gGetI [11] v0 42) fun x1 => (if x1 = 0 then (mp (-3)) else (mb (mv [11] v0 (m12_moveAll v0 0)) fun _ => (mp 1))))

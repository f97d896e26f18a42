theorem dX11_init_112 : decode cX11_init 112 = .ok (.newarray .int, 2) := by decide +kernel
theorem dX11_init_114 : decode cX11_init 114 = .ok (.putfield 65, 3) := by decide +kernel
theorem dX11_init_117 : decode cX11_init 117 = .ok (.aload_n 0, 1) := by decide +kernel
theorem dX11_init_118 : decode cX11_init 118 = .ok (.bipush 16, 2) := by decide +kernel
theorem dX11_init_120 : decode cX11_init 120 = .ok (.newarray .int, 2) := by decide +kernel
theorem dX11_init_122 : decode cX11_init 122 = .ok (.putfield 68, 3) := by decide +kernel
theorem dX11_init_125 : decode cX11_init 125 = .ok (.aload_n 0, 1) := by decide +kernel
theorem dX11_init_126 : decode cX11_init 126 = .ok (.sipush 512, 3) := by decide +kernel
theorem dX11_init_129 : decode cX11_init 129 = .ok (.newarray .int, 2) := by decide +kernel
theorem dX11_init_131 : decode cX11_init 131 = .ok (.putfield 71, 3) := by decide +kernel
theorem dX11_init_134 : decode cX11_init 134 = .ok (.aload_n 0, 1) := by decide +kernel
theorem dX11_init_135 : decode cX11_init 135 = .ok (.getfield 49, 3) := by decide +kernel
theorem dX11_init_138 : decode cX11_init 138 = .ok (.iconst (-1), 1) := by decide +kernel
theorem dX11_init_139 : decode cX11_init 139 = .ok (.invokestatic 74, 3) := by decide +kernel
theorem dX11_init_142 : decode cX11_init 142 = .ok (.aload_n 0, 1) := by decide +kernel
theorem dX11_init_143 : decode cX11_init 143 = .ok (.getfield 56, 3) := by decide +kernel
theorem dX11_init_146 : decode cX11_init 146 = .ok (.iconst 5, 1) := by decide +kernel
theorem dX11_init_147 : decode cX11_init 147 = .ok (.invokestatic 74, 3) := by decide +kernel
theorem dX11_init_150 : decode cX11_init 150 = .ok (.return_, 1) := by decide +kernel
theorem dX11_days_0 : decode cX11_days 0 = .ok (.iload_n 1, 1) := by decide +kernel
theorem dX11_days_1 : decode cX11_days 1 = .ok (.iconst 1, 1) := by decide +kernel
theorem dX11_days_2 : decode cX11_days 2 = .ok (.if_icmp .lt 10, 3) := by decide +kernel
theorem dX11_days_5 : decode cX11_days 5 = .ok (.iload_n 1, 1) := by decide +kernel
theorem dX11_days_6 : decode cX11_days 6 = .ok (.sipush 2000, 3) := by decide +kernel
theorem dX11_days_9 : decode cX11_days 9 = .ok (.if_icmp .le 5, 3) := by decide +kernel
theorem dX11_days_12 : decode cX11_days 12 = .ok (.iconst (-1), 1) := by decide +kernel
theorem dX11_days_13 : decode cX11_days 13 = .ok (.ireturn, 1) := by decide +kernel
theorem dX11_days_14 : decode cX11_days 14 = .ok (.aload_n 0, 1) := by decide +kernel
theorem dX11_days_15 : decode cX11_days 15 = .ok (.getfield 10, 3) := by decide +kernel
theorem dX11_days_18 : decode cX11_days 18 = .ok (.getfield 80, 3) := by decide +kernel
theorem dX11_days_21 : decode cX11_days 21 = .ok (.iload_n 1, 1) := by decide +kernel
theorem dX11_days_22 : decode cX11_days 22 = .ok (.iadd, 1) := by decide +kernel
theorem dX11_days_23 : decode cX11_days 23 = .ok (.sipush 9999, 3) := by decide +kernel
theorem dX11_days_26 : decode cX11_days 26 = .ok (.if_icmp .le 6, 3) := by decide +kernel
theorem dX11_days_29 : decode cX11_days 29 = .ok (.bipush (-4), 2) := by decide +kernel
theorem dX11_days_31 : decode cX11_days 31 = .ok (.ireturn, 1) := by decide +kernel
theorem dX11_days_32 : decode cX11_days 32 = .ok (.aload_n 0, 1) := by decide +kernel
theorem dX11_days_33 : decode cX11_days 33 = .ok (.getfield 10, 3) := by decide +kernel
theorem dX11_days_36 : decode cX11_days 36 = .ok (.dup, 1) := by decide +kernel
theorem dX11_days_37 : decode cX11_days 37 = .ok (.getfield 80, 3) := by decide +kernel
theorem dX11_days_40 : decode cX11_days 40 = .ok (.iload_n 1, 1) := by decide +kernel
theorem dX11_days_41 : decode cX11_days 41 = .ok (.iadd, 1) := by decide +kernel
theorem dX11_days_42 : decode cX11_days 42 = .ok (.putfield 80, 3) := by decide +kernel
theorem dX11_days_45 : decode cX11_days 45 = .ok (.aload_n 0, 1) := by decide +kernel
theorem dX11_days_46 : decode cX11_days 46 = .ok (.getfield 10, 3) := by decide +kernel
theorem dX11_days_49 : decode cX11_days 49 = .ok (.getfield 80, 3) := by decide +kernel
theorem dX11_days_52 : decode cX11_days 52 = .ok (.ireturn, 1) := by decide +kernel
theorem dX11_person_0 : decode cX11_person 0 = .ok (.iload_n 1, 1) := by decide +kernel
theorem dX11_person_1 : decode cX11_person 1 = .ok (.ifCond .lt 20, 3) := by decide +kernel
theorem dX11_person_4 : decode cX11_person 4 = .ok (.iload_n 1, 1) := by decide +kernel
theorem dX11_person_5 : decode cX11_person 5 = .ok (.bipush 90, 2) := by decide +kernel
theorem dX11_person_7 : decode cX11_person 7 = .ok (.if_icmp .gt 14, 3) := by decide +kernel
theorem dX11_person_10 : decode cX11_person 10 = .ok (.iload_n 2, 1) := by decide +kernel
theorem dX11_person_11 : decode cX11_person 11 = .ok (.ifCond .lt 10, 3) := by decide +kernel
theorem dX11_person_14 : decode cX11_person 14 = .ok (.iload_n 2, 1) := by decide +kernel
theorem dX11_person_15 : decode cX11_person 15 = .ok (.sipush 360, 3) := by decide +kernel
theorem dX11_person_18 : decode cX11_person 18 = .ok (.if_icmp .lt 5, 3) := by decide +kernel
theorem dX11_person_21 : decode cX11_person 21 = .ok (.iconst (-1), 1) := by decide +kernel
theorem dX11_person_22 : decode cX11_person 22 = .ok (.ireturn, 1) := by decide +kernel
theorem dX11_person_23 : decode cX11_person 23 = .ok (.aload_n 0, 1) := by decide +kernel
theorem dX11_person_24 : decode cX11_person 24 = .ok (.getfield 10, 3) := by decide +kernel
theorem dX11_person_27 : decode cX11_person 27 = .ok (.getfield 84, 3) := by decide +kernel
theorem dX11_person_30 : decode cX11_person 30 = .ok (.bipush 8, 2) := by decide +kernel
theorem dX11_person_32 : decode cX11_person 32 = .ok (.if_icmp .lt 6, 3) := by decide +kernel
theorem dX11_person_35 : decode cX11_person 35 = .ok (.bipush (-2), 2) := by decide +kernel
theorem dX11_person_37 : decode cX11_person 37 = .ok (.ireturn, 1) := by decide +kernel
theorem dX11_person_38 : decode cX11_person 38 = .ok (.aload_n 0, 1) := by decide +kernel
theorem dX11_person_39 : decode cX11_person 39 = .ok (.getfield 10, 3) := by decide +kernel
theorem dX11_person_42 : decode cX11_person 42 = .ok (.iload_n 1, 1) := by decide +kernel
theorem dX11_person_43 : decode cX11_person 43 = .ok (.sipush 360, 3) := by decide +kernel
theorem dX11_person_46 : decode cX11_person 46 = .ok (.imul, 1) := by decide +kernel
theorem dX11_person_47 : decode cX11_person 47 = .ok (.iload_n 2, 1) := by decide +kernel
theorem dX11_person_48 : decode cX11_person 48 = .ok (.iadd, 1) := by decide +kernel
theorem dX11_person_49 : decode cX11_person 49 = .ok (.invokevirtual 87, 3) := by decide +kernel
theorem dX11_person_52 : decode cX11_person 52 = .ok (.ireturn, 1) := by decide +kernel
theorem dX11_age_0 : decode cX11_age 0 = .ok (.aload_n 0, 1) := by decide +kernel
theorem dX11_age_1 : decode cX11_age 1 = .ok (.getfield 10, 3) := by decide +kernel
theorem dX11_age_4 : decode cX11_age 4 = .ok (.iload_n 1, 1) := by decide +kernel
theorem dX11_age_5 : decode cX11_age 5 = .ok (.invokevirtual 91, 3) := by decide +kernel
theorem dX11_age_8 : decode cX11_age 8 = .ok (.ifCond .eq 10, 3) := by decide +kernel
theorem dX11_age_11 : decode cX11_age 11 = .ok (.iload_n 2, 1) := by decide +kernel
theorem dX11_age_12 : decode cX11_age 12 = .ok (.invokestatic 95, 3) := by decide +kernel
theorem dX11_age_15 : decode cX11_age 15 = .ok (.ifCond .ne 5, 3) := by decide +kernel
theorem dX11_age_18 : decode cX11_age 18 = .ok (.iconst (-1), 1) := by decide +kernel
theorem dX11_age_19 : decode cX11_age 19 = .ok (.ireturn, 1) := by decide +kernel
theorem dX11_age_20 : decode cX11_age 20 = .ok (.aload_n 0, 1) := by decide +kernel
theorem dX11_age_21 : decode cX11_age 21 = .ok (.getfield 10, 3) := by decide +kernel
theorem dX11_age_24 : decode cX11_age 24 = .ok (.iload_n 1, 1) := by decide +kernel
theorem dX11_age_25 : decode cX11_age 25 = .ok (.iload_n 2, 1) := by decide +kernel
theorem dX11_age_26 : decode cX11_age 26 = .ok (.invokevirtual 98, 3) := by decide +kernel
theorem dX11_age_29 : decode cX11_age 29 = .ok (.ireturn, 1) := by decide +kernel
theorem dX11_deed_0 : decode cX11_deed 0 = .ok (.aload_n 0, 1) := by decide +kernel
theorem dX11_deed_1 : decode cX11_deed 1 = .ok (.getfield 10, 3) := by decide +kernel
theorem dX11_deed_4 : decode cX11_deed 4 = .ok (.iload_n 1, 1) := by decide +kernel
theorem dX11_deed_5 : decode cX11_deed 5 = .ok (.invokevirtual 91, 3) := by decide +kernel
theorem dX11_deed_8 : decode cX11_deed 8 = .ok (.ifCond .eq 28, 3) := by decide +kernel
theorem dX11_deed_11 : decode cX11_deed 11 = .ok (.iload_n 2, 1) := by decide +kernel
theorem dX11_deed_12 : decode cX11_deed 12 = .ok (.ifCond .lt 24, 3) := by decide +kernel
theorem dX11_deed_15 : decode cX11_deed 15 = .ok (.iload_n 2, 1) := by decide +kernel
theorem dX11_deed_16 : decode cX11_deed 16 = .ok (.bipush 6, 2) := by decide +kernel
theorem dX11_deed_18 : decode cX11_deed 18 = .ok (.if_icmp .ge 18, 3) := by decide +kernel
theorem dX11_deed_21 : decode cX11_deed 21 = .ok (.iload_n 3, 1) := by decide +kernel
theorem dX11_deed_22 : decode cX11_deed 22 = .ok (.ifCond .lt 14, 3) := by decide +kernel
theorem dX11_deed_25 : decode cX11_deed 25 = .ok (.iload_n 3, 1) := by decide +kernel
theorem dX11_deed_26 : decode cX11_deed 26 = .ok (.aload_n 0, 1) := by decide +kernel
theorem dX11_deed_27 : decode cX11_deed 27 = .ok (.getfield 10, 3) := by decide +kernel
theorem dX11_deed_30 : decode cX11_deed 30 = .ok (.getfield 80, 3) := by decide +kernel
theorem dX11_deed_33 : decode cX11_deed 33 = .ok (.if_icmp .le 5, 3) := by decide +kernel
theorem dX11_deed_36 : decode cX11_deed 36 = .ok (.iconst (-1), 1) := by decide +kernel
theorem dX11_deed_37 : decode cX11_deed 37 = .ok (.ireturn, 1) := by decide +kernel
theorem dX11_deed_38 : decode cX11_deed 38 = .ok (.aload_n 0, 1) := by decide +kernel
theorem dX11_deed_39 : decode cX11_deed 39 = .ok (.getfield 10, 3) := by decide +kernel
theorem dX11_deed_42 : decode cX11_deed 42 = .ok (.getfield 102, 3) := by decide +kernel
theorem dX11_deed_45 : decode cX11_deed 45 = .ok (.bipush 16, 2) := by decide +kernel
theorem dX11_deed_47 : decode cX11_deed 47 = .ok (.if_icmp .lt 6, 3) := by decide +kernel
theorem dX11_deed_50 : decode cX11_deed 50 = .ok (.bipush (-2), 2) := by decide +kernel
theorem dX11_deed_52 : decode cX11_deed 52 = .ok (.ireturn, 1) := by decide +kernel
theorem dX11_deed_53 : decode cX11_deed 53 = .ok (.aload_n 0, 1) := by decide +kernel
theorem dX11_deed_54 : decode cX11_deed 54 = .ok (.getfield 10, 3) := by decide +kernel
theorem dX11_deed_57 : decode cX11_deed 57 = .ok (.iload_n 1, 1) := by decide +kernel
theorem dX11_deed_58 : decode cX11_deed 58 = .ok (.iload_n 2, 1) := by decide +kernel
theorem dX11_deed_59 : decode cX11_deed 59 = .ok (.iload_n 3, 1) := by decide +kernel
theorem dX11_deed_60 : decode cX11_deed 60 = .ok (.invokevirtual 105, 3) := by decide +kernel
theorem dX11_deed_63 : decode cX11_deed 63 = .ok (.ireturn, 1) := by decide +kernel
theorem dX11_finding_0 : decode cX11_finding 0 = .ok (.aload_n 0, 1) := by decide +kernel
theorem dX11_finding_1 : decode cX11_finding 1 = .ok (.getfield 10, 3) := by decide +kernel
theorem dX11_finding_4 : decode cX11_finding 4 = .ok (.iload_n 1, 1) := by decide +kernel
theorem dX11_finding_5 : decode cX11_finding 5 = .ok (.invokevirtual 109, 3) := by decide +kernel
theorem dX11_finding_8 : decode cX11_finding 8 = .ok (.ifCond .eq 10, 3) := by decide +kernel
theorem dX11_finding_11 : decode cX11_finding 11 = .ok (.iload_n 2, 1) := by decide +kernel
theorem dX11_finding_12 : decode cX11_finding 12 = .ok (.invokestatic 112, 3) := by decide +kernel
theorem dX11_finding_15 : decode cX11_finding 15 = .ok (.ifCond .ne 5, 3) := by decide +kernel
theorem dX11_finding_18 : decode cX11_finding 18 = .ok (.iconst (-1), 1) := by decide +kernel
theorem dX11_finding_19 : decode cX11_finding 19 = .ok (.ireturn, 1) := by decide +kernel
theorem dX11_finding_20 : decode cX11_finding 20 = .ok (.aload_n 0, 1) := by decide +kernel
theorem dX11_finding_21 : decode cX11_finding 21 = .ok (.getfield 10, 3) := by decide +kernel
theorem dX11_finding_24 : decode cX11_finding 24 = .ok (.getfield 115, 3) := by decide +kernel
theorem dX11_finding_27 : decode cX11_finding 27 = .ok (.bipush 24, 2) := by decide +kernel
theorem dX11_finding_29 : decode cX11_finding 29 = .ok (.if_icmp .lt 6, 3) := by decide +kernel
theorem dX11_finding_32 : decode cX11_finding 32 = .ok (.bipush (-2), 2) := by decide +kernel
theorem dX11_finding_34 : decode cX11_finding 34 = .ok (.ireturn, 1) := by decide +kernel
theorem dX11_finding_35 : decode cX11_finding 35 = .ok (.aload_n 0, 1) := by decide +kernel
theorem dX11_finding_36 : decode cX11_finding 36 = .ok (.getfield 10, 3) := by decide +kernel
theorem dX11_finding_39 : decode cX11_finding 39 = .ok (.iload_n 1, 1) := by decide +kernel
theorem dX11_finding_40 : decode cX11_finding 40 = .ok (.iload_n 2, 1) := by decide +kernel
theorem dX11_finding_41 : decode cX11_finding 41 = .ok (.iload_n 3, 1) := by decide +kernel
theorem dX11_finding_42 : decode cX11_finding 42 = .ok (.invokevirtual 118, 3) := by decide +kernel
theorem dX11_finding_45 : decode cX11_finding 45 = .ok (.ireturn, 1) := by decide +kernel
theorem dX11_deedOf_0 : decode cX11_deedOf 0 = .ok (.aload_n 0, 1) := by decide +kernel
theorem dX11_deedOf_1 : decode cX11_deedOf 1 = .ok (.getfield 10, 3) := by decide +kernel
theorem dX11_deedOf_4 : decode cX11_deedOf 4 = .ok (.iload_n 1, 1) := by decide +kernel
theorem dX11_deedOf_5 : decode cX11_deedOf 5 = .ok (.invokevirtual 109, 3) := by decide +kernel
theorem dX11_deedOf_8 : decode cX11_deedOf 8 = .ok (.ifCond .eq 10, 3) := by decide +kernel
theorem dX11_deedOf_11 : decode cX11_deedOf 11 = .ok (.iload_n 2, 1) := by decide +kernel
theorem dX11_deedOf_12 : decode cX11_deedOf 12 = .ok (.invokestatic 95, 3) := by decide +kernel
theorem dX11_deedOf_15 : decode cX11_deedOf 15 = .ok (.ifCond .ne 5, 3) := by decide +kernel
theorem dX11_deedOf_18 : decode cX11_deedOf 18 = .ok (.iconst (-1), 1) := by decide +kernel
theorem dX11_deedOf_19 : decode cX11_deedOf 19 = .ok (.ireturn, 1) := by decide +kernel
theorem dX11_deedOf_20 : decode cX11_deedOf 20 = .ok (.aload_n 0, 1) := by decide +kernel
theorem dX11_deedOf_21 : decode cX11_deedOf 21 = .ok (.getfield 10, 3) := by decide +kernel
theorem dX11_deedOf_24 : decode cX11_deedOf 24 = .ok (.getfield 122, 3) := by decide +kernel
theorem dX11_deedOf_27 : decode cX11_deedOf 27 = .ok (.iload_n 1, 1) := by decide +kernel
theorem dX11_deedOf_28 : decode cX11_deedOf 28 = .ok (.aaload, 1) := by decide +kernel
theorem dX11_deedOf_29 : decode cX11_deedOf 29 = .ok (.astore 4, 2) := by decide +kernel
theorem dX11_deedOf_31 : decode cX11_deedOf 31 = .ok (.iload_n 3, 1) := by decide +kernel
theorem dX11_deedOf_32 : decode cX11_deedOf 32 = .ok (.tableswitch 99 0 5 #[40, 46, 52, 58, 69, 88], 40) := by decide +kernel
theorem dX11_deedOf_72 : decode cX11_deedOf 72 = .ok (.aload 4, 2) := by decide +kernel
theorem dX11_deedOf_74 : decode cX11_deedOf 74 = .ok (.getfield 126, 3) := by decide +kernel
theorem dX11_deedOf_77 : decode cX11_deedOf 77 = .ok (.ireturn, 1) := by decide +kernel
theorem dX11_deedOf_78 : decode cX11_deedOf 78 = .ok (.aload 4, 2) := by decide +kernel
theorem dX11_deedOf_80 : decode cX11_deedOf 80 = .ok (.getfield 131, 3) := by decide +kernel
theorem dX11_deedOf_83 : decode cX11_deedOf 83 = .ok (.ireturn, 1) := by decide +kernel
theorem dX11_deedOf_84 : decode cX11_deedOf 84 = .ok (.aload 4, 2) := by decide +kernel
theorem dX11_deedOf_86 : decode cX11_deedOf 86 = .ok (.getfield 134, 3) := by decide +kernel
theorem dX11_deedOf_89 : decode cX11_deedOf 89 = .ok (.ireturn, 1) := by decide +kernel
theorem dX11_deedOf_90 : decode cX11_deedOf 90 = .ok (.aload_n 0, 1) := by decide +kernel
theorem dX11_deedOf_91 : decode cX11_deedOf 91 = .ok (.getfield 10, 3) := by decide +kernel
theorem dX11_deedOf_94 : decode cX11_deedOf 94 = .ok (.aload 4, 2) := by decide +kernel
theorem dX11_deedOf_96 : decode cX11_deedOf 96 = .ok (.iload_n 2, 1) := by decide +kernel
theorem dX11_deedOf_97 : decode cX11_deedOf 97 = .ok (.invokevirtual 137, 3) := by decide +kernel
theorem dX11_deedOf_100 : decode cX11_deedOf 100 = .ok (.ireturn, 1) := by decide +kernel
theorem dX11_deedOf_101 : decode cX11_deedOf 101 = .ok (.aload_n 0, 1) := by decide +kernel
theorem dX11_deedOf_102 : decode cX11_deedOf 102 = .ok (.getfield 10, 3) := by decide +kernel
theorem dX11_deedOf_105 : decode cX11_deedOf 105 = .ok (.aload 4, 2) := by decide +kernel
theorem dX11_deedOf_107 : decode cX11_deedOf 107 = .ok (.iload_n 2, 1) := by decide +kernel
theorem dX11_deedOf_108 : decode cX11_deedOf 108 = .ok (.invokevirtual 141, 3) := by decide +kernel
theorem dX11_deedOf_111 : decode cX11_deedOf 111 = .ok (.ifCond .eq 7, 3) := by decide +kernel
theorem dX11_deedOf_114 : decode cX11_deedOf 114 = .ok (.iconst 1, 1) := by decide +kernel
theorem dX11_deedOf_115 : decode cX11_deedOf 115 = .ok (.goto 4, 3) := by decide +kernel
theorem dX11_deedOf_118 : decode cX11_deedOf 118 = .ok (.iconst 0, 1) := by decide +kernel
theorem dX11_deedOf_119 : decode cX11_deedOf 119 = .ok (.ireturn, 1) := by decide +kernel
theorem dX11_deedOf_120 : decode cX11_deedOf 120 = .ok (.aload_n 0, 1) := by decide +kernel
theorem dX11_deedOf_121 : decode cX11_deedOf 121 = .ok (.getfield 10, 3) := by decide +kernel
theorem dX11_deedOf_124 : decode cX11_deedOf 124 = .ok (.aload 4, 2) := by decide +kernel
theorem dX11_deedOf_126 : decode cX11_deedOf 126 = .ok (.iload_n 2, 1) := by decide +kernel
theorem dX11_deedOf_127 : decode cX11_deedOf 127 = .ok (.invokevirtual 145, 3) := by decide +kernel
theorem dX11_deedOf_130 : decode cX11_deedOf 130 = .ok (.ireturn, 1) := by decide +kernel
theorem dX11_deedOf_131 : decode cX11_deedOf 131 = .ok (.iconst (-1), 1) := by decide +kernel
theorem dX11_deedOf_132 : decode cX11_deedOf 132 = .ok (.ireturn, 1) := by decide +kernel
theorem dX11_isDay_0 : decode cX11_isDay 0 = .ok (.iload_n 0, 1) := by decide +kernel
theorem dX11_isDay_1 : decode cX11_isDay 1 = .ok (.ifCond .lt 14, 3) := by decide +kernel
theorem dX11_isDay_4 : decode cX11_isDay 4 = .ok (.iload_n 0, 1) := by decide +kernel
theorem dX11_isDay_5 : decode cX11_isDay 5 = .ok (.sipush 9999, 3) := by decide +kernel
theorem dX11_isDay_8 : decode cX11_isDay 8 = .ok (.if_icmp .gt 7, 3) := by decide +kernel
theorem dX11_isDay_11 : decode cX11_isDay 11 = .ok (.iconst 1, 1) := by decide +kernel
theorem dX11_isDay_12 : decode cX11_isDay 12 = .ok (.goto 4, 3) := by decide +kernel
theorem dX11_isDay_15 : decode cX11_isDay 15 = .ok (.iconst 0, 1) := by decide +kernel
theorem dX11_isDay_16 : decode cX11_isDay 16 = .ok (.ireturn, 1) := by decide +kernel
theorem dX11_areFacts_0 : decode cX11_areFacts 0 = .ok (.iload_n 0, 1) := by decide +kernel
theorem dX11_areFacts_1 : decode cX11_areFacts 1 = .ok (.ifCond .lt 13, 3) := by decide +kernel
theorem dX11_areFacts_4 : decode cX11_areFacts 4 = .ok (.iload_n 0, 1) := by decide +kernel
theorem dX11_areFacts_5 : decode cX11_areFacts 5 = .ok (.bipush 15, 2) := by decide +kernel
theorem dX11_areFacts_7 : decode cX11_areFacts 7 = .ok (.if_icmp .gt 7, 3) := by decide +kernel
theorem dX11_areFacts_10 : decode cX11_areFacts 10 = .ok (.iconst 1, 1) := by decide +kernel
theorem dX11_areFacts_11 : decode cX11_areFacts 11 = .ok (.goto 4, 3) := by decide +kernel
theorem dX11_areFacts_14 : decode cX11_areFacts 14 = .ok (.iconst 0, 1) := by decide +kernel
theorem dX11_areFacts_15 : decode cX11_areFacts 15 = .ok (.ireturn, 1) := by decide +kernel
theorem dX11_feed_0 : decode cX11_feed 0 = .ok (.iload_n 3, 1) := by decide +kernel
theorem dX11_feed_1 : decode cX11_feed 1 = .ok (.iconst 1, 1) := by decide +kernel
theorem dX11_feed_2 : decode cX11_feed 2 = .ok (.if_icmp .lt 9, 3) := by decide +kernel
theorem dX11_feed_5 : decode cX11_feed 5 = .ok (.iload_n 3, 1) := by decide +kernel
theorem dX11_feed_6 : decode cX11_feed 6 = .ok (.bipush 8, 2) := by decide +kernel
theorem dX11_feed_8 : decode cX11_feed 8 = .ok (.if_icmp .le 5, 3) := by decide +kernel
theorem dX11_feed_11 : decode cX11_feed 11 = .ok (.iconst (-1), 1) := by decide +kernel
theorem dX11_feed_12 : decode cX11_feed 12 = .ok (.ireturn, 1) := by decide +kernel
theorem dX11_feed_13 : decode cX11_feed 13 = .ok (.aload_n 0, 1) := by decide +kernel
theorem dX11_feed_14 : decode cX11_feed 14 = .ok (.getfield 26, 3) := by decide +kernel
theorem dX11_feed_17 : decode cX11_feed 17 = .ok (.getfield 148, 3) := by decide +kernel
theorem dX11_feed_20 : decode cX11_feed 20 = .ok (.iload_n 3, 1) := by decide +kernel
theorem dX11_feed_21 : decode cX11_feed 21 = .ok (.iadd, 1) := by decide +kernel
theorem dX11_feed_22 : decode cX11_feed 22 = .ok (.sipush 250, 3) := by decide +kernel
theorem dX11_feed_25 : decode cX11_feed 25 = .ok (.if_icmp .le 6, 3) := by decide +kernel
theorem dX11_feed_28 : decode cX11_feed 28 = .ok (.bipush (-2), 2) := by decide +kernel
theorem dX11_feed_30 : decode cX11_feed 30 = .ok (.ireturn, 1) := by decide +kernel
theorem dX11_feed_31 : decode cX11_feed 31 = .ok (.iconst 0, 1) := by decide +kernel
theorem dX11_feed_32 : decode cX11_feed 32 = .ok (.istore 4, 2) := by decide +kernel
theorem dX11_feed_34 : decode cX11_feed 34 = .ok (.iload 4, 2) := by decide +kernel
theorem dX11_feed_36 : decode cX11_feed 36 = .ok (.iload_n 3, 1) := by decide +kernel
theorem dX11_feed_37 : decode cX11_feed 37 = .ok (.if_icmp .ge 25, 3) := by decide +kernel
theorem dX11_feed_40 : decode cX11_feed 40 = .ok (.aload_n 0, 1) := by decide +kernel
theorem dX11_feed_41 : decode cX11_feed 41 = .ok (.getfield 26, 3) := by decide +kernel
theorem dX11_feed_44 : decode cX11_feed 44 = .ok (.lload_n 1, 1) := by decide +kernel
theorem dX11_feed_45 : decode cX11_feed 45 = .ok (.bipush 8, 2) := by decide +kernel
theorem dX11_feed_47 : decode cX11_feed 47 = .ok (.iload 4, 2) := by decide +kernel
theorem dX11_feed_49 : decode cX11_feed 49 = .ok (.imul, 1) := by decide +kernel
theorem dX11_feed_50 : decode cX11_feed 50 = .ok (.lshr, 1) := by decide +kernel
theorem dX11_feed_51 : decode cX11_feed 51 = .ok (.l2i, 1) := by decide +kernel
theorem dX11_feed_52 : decode cX11_feed 52 = .ok (.i2b, 1) := by decide +kernel
theorem dX11_feed_53 : decode cX11_feed 53 = .ok (.invokevirtual 151, 3) := by decide +kernel
theorem dX11_feed_56 : decode cX11_feed 56 = .ok (.iinc 4 1, 3) := by decide +kernel
theorem dX11_feed_59 : decode cX11_feed 59 = .ok (.goto (-25), 3) := by decide +kernel
theorem dX11_feed_62 : decode cX11_feed 62 = .ok (.aload_n 0, 1) := by decide +kernel
theorem dX11_feed_63 : decode cX11_feed 63 = .ok (.getfield 26, 3) := by decide +kernel
theorem dX11_feed_66 : decode cX11_feed 66 = .ok (.getfield 148, 3) := by decide +kernel
theorem dX11_feed_69 : decode cX11_feed 69 = .ok (.ireturn, 1) := by decide +kernel
theorem dX11_read_0 : decode cX11_read 0 = .ok (.aload_n 0, 1) := by decide +kernel
theorem dX11_read_1 : decode cX11_read 1 = .ok (.getfield 26, 3) := by decide +kernel
theorem dX11_read_4 : decode cX11_read 4 = .ok (.invokevirtual 155, 3) := by decide +kernel
theorem dX11_read_7 : decode cX11_read 7 = .ok (.istore_n 1, 1) := by decide +kernel
theorem dX11_read_8 : decode cX11_read 8 = .ok (.aload_n 0, 1) := by decide +kernel
theorem dX11_read_9 : decode cX11_read 9 = .ok (.getfield 26, 3) := by decide +kernel
theorem dX11_read_12 : decode cX11_read 12 = .ok (.invokevirtual 159, 3) := by decide +kernel
theorem dX11_read_15 : decode cX11_read 15 = .ok (.istore_n 2, 1) := by decide +kernel
theorem dX11_read_16 : decode cX11_read 16 = .ok (.aload_n 0, 1) := by decide +kernel
theorem dX11_read_17 : decode cX11_read 17 = .ok (.getfield 26, 3) := by decide +kernel
theorem dX11_read_20 : decode cX11_read 20 = .ok (.iconst 0, 1) := by decide +kernel
theorem dX11_read_21 : decode cX11_read 21 = .ok (.putfield 148, 3) := by decide +kernel
theorem dX11_read_24 : decode cX11_read 24 = .ok (.iload_n 1, 1) := by decide +kernel
theorem dX11_read_25 : decode cX11_read 25 = .ok (.ifCond .ne 8, 3) := by decide +kernel
theorem dX11_read_28 : decode cX11_read 28 = .ok (.bipush (-100), 2) := by decide +kernel
theorem dX11_read_30 : decode cX11_read 30 = .ok (.iload_n 2, 1) := by decide +kernel
theorem dX11_read_31 : decode cX11_read 31 = .ok (.isub, 1) := by decide +kernel
theorem dX11_read_32 : decode cX11_read 32 = .ok (.ireturn, 1) := by decide +kernel
theorem dX11_read_33 : decode cX11_read 33 = .ok (.aload_n 0, 1) := by decide +kernel
theorem dX11_read_34 : decode cX11_read 34 = .ok (.getfield 10, 3) := by decide +kernel
theorem dX11_read_37 : decode cX11_read 37 = .ok (.getfield 163, 3) := by decide +kernel
theorem dX11_read_40 : decode cX11_read 40 = .ok (.bipush 6, 2) := by decide +kernel
theorem dX11_read_42 : decode cX11_read 42 = .ok (.if_icmp .lt 6, 3) := by decide +kernel
theorem dX11_read_45 : decode cX11_read 45 = .ok (.bipush (-2), 2) := by decide +kernel
theorem dX11_read_47 : decode cX11_read 47 = .ok (.ireturn, 1) := by decide +kernel
theorem dX11_read_48 : decode cX11_read 48 = .ok (.aload_n 0, 1) := by decide +kernel
theorem dX11_read_49 : decode cX11_read 49 = .ok (.getfield 10, 3) := by decide +kernel
theorem dX11_read_52 : decode cX11_read 52 = .ok (.aload_n 0, 1) := by decide +kernel
theorem dX11_read_53 : decode cX11_read 53 = .ok (.getfield 26, 3) := by decide +kernel
theorem dX11_read_56 : decode cX11_read 56 = .ok (.invokevirtual 166, 3) := by decide +kernel
theorem dX11_read_59 : decode cX11_read 59 = .ok (.ireturn, 1) := by decide +kernel
theorem dX11_version_0 : decode cX11_version 0 = .ok (.aload_n 0, 1) := by decide +kernel
theorem dX11_version_1 : decode cX11_version 1 = .ok (.getfield 10, 3) := by decide +kernel
theorem dX11_version_4 : decode cX11_version 4 = .ok (.iload_n 1, 1) := by decide +kernel
theorem dX11_version_5 : decode cX11_version 5 = .ok (.invokevirtual 170, 3) := by decide +kernel
theorem dX11_version_8 : decode cX11_version 8 = .ok (.ifCond .ne 5, 3) := by decide +kernel
theorem dX11_version_11 : decode cX11_version 11 = .ok (.iconst (-1), 1) := by decide +kernel
theorem dX11_version_12 : decode cX11_version 12 = .ok (.ireturn, 1) := by decide +kernel
theorem dX11_version_13 : decode cX11_version 13 = .ok (.aload_n 0, 1) := by decide +kernel
theorem dX11_version_14 : decode cX11_version 14 = .ok (.getfield 10, 3) := by decide +kernel
theorem dX11_version_17 : decode cX11_version 17 = .ok (.getfield 173, 3) := by decide +kernel
theorem dX11_version_20 : decode cX11_version 20 = .ok (.iload_n 1, 1) := by decide +kernel
theorem dX11_version_21 : decode cX11_version 21 = .ok (.aaload, 1) := by decide +kernel
theorem dX11_version_22 : decode cX11_version 22 = .ok (.astore_n 3, 1) := by decide +kernel
theorem dX11_version_23 : decode cX11_version 23 = .ok (.iload_n 2, 1) := by decide +kernel
theorem dX11_version_24 : decode cX11_version 24 = .ok (.tableswitch 51 0 2 #[28, 33, 38], 28) := by decide +kernel
theorem dX11_version_52 : decode cX11_version 52 = .ok (.aload_n 3, 1) := by decide +kernel
theorem dX11_version_53 : decode cX11_version 53 = .ok (.getfield 177, 3) := by decide +kernel
theorem dX11_version_56 : decode cX11_version 56 = .ok (.ireturn, 1) := by decide +kernel
theorem dX11_version_57 : decode cX11_version 57 = .ok (.aload_n 3, 1) := by decide +kernel
theorem dX11_version_58 : decode cX11_version 58 = .ok (.getfield 180, 3) := by decide +kernel
theorem dX11_version_61 : decode cX11_version 61 = .ok (.ireturn, 1) := by decide +kernel
theorem dX11_version_62 : decode cX11_version 62 = .ok (.aload_n 3, 1) := by decide +kernel
theorem dX11_version_63 : decode cX11_version 63 = .ok (.getfield 181, 3) := by decide +kernel
theorem dX11_version_66 : decode cX11_version 66 = .ok (.ifCond .eq 7, 3) := by decide +kernel
theorem dX11_version_69 : decode cX11_version 69 = .ok (.iconst 1, 1) := by decide +kernel
theorem dX11_version_70 : decode cX11_version 70 = .ok (.goto 4, 3) := by decide +kernel
theorem dX11_version_73 : decode cX11_version 73 = .ok (.iconst 0, 1) := by decide +kernel
theorem dX11_version_74 : decode cX11_version 74 = .ok (.ireturn, 1) := by decide +kernel
theorem dX11_version_75 : decode cX11_version 75 = .ok (.iload_n 2, 1) := by decide +kernel
theorem dX11_version_76 : decode cX11_version 76 = .ok (.bipush 10, 2) := by decide +kernel
theorem dX11_version_78 : decode cX11_version 78 = .ok (.if_icmp .lt 26, 3) := by decide +kernel
theorem dX11_version_81 : decode cX11_version 81 = .ok (.iload_n 2, 1) := by decide +kernel
theorem dX11_version_82 : decode cX11_version 82 = .ok (.bipush 10, 2) := by decide +kernel
theorem dX11_version_84 : decode cX11_version 84 = .ok (.isub, 1) := by decide +kernel
theorem dX11_version_85 : decode cX11_version 85 = .ok (.aload_n 3, 1) := by decide +kernel
theorem dX11_version_86 : decode cX11_version 86 = .ok (.getfield 177, 3) := by decide +kernel
theorem dX11_version_89 : decode cX11_version 89 = .ok (.if_icmp .ge 15, 3) := by decide +kernel
theorem dX11_version_92 : decode cX11_version 92 = .ok (.aload_n 3, 1) := by decide +kernel
theorem dX11_version_93 : decode cX11_version 93 = .ok (.getfield 184, 3) := by decide +kernel
theorem dX11_version_96 : decode cX11_version 96 = .ok (.iload_n 2, 1) := by decide +kernel
theorem dX11_version_97 : decode cX11_version 97 = .ok (.bipush 10, 2) := by decide +kernel
theorem dX11_version_99 : decode cX11_version 99 = .ok (.isub, 1) := by decide +kernel
theorem dX11_version_100 : decode cX11_version 100 = .ok (.iaload, 1) := by decide +kernel
theorem dX11_version_101 : decode cX11_version 101 = .ok (.goto 4, 3) := by decide +kernel
theorem dX11_version_104 : decode cX11_version 104 = .ok (.iconst (-1), 1) := by decide +kernel
theorem dX11_version_105 : decode cX11_version 105 = .ok (.ireturn, 1) := by decide +kernel
theorem dX11_law_0 : decode cX11_law 0 = .ok (.aload_n 0, 1) := by decide +kernel
theorem dX11_law_1 : decode cX11_law 1 = .ok (.getfield 10, 3) := by decide +kernel
theorem dX11_law_4 : decode cX11_law 4 = .ok (.iload_n 1, 1) := by decide +kernel
theorem dX11_law_5 : decode cX11_law 5 = .ok (.invokevirtual 109, 3) := by decide +kernel
theorem dX11_law_8 : decode cX11_law 8 = .ok (.ifCond .eq 26, 3) := by decide +kernel
theorem dX11_law_11 : decode cX11_law 11 = .ok (.iload_n 2, 1) := by decide +kernel
theorem dX11_law_12 : decode cX11_law 12 = .ok (.invokestatic 95, 3) := by decide +kernel
theorem dX11_law_15 : decode cX11_law 15 = .ok (.ifCond .eq 19, 3) := by decide +kernel
theorem dX11_law_18 : decode cX11_law 18 = .ok (.iload_n 2, 1) := by decide +kernel
theorem dX11_law_19 : decode cX11_law 19 = .ok (.aload_n 0, 1) := by decide +kernel
theorem dX11_law_20 : decode cX11_law 20 = .ok (.getfield 10, 3) := by decide +kernel
theorem dX11_law_23 : decode cX11_law 23 = .ok (.getfield 122, 3) := by decide +kernel
theorem dX11_law_26 : decode cX11_law 26 = .ok (.iload_n 1, 1) := by decide +kernel
theorem dX11_law_27 : decode cX11_law 27 = .ok (.aaload, 1) := by decide +kernel
theorem dX11_law_28 : decode cX11_law 28 = .ok (.getfield 134, 3) := by decide +kernel
theorem dX11_law_31 : decode cX11_law 31 = .ok (.if_icmp .ge 5, 3) := by decide +kernel
theorem dX11_law_34 : decode cX11_law 34 = .ok (.iconst (-1), 1) := by decide +kernel
theorem dX11_law_35 : decode cX11_law 35 = .ok (.ireturn, 1) := by decide +kernel
theorem dX11_law_36 : decode cX11_law 36 = .ok (.aload_n 0, 1) := by decide +kernel
theorem dX11_law_37 : decode cX11_law 37 = .ok (.getfield 10, 3) := by decide +kernel
theorem dX11_law_40 : decode cX11_law 40 = .ok (.aload_n 0, 1) := by decide +kernel
theorem dX11_law_41 : decode cX11_law 41 = .ok (.getfield 10, 3) := by decide +kernel
theorem dX11_law_44 : decode cX11_law 44 = .ok (.getfield 122, 3) := by decide +kernel
theorem dX11_law_47 : decode cX11_law 47 = .ok (.iload_n 1, 1) := by decide +kernel
theorem dX11_law_48 : decode cX11_law 48 = .ok (.aaload, 1) := by decide +kernel
theorem dX11_law_49 : decode cX11_law 49 = .ok (.iload_n 2, 1) := by decide +kernel
theorem dX11_law_50 : decode cX11_law 50 = .ok (.invokevirtual 187, 3) := by decide +kernel
theorem dX11_law_53 : decode cX11_law 53 = .ok (.astore_n 3, 1) := by decide +kernel
theorem dX11_law_54 : decode cX11_law 54 = .ok (.aload_n 3, 1) := by decide +kernel
theorem dX11_law_55 : decode cX11_law 55 = .ok (.ifnonnull 8, 3) := by decide +kernel
theorem dX11_law_58 : decode cX11_law 58 = .ok (.bipush (-3), 2) := by decide +kernel
theorem dX11_law_60 : decode cX11_law 60 = .ok (.goto 7, 3) := by decide +kernel
theorem dX11_law_63 : decode cX11_law 63 = .ok (.aload_n 3, 1) := by decide +kernel
theorem dX11_law_64 : decode cX11_law 64 = .ok (.getfield 191, 3) := by decide +kernel
theorem dX11_law_67 : decode cX11_law 67 = .ok (.ireturn, 1) := by decide +kernel
theorem dX11_points_0 : decode cX11_points 0 = .ok (.aload_n 0, 1) := by decide +kernel
theorem dX11_points_1 : decode cX11_points 1 = .ok (.iload_n 1, 1) := by decide +kernel
theorem dX11_points_2 : decode cX11_points 2 = .ok (.iload_n 2, 1) := by decide +kernel
theorem dX11_points_3 : decode cX11_points 3 = .ok (.iload_n 3, 1) := by decide +kernel
theorem dX11_points_4 : decode cX11_points 4 = .ok (.invokevirtual 194, 3) := by decide +kernel
theorem dX11_points_7 : decode cX11_points 7 = .ok (.ifCond .ne 5, 3) := by decide +kernel
theorem dX11_points_10 : decode cX11_points 10 = .ok (.iconst (-1), 1) := by decide +kernel
theorem dX11_points_11 : decode cX11_points 11 = .ok (.ireturn, 1) := by decide +kernel
theorem dX11_points_12 : decode cX11_points 12 = .ok (.aload_n 0, 1) := by decide +kernel
theorem dX11_points_13 : decode cX11_points 13 = .ok (.getfield 10, 3) := by decide +kernel
theorem dX11_points_16 : decode cX11_points 16 = .ok (.aload_n 0, 1) := by decide +kernel
theorem dX11_points_17 : decode cX11_points 17 = .ok (.getfield 10, 3) := by decide +kernel
theorem dX11_points_20 : decode cX11_points 20 = .ok (.getfield 173, 3) := by decide +kernel
theorem dX11_points_23 : decode cX11_points 23 = .ok (.iload_n 2, 1) := by decide +kernel
theorem dX11_points_24 : decode cX11_points 24 = .ok (.aaload, 1) := by decide +kernel
theorem dX11_points_25 : decode cX11_points 25 = .ok (.aload_n 0, 1) := by decide +kernel
theorem dX11_points_26 : decode cX11_points 26 = .ok (.getfield 10, 3) := by decide +kernel
theorem dX11_points_29 : decode cX11_points 29 = .ok (.getfield 122, 3) := by decide +kernel
theorem dX11_points_32 : decode cX11_points 32 = .ok (.iload_n 1, 1) := by decide +kernel
theorem dX11_points_33 : decode cX11_points 33 = .ok (.aaload, 1) := by decide +kernel
theorem dX11_points_34 : decode cX11_points 34 = .ok (.iload_n 3, 1) := by decide +kernel
theorem dX11_points_35 : decode cX11_points 35 = .ok (.invokevirtual 198, 3) := by decide +kernel
theorem dX11_points_38 : decode cX11_points 38 = .ok (.ireturn, 1) := by decide +kernel
theorem dX11_grave_0 : decode cX11_grave 0 = .ok (.aload_n 0, 1) := by decide +kernel
theorem dX11_grave_1 : decode cX11_grave 1 = .ok (.iload_n 1, 1) := by decide +kernel
theorem dX11_grave_2 : decode cX11_grave 2 = .ok (.iload_n 2, 1) := by decide +kernel
theorem dX11_grave_3 : decode cX11_grave 3 = .ok (.iload_n 3, 1) := by decide +kernel
theorem dX11_grave_4 : decode cX11_grave 4 = .ok (.invokevirtual 194, 3) := by decide +kernel
theorem dX11_grave_7 : decode cX11_grave 7 = .ok (.ifCond .ne 5, 3) := by decide +kernel
theorem dX11_grave_10 : decode cX11_grave 10 = .ok (.iconst (-1), 1) := by decide +kernel
theorem dX11_grave_11 : decode cX11_grave 11 = .ok (.ireturn, 1) := by decide +kernel
theorem dX11_grave_12 : decode cX11_grave 12 = .ok (.aload_n 0, 1) := by decide +kernel
theorem dX11_grave_13 : decode cX11_grave 13 = .ok (.getfield 10, 3) := by decide +kernel
theorem dX11_grave_16 : decode cX11_grave 16 = .ok (.aload_n 0, 1) := by decide +kernel
theorem dX11_grave_17 : decode cX11_grave 17 = .ok (.getfield 10, 3) := by decide +kernel
theorem dX11_grave_20 : decode cX11_grave 20 = .ok (.getfield 173, 3) := by decide +kernel
theorem dX11_grave_23 : decode cX11_grave 23 = .ok (.iload_n 2, 1) := by decide +kernel
theorem dX11_grave_24 : decode cX11_grave 24 = .ok (.aaload, 1) := by decide +kernel
theorem dX11_grave_25 : decode cX11_grave 25 = .ok (.aload_n 0, 1) := by decide +kernel
theorem dX11_grave_26 : decode cX11_grave 26 = .ok (.getfield 10, 3) := by decide +kernel
theorem dX11_grave_29 : decode cX11_grave 29 = .ok (.getfield 122, 3) := by decide +kernel
theorem dX11_grave_32 : decode cX11_grave 32 = .ok (.iload_n 1, 1) := by decide +kernel
theorem dX11_grave_33 : decode cX11_grave 33 = .ok (.aaload, 1) := by decide +kernel
theorem dX11_grave_34 : decode cX11_grave 34 = .ok (.iload_n 3, 1) := by decide +kernel
theorem dX11_grave_35 : decode cX11_grave 35 = .ok (.invokevirtual 202, 3) := by decide +kernel
theorem dX11_grave_38 : decode cX11_grave 38 = .ok (.ireturn, 1) := by decide +kernel
theorem dX11_range_0 : decode cX11_range 0 = .ok (.aload_n 0, 1) := by decide +kernel
theorem dX11_range_1 : decode cX11_range 1 = .ok (.iload_n 1, 1) := by decide +kernel
theorem dX11_range_2 : decode cX11_range 2 = .ok (.iload_n 2, 1) := by decide +kernel
theorem dX11_range_3 : decode cX11_range 3 = .ok (.iload_n 3, 1) := by decide +kernel
theorem dX11_range_4 : decode cX11_range 4 = .ok (.invokevirtual 194, 3) := by decide +kernel
theorem dX11_range_7 : decode cX11_range 7 = .ok (.ifCond .ne 5, 3) := by decide +kernel
theorem dX11_range_10 : decode cX11_range 10 = .ok (.iconst (-1), 1) := by decide +kernel
theorem dX11_range_11 : decode cX11_range 11 = .ok (.ireturn, 1) := by decide +kernel
theorem dX11_range_12 : decode cX11_range 12 = .ok (.aload_n 0, 1) := by decide +kernel
theorem dX11_range_13 : decode cX11_range 13 = .ok (.getfield 10, 3) := by decide +kernel
theorem dX11_range_16 : decode cX11_range 16 = .ok (.aload_n 0, 1) := by decide +kernel
theorem dX11_range_17 : decode cX11_range 17 = .ok (.getfield 10, 3) := by decide +kernel
theorem dX11_range_20 : decode cX11_range 20 = .ok (.getfield 173, 3) := by decide +kernel
theorem dX11_range_23 : decode cX11_range 23 = .ok (.iload_n 2, 1) := by decide +kernel
theorem dX11_range_24 : decode cX11_range 24 = .ok (.aaload, 1) := by decide +kernel
theorem dX11_range_25 : decode cX11_range 25 = .ok (.aload_n 0, 1) := by decide +kernel
theorem dX11_range_26 : decode cX11_range 26 = .ok (.getfield 10, 3) := by decide +kernel
theorem dX11_range_29 : decode cX11_range 29 = .ok (.getfield 122, 3) := by decide +kernel
theorem dX11_range_32 : decode cX11_range 32 = .ok (.iload_n 1, 1) := by decide +kernel
theorem dX11_range_33 : decode cX11_range 33 = .ok (.aaload, 1) := by decide +kernel
theorem dX11_range_34 : decode cX11_range 34 = .ok (.iload_n 3, 1) := by decide +kernel
theorem dX11_range_35 : decode cX11_range 35 = .ok (.invokevirtual 205, 3) := by decide +kernel
theorem dX11_range_38 : decode cX11_range 38 = .ok (.ireturn, 1) := by decide +kernel
theorem dX11_isCase_0 : decode cX11_isCase 0 = .ok (.aload_n 0, 1) := by decide +kernel
theorem dX11_isCase_1 : decode cX11_isCase 1 = .ok (.getfield 10, 3) := by decide +kernel
theorem dX11_isCase_4 : decode cX11_isCase 4 = .ok (.iload_n 1, 1) := by decide +kernel
theorem dX11_isCase_5 : decode cX11_isCase 5 = .ok (.invokevirtual 109, 3) := by decide +kernel
theorem dX11_isCase_8 : decode cX11_isCase 8 = .ok (.ifCond .eq 25, 3) := by decide +kernel
theorem dX11_isCase_11 : decode cX11_isCase 11 = .ok (.aload_n 0, 1) := by decide +kernel
theorem dX11_isCase_12 : decode cX11_isCase 12 = .ok (.getfield 10, 3) := by decide +kernel
theorem dX11_isCase_15 : decode cX11_isCase 15 = .ok (.iload_n 2, 1) := by decide +kernel
theorem dX11_isCase_16 : decode cX11_isCase 16 = .ok (.invokevirtual 170, 3) := by decide +kernel
theorem dX11_isCase_19 : decode cX11_isCase 19 = .ok (.ifCond .eq 14, 3) := by decide +kernel
theorem dX11_isCase_22 : decode cX11_isCase 22 = .ok (.iload_n 3, 1) := by decide +kernel
theorem dX11_isCase_23 : decode cX11_isCase 23 = .ok (.invokestatic 95, 3) := by decide +kernel
theorem dX11_isCase_26 : decode cX11_isCase 26 = .ok (.ifCond .eq 7, 3) := by decide +kernel
theorem dX11_isCase_29 : decode cX11_isCase 29 = .ok (.iconst 1, 1) := by decide +kernel
theorem dX11_isCase_30 : decode cX11_isCase 30 = .ok (.goto 4, 3) := by decide +kernel
theorem dX11_isCase_33 : decode cX11_isCase 33 = .ok (.iconst 0, 1) := by decide +kernel
theorem dX11_isCase_34 : decode cX11_isCase 34 = .ok (.ireturn, 1) := by decide +kernel
theorem dX11_term_0 : decode cX11_term 0 = .ok (.aload_n 0, 1) := by decide +kernel
theorem dX11_term_1 : decode cX11_term 1 = .ok (.getfield 10, 3) := by decide +kernel
theorem dX11_term_4 : decode cX11_term 4 = .ok (.iload_n 1, 1) := by decide +kernel
theorem dX11_term_5 : decode cX11_term 5 = .ok (.invokevirtual 109, 3) := by decide +kernel
theorem dX11_term_8 : decode cX11_term 8 = .ok (.ifCond .eq 21, 3) := by decide +kernel
theorem dX11_term_11 : decode cX11_term 11 = .ok (.iload_n 2, 1) := by decide +kernel
theorem dX11_term_12 : decode cX11_term 12 = .ok (.invokestatic 208, 3) := by decide +kernel
theorem dX11_term_15 : decode cX11_term 15 = .ok (.ifCond .eq 14, 3) := by decide +kernel
theorem dX11_term_18 : decode cX11_term 18 = .ok (.iload_n 3, 1) := by decide +kernel
theorem dX11_term_19 : decode cX11_term 19 = .ok (.ifCond .lt 10, 3) := by decide +kernel
theorem dX11_term_22 : decode cX11_term 22 = .ok (.iload_n 3, 1) := by decide +kernel
theorem dX11_term_23 : decode cX11_term 23 = .ok (.sipush 240, 3) := by decide +kernel
theorem dX11_term_26 : decode cX11_term 26 = .ok (.if_icmp .le 5, 3) := by decide +kernel
theorem dX11_term_29 : decode cX11_term 29 = .ok (.iconst (-1), 1) := by decide +kernel
theorem dX11_term_30 : decode cX11_term 30 = .ok (.ireturn, 1) := by decide +kernel
theorem dX11_term_31 : decode cX11_term 31 = .ok (.iload 4, 2) := by decide +kernel
theorem dX11_term_33 : decode cX11_term 33 = .ok (.ifCond .lt 21, 3) := by decide +kernel
theorem dX11_term_36 : decode cX11_term 36 = .ok (.iload 4, 2) := by decide +kernel
theorem dX11_term_38 : decode cX11_term 38 = .ok (.bipush 10, 2) := by decide +kernel
theorem dX11_term_40 : decode cX11_term 40 = .ok (.idiv, 1) := by decide +kernel
theorem dX11_term_41 : decode cX11_term 41 = .ok (.iconst 4, 1) := by decide +kernel
theorem dX11_term_42 : decode cX11_term 42 = .ok (.if_icmp .ge 12, 3) := by decide +kernel
theorem dX11_term_45 : decode cX11_term 45 = .ok (.iload 4, 2) := by decide +kernel
theorem dX11_term_47 : decode cX11_term 47 = .ok (.bipush 10, 2) := by decide +kernel
theorem dX11_term_49 : decode cX11_term 49 = .ok (.irem, 1) := by decide +kernel
theorem dX11_term_50 : decode cX11_term 50 = .ok (.iconst 1, 1) := by decide +kernel
theorem dX11_term_51 : decode cX11_term 51 = .ok (.if_icmp .le 5, 3) := by decide +kernel
theorem dX11_term_54 : decode cX11_term 54 = .ok (.iconst (-1), 1) := by decide +kernel
theorem dX11_term_55 : decode cX11_term 55 = .ok (.ireturn, 1) := by decide +kernel
theorem dX11_term_56 : decode cX11_term 56 = .ok (.aload_n 0, 1) := by decide +kernel
theorem dX11_term_57 : decode cX11_term 57 = .ok (.getfield 10, 3) := by decide +kernel
theorem dX11_term_60 : decode cX11_term 60 = .ok (.aload_n 0, 1) := by decide +kernel
theorem dX11_term_61 : decode cX11_term 61 = .ok (.getfield 10, 3) := by decide +kernel
theorem dX11_term_64 : decode cX11_term 64 = .ok (.getfield 122, 3) := by decide +kernel
theorem dX11_term_67 : decode cX11_term 67 = .ok (.iload_n 1, 1) := by decide +kernel
theorem dX11_term_68 : decode cX11_term 68 = .ok (.aaload, 1) := by decide +kernel
theorem dX11_term_69 : decode cX11_term 69 = .ok (.aload_n 0, 1) := by decide +kernel
theorem dX11_term_70 : decode cX11_term 70 = .ok (.getfield 10, 3) := by decide +kernel
theorem dX11_term_73 : decode cX11_term 73 = .ok (.getfield 80, 3) := by decide +kernel
theorem dX11_term_76 : decode cX11_term 76 = .ok (.invokevirtual 145, 3) := by decide +kernel
theorem dX11_term_79 : decode cX11_term 79 = .ok (.bipush (-3), 2) := by decide +kernel
theorem dX11_term_81 : decode cX11_term 81 = .ok (.if_icmp .eq 6, 3) := by decide +kernel
theorem dX11_term_84 : decode cX11_term 84 = .ok (.bipush (-4), 2) := by decide +kernel
theorem dX11_term_86 : decode cX11_term 86 = .ok (.ireturn, 1) := by decide +kernel
theorem dX11_term_87 : decode cX11_term 87 = .ok (.aload_n 0, 1) := by decide +kernel
theorem dX11_term_88 : decode cX11_term 88 = .ok (.getfield 10, 3) := by decide +kernel
theorem dX11_term_91 : decode cX11_term 91 = .ok (.getfield 211, 3) := by decide +kernel
theorem dX11_term_94 : decode cX11_term 94 = .ok (.bipush 16, 2) := by decide +kernel
theorem dX11_term_96 : decode cX11_term 96 = .ok (.if_icmp .lt 6, 3) := by decide +kernel
theorem dX11_term_99 : decode cX11_term 99 = .ok (.bipush (-2), 2) := by decide +kernel
theorem dX11_term_101 : decode cX11_term 101 = .ok (.ireturn, 1) := by decide +kernel
theorem dX11_term_102 : decode cX11_term 102 = .ok (.aload_n 0, 1) := by decide +kernel
theorem dX11_term_103 : decode cX11_term 103 = .ok (.getfield 10, 3) := by decide +kernel
theorem dX11_term_106 : decode cX11_term 106 = .ok (.iload_n 1, 1) := by decide +kernel
theorem dX11_term_107 : decode cX11_term 107 = .ok (.iload_n 2, 1) := by decide +kernel
theorem dX11_term_108 : decode cX11_term 108 = .ok (.iload_n 3, 1) := by decide +kernel
theorem dX11_term_109 : decode cX11_term 109 = .ok (.iload 4, 2) := by decide +kernel
theorem dX11_term_111 : decode cX11_term 111 = .ok (.invokevirtual 214, 3) := by decide +kernel
theorem dX11_term_114 : decode cX11_term 114 = .ok (.ireturn, 1) := by decide +kernel
theorem dX11_appeal_0 : decode cX11_appeal 0 = .ok (.aload_n 0, 1) := by decide +kernel
theorem dX11_appeal_1 : decode cX11_appeal 1 = .ok (.getfield 10, 3) := by decide +kernel
theorem dX11_appeal_4 : decode cX11_appeal 4 = .ok (.iload_n 1, 1) := by decide +kernel
theorem dX11_appeal_5 : decode cX11_appeal 5 = .ok (.invokevirtual 218, 3) := by decide +kernel
theorem dX11_appeal_8 : decode cX11_appeal 8 = .ok (.ifCond .ne 5, 3) := by decide +kernel
theorem dX11_appeal_11 : decode cX11_appeal 11 = .ok (.iconst (-1), 1) := by decide +kernel
theorem dX11_appeal_12 : decode cX11_appeal 12 = .ok (.ireturn, 1) := by decide +kernel
theorem dX11_appeal_13 : decode cX11_appeal 13 = .ok (.aload_n 0, 1) := by decide +kernel
theorem dX11_appeal_14 : decode cX11_appeal 14 = .ok (.getfield 10, 3) := by decide +kernel
theorem dX11_appeal_17 : decode cX11_appeal 17 = .ok (.iload_n 1, 1) := by decide +kernel
theorem dX11_appeal_18 : decode cX11_appeal 18 = .ok (.aload_n 0, 1) := by decide +kernel
theorem dX11_appeal_19 : decode cX11_appeal 19 = .ok (.getfield 10, 3) := by decide +kernel
theorem dX11_appeal_22 : decode cX11_appeal 22 = .ok (.getfield 80, 3) := by decide +kernel
theorem dX11_appeal_25 : decode cX11_appeal 25 = .ok (.invokevirtual 221, 3) := by decide +kernel
theorem dX11_appeal_28 : decode cX11_appeal 28 = .ok (.ifCond .ne 6, 3) := by decide +kernel
theorem dX11_appeal_31 : decode cX11_appeal 31 = .ok (.bipush (-4), 2) := by decide +kernel
theorem dX11_appeal_33 : decode cX11_appeal 33 = .ok (.ireturn, 1) := by decide +kernel
theorem dX11_appeal_34 : decode cX11_appeal 34 = .ok (.aload_n 0, 1) := by decide +kernel
theorem dX11_appeal_35 : decode cX11_appeal 35 = .ok (.getfield 10, 3) := by decide +kernel
theorem dX11_appeal_38 : decode cX11_appeal 38 = .ok (.getfield 225, 3) := by decide +kernel
theorem dX11_appeal_41 : decode cX11_appeal 41 = .ok (.iload_n 1, 1) := by decide +kernel
theorem dX11_appeal_42 : decode cX11_appeal 42 = .ok (.aload_n 0, 1) := by decide +kernel
theorem dX11_appeal_43 : decode cX11_appeal 43 = .ok (.getfield 10, 3) := by decide +kernel
theorem dX11_appeal_46 : decode cX11_appeal 46 = .ok (.getfield 80, 3) := by decide +kernel
theorem dX11_appeal_49 : decode cX11_appeal 49 = .ok (.iastore, 1) := by decide +kernel
theorem dX11_appeal_50 : decode cX11_appeal 50 = .ok (.aload_n 0, 1) := by decide +kernel
theorem dX11_appeal_51 : decode cX11_appeal 51 = .ok (.getfield 10, 3) := by decide +kernel
theorem dX11_appeal_54 : decode cX11_appeal 54 = .ok (.aload_n 0, 1) := by decide +kernel
theorem dX11_appeal_55 : decode cX11_appeal 55 = .ok (.getfield 10, 3) := by decide +kernel
theorem dX11_appeal_58 : decode cX11_appeal 58 = .ok (.getfield 80, 3) := by decide +kernel
theorem dX11_appeal_61 : decode cX11_appeal 61 = .ok (.invokevirtual 228, 3) := by decide +kernel
theorem dX11_appeal_64 : decode cX11_appeal 64 = .ok (.ireturn, 1) := by decide +kernel
theorem dX11_amiss_0 : decode cX11_amiss 0 = .ok (.iload_n 1, 1) := by decide +kernel
theorem dX11_amiss_1 : decode cX11_amiss 1 = .ok (.invokestatic 95, 3) := by decide +kernel
theorem dX11_amiss_4 : decode cX11_amiss 4 = .ok (.ifCond .ne 5, 3) := by decide +kernel
theorem dX11_amiss_7 : decode cX11_amiss 7 = .ok (.iconst (-1), 1) := by decide +kernel
theorem dX11_amiss_8 : decode cX11_amiss 8 = .ok (.ireturn, 1) := by decide +kernel
theorem dX11_amiss_9 : decode cX11_amiss 9 = .ok (.iconst 0, 1) := by decide +kernel
theorem dX11_amiss_10 : decode cX11_amiss 10 = .ok (.istore_n 2, 1) := by decide +kernel
theorem dX11_amiss_11 : decode cX11_amiss 11 = .ok (.iconst 0, 1) := by decide +kernel
theorem dX11_amiss_12 : decode cX11_amiss 12 = .ok (.istore_n 3, 1) := by decide +kernel
theorem dX11_amiss_13 : decode cX11_amiss 13 = .ok (.iload_n 3, 1) := by decide +kernel
theorem dX11_amiss_14 : decode cX11_amiss 14 = .ok (.aload_n 0, 1) := by decide +kernel
theorem dX11_amiss_15 : decode cX11_amiss 15 = .ok (.getfield 10, 3) := by decide +kernel
theorem dX11_amiss_18 : decode cX11_amiss 18 = .ok (.getfield 211, 3) := by decide +kernel
theorem dX11_amiss_21 : decode cX11_amiss 21 = .ok (.if_icmp .ge 47, 3) := by decide +kernel
theorem dX11_amiss_24 : decode cX11_amiss 24 = .ok (.aload_n 0, 1) := by decide +kernel
theorem dX11_amiss_25 : decode cX11_amiss 25 = .ok (.getfield 10, 3) := by decide +kernel
theorem dX11_amiss_28 : decode cX11_amiss 28 = .ok (.iload_n 3, 1) := by decide +kernel
theorem dX11_amiss_29 : decode cX11_amiss 29 = .ok (.iload_n 1, 1) := by decide +kernel
theorem dX11_amiss_30 : decode cX11_amiss 30 = .ok (.invokevirtual 221, 3) := by decide +kernel
theorem dX11_amiss_33 : decode cX11_amiss 33 = .ok (.ifCond .eq 29, 3) := by decide +kernel
theorem dX11_amiss_36 : decode cX11_amiss 36 = .ok (.aload_n 0, 1) := by decide +kernel
theorem dX11_amiss_37 : decode cX11_amiss 37 = .ok (.getfield 10, 3) := by decide +kernel
theorem dX11_amiss_40 : decode cX11_amiss 40 = .ok (.aload_n 0, 1) := by decide +kernel
theorem dX11_amiss_41 : decode cX11_amiss 41 = .ok (.getfield 10, 3) := by decide +kernel
theorem dX11_amiss_44 : decode cX11_amiss 44 = .ok (.getfield 231, 3) := by decide +kernel
theorem dX11_amiss_47 : decode cX11_amiss 47 = .ok (.iload_n 3, 1) := by decide +kernel
theorem dX11_amiss_48 : decode cX11_amiss 48 = .ok (.aaload, 1) := by decide +kernel
theorem dX11_amiss_49 : decode cX11_amiss 49 = .ok (.iload_n 1, 1) := by decide +kernel
theorem dX11_amiss_50 : decode cX11_amiss 50 = .ok (.invokevirtual 235, 3) := by decide +kernel
theorem dX11_amiss_53 : decode cX11_amiss 53 = .ok (.ifCond .eq 9, 3) := by decide +kernel
theorem dX11_amiss_56 : decode cX11_amiss 56 = .ok (.iload_n 2, 1) := by decide +kernel
theorem dX11_amiss_57 : decode cX11_amiss 57 = .ok (.iconst 1, 1) := by decide +kernel
theorem dX11_amiss_58 : decode cX11_amiss 58 = .ok (.iload_n 3, 1) := by decide +kernel
theorem dX11_amiss_59 : decode cX11_amiss 59 = .ok (.ishl, 1) := by decide +kernel
theorem dX11_amiss_60 : decode cX11_amiss 60 = .ok (.ior, 1) := by decide +kernel
theorem dX11_amiss_61 : decode cX11_amiss 61 = .ok (.istore_n 2, 1) := by decide +kernel
theorem dX11_amiss_62 : decode cX11_amiss 62 = .ok (.iinc 3 1, 3) := by decide +kernel
theorem dX11_amiss_65 : decode cX11_amiss 65 = .ok (.goto (-52), 3) := by decide +kernel
theorem dX11_amiss_68 : decode cX11_amiss 68 = .ok (.iload_n 2, 1) := by decide +kernel
theorem dX11_amiss_69 : decode cX11_amiss 69 = .ok (.ireturn, 1) := by decide +kernel
theorem dX11_held_0 : decode cX11_held 0 = .ok (.aload_n 0, 1) := by decide +kernel
theorem dX11_held_1 : decode cX11_held 1 = .ok (.getfield 10, 3) := by decide +kernel
theorem dX11_held_4 : decode cX11_held 4 = .ok (.iload_n 1, 1) := by decide +kernel
theorem dX11_held_5 : decode cX11_held 5 = .ok (.invokevirtual 91, 3) := by decide +kernel
theorem dX11_held_8 : decode cX11_held 8 = .ok (.ifCond .eq 23, 3) := by decide +kernel
theorem dX11_held_11 : decode cX11_held 11 = .ok (.iload_n 2, 1) := by decide +kernel
theorem dX11_held_12 : decode cX11_held 12 = .ok (.ifCond .lt 19, 3) := by decide +kernel
theorem dX11_held_15 : decode cX11_held 15 = .ok (.iload_n 3, 1) := by decide +kernel
theorem dX11_held_16 : decode cX11_held 16 = .ok (.iload_n 2, 1) := by decide +kernel
theorem dX11_held_17 : decode cX11_held 17 = .ok (.if_icmp .lt 14, 3) := by decide +kernel
theorem dX11_held_20 : decode cX11_held 20 = .ok (.iload_n 3, 1) := by decide +kernel
theorem dX11_held_21 : decode cX11_held 21 = .ok (.aload_n 0, 1) := by decide +kernel
theorem dX11_held_22 : decode cX11_held 22 = .ok (.getfield 10, 3) := by decide +kernel
theorem dX11_held_25 : decode cX11_held 25 = .ok (.getfield 80, 3) := by decide +kernel
theorem dX11_held_28 : decode cX11_held 28 = .ok (.if_icmp .le 5, 3) := by decide +kernel
theorem dX11_held_31 : decode cX11_held 31 = .ok (.iconst (-1), 1) := by decide +kernel
theorem dX11_held_32 : decode cX11_held 32 = .ok (.ireturn, 1) := by decide +kernel
theorem dX11_held_33 : decode cX11_held 33 = .ok (.aload_n 0, 1) := by decide +kernel
theorem dX11_held_34 : decode cX11_held 34 = .ok (.getfield 10, 3) := by decide +kernel
theorem dX11_held_37 : decode cX11_held 37 = .ok (.getfield 239, 3) := by decide +kernel
theorem dX11_held_40 : decode cX11_held 40 = .ok (.bipush 12, 2) := by decide +kernel
theorem dX11_held_42 : decode cX11_held 42 = .ok (.if_icmp .lt 6, 3) := by decide +kernel
theorem dX11_held_45 : decode cX11_held 45 = .ok (.bipush (-2), 2) := by decide +kernel
theorem dX11_held_47 : decode cX11_held 47 = .ok (.ireturn, 1) := by decide +kernel
theorem dX11_held_48 : decode cX11_held 48 = .ok (.aload_n 0, 1) := by decide +kernel
theorem dX11_held_49 : decode cX11_held 49 = .ok (.getfield 10, 3) := by decide +kernel
theorem dX11_held_52 : decode cX11_held 52 = .ok (.iload_n 1, 1) := by decide +kernel
theorem dX11_held_53 : decode cX11_held 53 = .ok (.iload_n 2, 1) := by decide +kernel
theorem dX11_held_54 : decode cX11_held 54 = .ok (.iload_n 3, 1) := by decide +kernel
theorem dX11_held_55 : decode cX11_held 55 = .ok (.invokevirtual 242, 3) := by decide +kernel
theorem dX11_held_58 : decode cX11_held 58 = .ok (.ireturn, 1) := by decide +kernel
theorem dX11_credit_0 : decode cX11_credit 0 = .ok (.aload_n 0, 1) := by decide +kernel
theorem dX11_credit_1 : decode cX11_credit 1 = .ok (.getfield 10, 3) := by decide +kernel
theorem dX11_credit_4 : decode cX11_credit 4 = .ok (.iload_n 1, 1) := by decide +kernel
theorem dX11_credit_5 : decode cX11_credit 5 = .ok (.invokevirtual 91, 3) := by decide +kernel
theorem dX11_credit_8 : decode cX11_credit 8 = .ok (.ifCond .eq 10, 3) := by decide +kernel
theorem dX11_credit_11 : decode cX11_credit 11 = .ok (.iload_n 2, 1) := by decide +kernel
theorem dX11_credit_12 : decode cX11_credit 12 = .ok (.invokestatic 95, 3) := by decide +kernel
theorem dX11_credit_15 : decode cX11_credit 15 = .ok (.ifCond .ne 5, 3) := by decide +kernel
theorem dX11_credit_18 : decode cX11_credit 18 = .ok (.iconst (-1), 1) := by decide +kernel
theorem dX11_credit_19 : decode cX11_credit 19 = .ok (.ireturn, 1) := by decide +kernel
theorem dX11_credit_20 : decode cX11_credit 20 = .ok (.aload_n 0, 1) := by decide +kernel
theorem dX11_credit_21 : decode cX11_credit 21 = .ok (.getfield 10, 3) := by decide +kernel
theorem dX11_credit_24 : decode cX11_credit 24 = .ok (.iload_n 1, 1) := by decide +kernel
theorem dX11_credit_25 : decode cX11_credit 25 = .ok (.iload_n 2, 1) := by decide +kernel
theorem dX11_credit_26 : decode cX11_credit 26 = .ok (.invokevirtual 245, 3) := by decide +kernel
theorem dX11_credit_29 : decode cX11_credit 29 = .ok (.ireturn, 1) := by decide +kernel
theorem dX11_good_0 : decode cX11_good 0 = .ok (.aload_n 0, 1) := by decide +kernel
theorem dX11_good_1 : decode cX11_good 1 = .ok (.getfield 10, 3) := by decide +kernel
theorem dX11_good_4 : decode cX11_good 4 = .ok (.iload_n 1, 1) := by decide +kernel
theorem dX11_good_5 : decode cX11_good 5 = .ok (.invokevirtual 91, 3) := by decide +kernel
theorem dX11_good_8 : decode cX11_good 8 = .ok (.ifCond .eq 14, 3) := by decide +kernel
theorem dX11_good_11 : decode cX11_good 11 = .ok (.iload_n 2, 1) := by decide +kernel
theorem dX11_good_12 : decode cX11_good 12 = .ok (.iconst 1, 1) := by decide +kernel
theorem dX11_good_13 : decode cX11_good 13 = .ok (.if_icmp .lt 9, 3) := by decide +kernel
theorem dX11_good_16 : decode cX11_good 16 = .ok (.iload_n 2, 1) := by decide +kernel
theorem dX11_good_17 : decode cX11_good 17 = .ok (.bipush 99, 2) := by decide +kernel
theorem dX11_good_19 : decode cX11_good 19 = .ok (.if_icmp .le 5, 3) := by decide +kernel
theorem dX11_good_22 : decode cX11_good 22 = .ok (.iconst (-1), 1) := by decide +kernel
theorem dX11_good_23 : decode cX11_good 23 = .ok (.ireturn, 1) := by decide +kernel
theorem dX11_good_24 : decode cX11_good 24 = .ok (.aload_n 0, 1) := by decide +kernel
theorem dX11_good_25 : decode cX11_good 25 = .ok (.getfield 10, 3) := by decide +kernel
theorem dX11_good_28 : decode cX11_good 28 = .ok (.getfield 248, 3) := by decide +kernel
theorem dX11_good_31 : decode cX11_good 31 = .ok (.iload_n 1, 1) := by decide +kernel
theorem dX11_good_32 : decode cX11_good 32 = .ok (.iaload, 1) := by decide +kernel
theorem dX11_good_33 : decode cX11_good 33 = .ok (.iload_n 2, 1) := by decide +kernel
theorem dX11_good_34 : decode cX11_good 34 = .ok (.iadd, 1) := by decide +kernel
theorem dX11_good_35 : decode cX11_good 35 = .ok (.sipush 999, 3) := by decide +kernel
theorem dX11_good_38 : decode cX11_good 38 = .ok (.if_icmp .le 6, 3) := by decide +kernel
theorem dX11_good_41 : decode cX11_good 41 = .ok (.bipush (-4), 2) := by decide +kernel
theorem dX11_good_43 : decode cX11_good 43 = .ok (.ireturn, 1) := by decide +kernel
theorem dX11_good_44 : decode cX11_good 44 = .ok (.aload_n 0, 1) := by decide +kernel
theorem dX11_good_45 : decode cX11_good 45 = .ok (.getfield 10, 3) := by decide +kernel
theorem dX11_good_48 : decode cX11_good 48 = .ok (.getfield 248, 3) := by decide +kernel
theorem dX11_good_51 : decode cX11_good 51 = .ok (.iload_n 1, 1) := by decide +kernel
theorem dX11_good_52 : decode cX11_good 52 = .ok (.dup2, 1) := by decide +kernel
theorem dX11_good_53 : decode cX11_good 53 = .ok (.iaload, 1) := by decide +kernel
theorem dX11_good_54 : decode cX11_good 54 = .ok (.iload_n 2, 1) := by decide +kernel
theorem dX11_good_55 : decode cX11_good 55 = .ok (.iadd, 1) := by decide +kernel
theorem dX11_good_56 : decode cX11_good 56 = .ok (.iastore, 1) := by decide +kernel
theorem dX11_good_57 : decode cX11_good 57 = .ok (.aload_n 0, 1) := by decide +kernel
theorem dX11_good_58 : decode cX11_good 58 = .ok (.getfield 10, 3) := by decide +kernel
theorem dX11_good_61 : decode cX11_good 61 = .ok (.getfield 248, 3) := by decide +kernel
theorem dX11_good_64 : decode cX11_good 64 = .ok (.iload_n 1, 1) := by decide +kernel
theorem dX11_good_65 : decode cX11_good 65 = .ok (.iaload, 1) := by decide +kernel
theorem dX11_good_66 : decode cX11_good 66 = .ok (.ireturn, 1) := by decide +kernel
theorem dX11_release_0 : decode cX11_release 0 = .ok (.aload_n 0, 1) := by decide +kernel
theorem dX11_release_1 : decode cX11_release 1 = .ok (.getfield 10, 3) := by decide +kernel
theorem dX11_release_4 : decode cX11_release 4 = .ok (.iload_n 1, 1) := by decide +kernel
theorem dX11_release_5 : decode cX11_release 5 = .ok (.invokevirtual 91, 3) := by decide +kernel
theorem dX11_release_8 : decode cX11_release 8 = .ok (.ifCond .eq 10, 3) := by decide +kernel
theorem dX11_release_11 : decode cX11_release 11 = .ok (.iload_n 2, 1) := by decide +kernel
theorem dX11_release_12 : decode cX11_release 12 = .ok (.invokestatic 95, 3) := by decide +kernel
theorem dX11_release_15 : decode cX11_release 15 = .ok (.ifCond .ne 5, 3) := by decide +kernel
theorem dX11_release_18 : decode cX11_release 18 = .ok (.iconst (-1), 1) := by decide +kernel
theorem dX11_release_19 : decode cX11_release 19 = .ok (.ireturn, 1) := by decide +kernel
theorem dX11_release_20 : decode cX11_release 20 = .ok (.aload_n 0, 1) := by decide +kernel
theorem dX11_release_21 : decode cX11_release 21 = .ok (.getfield 10, 3) := by decide +kernel
theorem dX11_release_24 : decode cX11_release 24 = .ok (.iload_n 1, 1) := by decide +kernel
theorem dX11_release_25 : decode cX11_release 25 = .ok (.iload_n 2, 1) := by decide +kernel
theorem dX11_release_26 : decode cX11_release 26 = .ok (.invokevirtual 251, 3) := by decide +kernel
theorem dX11_release_29 : decode cX11_release 29 = .ok (.ireturn, 1) := by decide +kernel
theorem dX11_beds_0 : decode cX11_beds 0 = .ok (.iload_n 1, 1) := by decide +kernel
theorem dX11_beds_1 : decode cX11_beds 1 = .ok (.invokestatic 95, 3) := by decide +kernel
theorem dX11_beds_4 : decode cX11_beds 4 = .ok (.ifCond .eq 10, 3) := by decide +kernel
theorem dX11_beds_7 : decode cX11_beds 7 = .ok (.iload_n 2, 1) := by decide +kernel
theorem dX11_beds_8 : decode cX11_beds 8 = .ok (.invokestatic 95, 3) := by decide +kernel
theorem dX11_beds_11 : decode cX11_beds 11 = .ok (.ifCond .ne 5, 3) := by decide +kernel
theorem dX11_beds_14 : decode cX11_beds 14 = .ok (.iconst (-1), 1) := by decide +kernel
theorem dX11_beds_15 : decode cX11_beds 15 = .ok (.ireturn, 1) := by decide +kernel
theorem dX11_beds_16 : decode cX11_beds 16 = .ok (.iconst 0, 1) := by decide +kernel
theorem dX11_beds_17 : decode cX11_beds 17 = .ok (.istore_n 3, 1) := by decide +kernel
theorem dX11_beds_18 : decode cX11_beds 18 = .ok (.iconst 0, 1) := by decide +kernel
theorem dX11_beds_19 : decode cX11_beds 19 = .ok (.istore 4, 2) := by decide +kernel
theorem dX11_beds_21 : decode cX11_beds 21 = .ok (.iload 4, 2) := by decide +kernel
theorem dX11_beds_23 : decode cX11_beds 23 = .ok (.aload_n 0, 1) := by decide +kernel
theorem dX11_beds_24 : decode cX11_beds 24 = .ok (.getfield 10, 3) := by decide +kernel
theorem dX11_beds_27 : decode cX11_beds 27 = .ok (.getfield 84, 3) := by decide +kernel
theorem dX11_beds_30 : decode cX11_beds 30 = .ok (.if_icmp .ge 51, 3) := by decide +kernel
theorem dX11_beds_33 : decode cX11_beds 33 = .ok (.aload_n 0, 1) := by decide +kernel
theorem dX11_beds_34 : decode cX11_beds 34 = .ok (.getfield 10, 3) := by decide +kernel
theorem dX11_beds_37 : decode cX11_beds 37 = .ok (.iload 4, 2) := by decide +kernel
theorem dX11_beds_39 : decode cX11_beds 39 = .ok (.iload_n 2, 1) := by decide +kernel
theorem dX11_beds_40 : decode cX11_beds 40 = .ok (.invokevirtual 254, 3) := by decide +kernel
theorem dX11_beds_43 : decode cX11_beds 43 = .ok (.istore 5, 2) := by decide +kernel
theorem dX11_beds_45 : decode cX11_beds 45 = .ok (.iload 5, 2) := by decide +kernel
theorem dX11_beds_47 : decode cX11_beds 47 = .ok (.bipush (-3), 2) := by decide +kernel
theorem dX11_beds_49 : decode cX11_beds 49 = .ok (.if_icmp .eq 26, 3) := by decide +kernel
theorem dX11_beds_52 : decode cX11_beds 52 = .ok (.iload 5, 2) := by decide +kernel
theorem dX11_beds_54 : decode cX11_beds 54 = .ok (.iload_n 1, 1) := by decide +kernel
theorem dX11_beds_55 : decode cX11_beds 55 = .ok (.if_icmp .gt 20, 3) := by decide +kernel
theorem dX11_beds_58 : decode cX11_beds 58 = .ok (.aload_n 0, 1) := by decide +kernel
theorem dX11_beds_59 : decode cX11_beds 59 = .ok (.getfield 10, 3) := by decide +kernel
theorem dX11_beds_62 : decode cX11_beds 62 = .ok (.iload 4, 2) := by decide +kernel
theorem dX11_beds_64 : decode cX11_beds 64 = .ok (.iload_n 2, 1) := by decide +kernel
theorem dX11_beds_65 : decode cX11_beds 65 = .ok (.invokevirtual 251, 3) := by decide +kernel
theorem dX11_beds_68 : decode cX11_beds 68 = .ok (.iload_n 1, 1) := by decide +kernel
theorem dX11_beds_69 : decode cX11_beds 69 = .ok (.if_icmp .le 6, 3) := by decide +kernel
theorem dX11_beds_72 : decode cX11_beds 72 = .ok (.iinc 3 1, 3) := by decide +kernel
theorem dX11_beds_75 : decode cX11_beds 75 = .ok (.iinc 4 1, 3) := by decide +kernel
theorem dX11_beds_78 : decode cX11_beds 78 = .ok (.goto (-57), 3) := by decide +kernel
theorem dX11_beds_81 : decode cX11_beds 81 = .ok (.iload_n 3, 1) := by decide +kernel
theorem dX11_beds_82 : decode cX11_beds 82 = .ok (.ireturn, 1) := by decide +kernel
theorem dX11_prove_0 : decode cX11_prove 0 = .ok (.aload_n 0, 1) := by decide +kernel
theorem dX11_prove_1 : decode cX11_prove 1 = .ok (.getfield 10, 3) := by decide +kernel
theorem dX11_prove_4 : decode cX11_prove 4 = .ok (.iload_n 1, 1) := by decide +kernel
theorem dX11_prove_5 : decode cX11_prove 5 = .ok (.invokevirtual 91, 3) := by decide +kernel
theorem dX11_prove_8 : decode cX11_prove 8 = .ok (.ifCond .ne 5, 3) := by decide +kernel
theorem dX11_prove_11 : decode cX11_prove 11 = .ok (.iconst (-1), 1) := by decide +kernel
theorem dX11_prove_12 : decode cX11_prove 12 = .ok (.ireturn, 1) := by decide +kernel
theorem dX11_prove_13 : decode cX11_prove 13 = .ok (.aload_n 0, 1) := by decide +kernel
theorem dX11_prove_14 : decode cX11_prove 14 = .ok (.getfield 10, 3) := by decide +kernel
theorem dX11_prove_17 : decode cX11_prove 17 = .ok (.iload_n 1, 1) := by decide +kernel
theorem dX11_prove_18 : decode cX11_prove 18 = .ok (.aload_n 0, 1) := by decide +kernel
theorem dX11_prove_19 : decode cX11_prove 19 = .ok (.getfield 10, 3) := by decide +kernel
theorem dX11_prove_22 : decode cX11_prove 22 = .ok (.getfield 80, 3) := by decide +kernel
theorem dX11_prove_25 : decode cX11_prove 25 = .ok (.aload_n 0, 1) := by decide +kernel
theorem dX11_prove_26 : decode cX11_prove 26 = .ok (.getfield 33, 3) := by decide +kernel
theorem dX11_prove_29 : decode cX11_prove 29 = .ok (.invokevirtual 257, 3) := by decide +kernel
theorem dX11_prove_32 : decode cX11_prove 32 = .ok (.aload_n 0, 1) := by decide +kernel
theorem dX11_prove_33 : decode cX11_prove 33 = .ok (.getfield 33, 3) := by decide +kernel
theorem dX11_prove_36 : decode cX11_prove 36 = .ok (.getfield 261, 3) := by decide +kernel
theorem dX11_prove_39 : decode cX11_prove 39 = .ok (.ireturn, 1) := by decide +kernel
theorem dX11_row_0 : decode cX11_row 0 = .ok (.aload_n 0, 1) := by decide +kernel
theorem dX11_row_1 : decode cX11_row 1 = .ok (.getfield 33, 3) := by decide +kernel
theorem dX11_row_4 : decode cX11_row 4 = .ok (.iload_n 1, 1) := by decide +kernel
theorem dX11_row_5 : decode cX11_row 5 = .ok (.iload_n 2, 1) := by decide +kernel
theorem dX11_row_6 : decode cX11_row 6 = .ok (.invokevirtual 264, 3) := by decide +kernel
theorem dX11_row_9 : decode cX11_row 9 = .ok (.ifCond .eq 15, 3) := by decide +kernel
theorem dX11_row_12 : decode cX11_row 12 = .ok (.aload_n 0, 1) := by decide +kernel
theorem dX11_row_13 : decode cX11_row 13 = .ok (.getfield 33, 3) := by decide +kernel
theorem dX11_row_16 : decode cX11_row 16 = .ok (.iload_n 1, 1) := by decide +kernel
theorem dX11_row_17 : decode cX11_row 17 = .ok (.iload_n 2, 1) := by decide +kernel
theorem dX11_row_18 : decode cX11_row 18 = .ok (.invokevirtual 267, 3) := by decide +kernel
theorem dX11_row_21 : decode cX11_row 21 = .ok (.goto 5, 3) := by decide +kernel
theorem dX11_row_24 : decode cX11_row 24 = .ok (.bipush (-9), 2) := by decide +kernel
theorem dX11_row_26 : decode cX11_row 26 = .ok (.ireturn, 1) := by decide +kernel
theorem dX11_alterRow_0 : decode cX11_alterRow 0 = .ok (.aload_n 0, 1) := by decide +kernel
theorem dX11_alterRow_1 : decode cX11_alterRow 1 = .ok (.getfield 33, 3) := by decide +kernel
theorem dX11_alterRow_4 : decode cX11_alterRow 4 = .ok (.iload_n 1, 1) := by decide +kernel
theorem dX11_alterRow_5 : decode cX11_alterRow 5 = .ok (.iload_n 2, 1) := by decide +kernel
theorem dX11_alterRow_6 : decode cX11_alterRow 6 = .ok (.invokevirtual 264, 3) := by decide +kernel
theorem dX11_alterRow_9 : decode cX11_alterRow 9 = .ok (.ifCond .ne 6, 3) := by decide +kernel
theorem dX11_alterRow_12 : decode cX11_alterRow 12 = .ok (.bipush (-9), 2) := by decide +kernel
theorem dX11_alterRow_14 : decode cX11_alterRow 14 = .ok (.ireturn, 1) := by decide +kernel
theorem dX11_alterRow_15 : decode cX11_alterRow 15 = .ok (.aload_n 0, 1) := by decide +kernel
theorem dX11_alterRow_16 : decode cX11_alterRow 16 = .ok (.getfield 33, 3) := by decide +kernel
theorem dX11_alterRow_19 : decode cX11_alterRow 19 = .ok (.iload_n 1, 1) := by decide +kernel
theorem dX11_alterRow_20 : decode cX11_alterRow 20 = .ok (.iload_n 2, 1) := by decide +kernel
theorem dX11_alterRow_21 : decode cX11_alterRow 21 = .ok (.invokevirtual 267, 3) := by decide +kernel
theorem dX11_alterRow_24 : decode cX11_alterRow 24 = .ok (.istore 4, 2) := by decide +kernel
theorem dX11_alterRow_26 : decode cX11_alterRow 26 = .ok (.aload_n 0, 1) := by decide +kernel
theorem dX11_alterRow_27 : decode cX11_alterRow 27 = .ok (.getfield 33, 3) := by decide +kernel
theorem dX11_alterRow_30 : decode cX11_alterRow 30 = .ok (.iload_n 1, 1) := by decide +kernel
theorem dX11_alterRow_31 : decode cX11_alterRow 31 = .ok (.iload_n 2, 1) := by decide +kernel
theorem dX11_alterRow_32 : decode cX11_alterRow 32 = .ok (.iload_n 3, 1) := by decide +kernel
theorem dX11_alterRow_33 : decode cX11_alterRow 33 = .ok (.invokevirtual 270, 3) := by decide +kernel
theorem dX11_alterRow_36 : decode cX11_alterRow 36 = .ok (.iload 4, 2) := by decide +kernel
theorem dX11_alterRow_38 : decode cX11_alterRow 38 = .ok (.ireturn, 1) := by decide +kernel
theorem dX11_judge_0 : decode cX11_judge 0 = .ok (.iconst 0, 1) := by decide +kernel
theorem dX11_judge_1 : decode cX11_judge 1 = .ok (.istore_n 1, 1) := by decide +kernel
theorem dX11_judge_2 : decode cX11_judge 2 = .ok (.iload_n 1, 1) := by decide +kernel
theorem dX11_judge_3 : decode cX11_judge 3 = .ok (.aload_n 0, 1) := by decide +kernel
theorem dX11_judge_4 : decode cX11_judge 4 = .ok (.getfield 33, 3) := by decide +kernel
theorem dX11_judge_7 : decode cX11_judge 7 = .ok (.getfield 261, 3) := by decide +kernel
theorem dX11_judge_10 : decode cX11_judge 10 = .ok (.if_icmp .ge 21, 3) := by decide +kernel
theorem dX11_judge_13 : decode cX11_judge 13 = .ok (.aload_n 0, 1) := by decide +kernel
theorem dX11_judge_14 : decode cX11_judge 14 = .ok (.iload_n 1, 1) := by decide +kernel
theorem dX11_judge_15 : decode cX11_judge 15 = .ok (.invokevirtual 274, 3) := by decide +kernel
theorem dX11_judge_18 : decode cX11_judge 18 = .ok (.ifCond .ne 7, 3) := by decide +kernel
theorem dX11_judge_21 : decode cX11_judge 21 = .ok (.iload_n 1, 1) := by decide +kernel
theorem dX11_judge_22 : decode cX11_judge 22 = .ok (.iconst 1, 1) := by decide +kernel
theorem dX11_judge_23 : decode cX11_judge 23 = .ok (.iadd, 1) := by decide +kernel
theorem dX11_judge_24 : decode cX11_judge 24 = .ok (.ireturn, 1) := by decide +kernel
theorem dX11_judge_25 : decode cX11_judge 25 = .ok (.iinc 1 1, 3) := by decide +kernel
theorem dX11_judge_28 : decode cX11_judge 28 = .ok (.goto (-26), 3) := by decide +kernel
theorem dX11_judge_31 : decode cX11_judge 31 = .ok (.iconst 0, 1) := by decide +kernel
theorem dX11_judge_32 : decode cX11_judge 32 = .ok (.ireturn, 1) := by decide +kernel
theorem dX11_isRightRow_0 : decode cX11_isRightRow 0 = .ok (.aload_n 0, 1) := by decide +kernel
theorem dX11_isRightRow_1 : decode cX11_isRightRow 1 = .ok (.getfield 33, 3) := by decide +kernel
theorem dX11_isRightRow_4 : decode cX11_isRightRow 4 = .ok (.iload_n 1, 1) := by decide +kernel
theorem dX11_isRightRow_5 : decode cX11_isRightRow 5 = .ok (.iconst 0, 1) := by decide +kernel
theorem dX11_isRightRow_6 : decode cX11_isRightRow 6 = .ok (.invokevirtual 267, 3) := by decide +kernel
theorem dX11_isRightRow_9 : decode cX11_isRightRow 9 = .ok (.istore_n 2, 1) := by decide +kernel
theorem dX11_isRightRow_10 : decode cX11_isRightRow 10 = .ok (.aload_n 0, 1) := by decide +kernel
theorem dX11_isRightRow_11 : decode cX11_isRightRow 11 = .ok (.getfield 10, 3) := by decide +kernel
theorem dX11_isRightRow_14 : decode cX11_isRightRow 14 = .ok (.iload_n 2, 1) := by decide +kernel
theorem dX11_isRightRow_15 : decode cX11_isRightRow 15 = .ok (.invokevirtual 218, 3) := by decide +kernel
theorem dX11_isRightRow_18 : decode cX11_isRightRow 18 = .ok (.ifCond .eq 21, 3) := by decide +kernel
theorem dX11_isRightRow_21 : decode cX11_isRightRow 21 = .ok (.aload_n 0, 1) := by decide +kernel
theorem dX11_isRightRow_22 : decode cX11_isRightRow 22 = .ok (.getfield 10, 3) := by decide +kernel
theorem dX11_isRightRow_25 : decode cX11_isRightRow 25 = .ok (.iload_n 2, 1) := by decide +kernel
theorem dX11_isRightRow_26 : decode cX11_isRightRow 26 = .ok (.aload_n 0, 1) := by decide +kernel
theorem dX11_isRightRow_27 : decode cX11_isRightRow 27 = .ok (.getfield 10, 3) := by decide +kernel
theorem dX11_isRightRow_30 : decode cX11_isRightRow 30 = .ok (.getfield 80, 3) := by decide +kernel
theorem dX11_isRightRow_33 : decode cX11_isRightRow 33 = .ok (.invokevirtual 221, 3) := by decide +kernel
theorem dX11_isRightRow_36 : decode cX11_isRightRow 36 = .ok (.ifCond .ne 5, 3) := by decide +kernel
theorem dX11_isRightRow_39 : decode cX11_isRightRow 39 = .ok (.iconst 0, 1) := by decide +kernel
theorem dX11_isRightRow_40 : decode cX11_isRightRow 40 = .ok (.ireturn, 1) := by decide +kernel
theorem dX11_isRightRow_41 : decode cX11_isRightRow 41 = .ok (.aload_n 0, 1) := by decide +kernel
theorem dX11_isRightRow_42 : decode cX11_isRightRow 42 = .ok (.getfield 10, 3) := by decide +kernel
theorem dX11_isRightRow_45 : decode cX11_isRightRow 45 = .ok (.getfield 231, 3) := by decide +kernel
theorem dX11_isRightRow_48 : decode cX11_isRightRow 48 = .ok (.iload_n 2, 1) := by decide +kernel
theorem dX11_isRightRow_49 : decode cX11_isRightRow 49 = .ok (.aaload, 1) := by decide +kernel
theorem dX11_isRightRow_50 : decode cX11_isRightRow 50 = .ok (.astore_n 3, 1) := by decide +kernel
theorem dX11_isRightRow_51 : decode cX11_isRightRow 51 = .ok (.iload_n 1, 1) := by decide +kernel
theorem dX11_isRightRow_52 : decode cX11_isRightRow 52 = .ok (.ifCond .le 71, 3) := by decide +kernel
theorem dX11_isRightRow_55 : decode cX11_isRightRow 55 = .ok (.aload_n 0, 1) := by decide +kernel
theorem dX11_isRightRow_56 : decode cX11_isRightRow 56 = .ok (.getfield 33, 3) := by decide +kernel
theorem dX11_isRightRow_59 : decode cX11_isRightRow 59 = .ok (.iconst 0, 1) := by decide +kernel
theorem dX11_isRightRow_60 : decode cX11_isRightRow 60 = .ok (.iconst 0, 1) := by decide +kernel
theorem dX11_isRightRow_61 : decode cX11_isRightRow 61 = .ok (.invokevirtual 267, 3) := by decide +kernel
theorem dX11_isRightRow_64 : decode cX11_isRightRow 64 = .ok (.istore 4, 2) := by decide +kernel
theorem dX11_isRightRow_66 : decode cX11_isRightRow 66 = .ok (.iload_n 2, 1) := by decide +kernel
theorem dX11_isRightRow_67 : decode cX11_isRightRow 67 = .ok (.aload_n 0, 1) := by decide +kernel
theorem dX11_isRightRow_68 : decode cX11_isRightRow 68 = .ok (.getfield 33, 3) := by decide +kernel
theorem dX11_isRightRow_71 : decode cX11_isRightRow 71 = .ok (.iload_n 1, 1) := by decide +kernel
theorem dX11_isRightRow_72 : decode cX11_isRightRow 72 = .ok (.iconst 1, 1) := by decide +kernel
theorem dX11_isRightRow_73 : decode cX11_isRightRow 73 = .ok (.isub, 1) := by decide +kernel
theorem dX11_isRightRow_74 : decode cX11_isRightRow 74 = .ok (.iconst 0, 1) := by decide +kernel
theorem dX11_isRightRow_75 : decode cX11_isRightRow 75 = .ok (.invokevirtual 267, 3) := by decide +kernel
theorem dX11_isRightRow_78 : decode cX11_isRightRow 78 = .ok (.if_icmp .le 15, 3) := by decide +kernel
theorem dX11_isRightRow_81 : decode cX11_isRightRow 81 = .ok (.aload_n 0, 1) := by decide +kernel
theorem dX11_isRightRow_82 : decode cX11_isRightRow 82 = .ok (.getfield 10, 3) := by decide +kernel
theorem dX11_isRightRow_85 : decode cX11_isRightRow 85 = .ok (.iload 4, 2) := by decide +kernel
theorem dX11_isRightRow_87 : decode cX11_isRightRow 87 = .ok (.invokevirtual 218, 3) := by decide +kernel
theorem dX11_isRightRow_90 : decode cX11_isRightRow 90 = .ok (.ifCond .ne 5, 3) := by decide +kernel
theorem dX11_isRightRow_93 : decode cX11_isRightRow 93 = .ok (.iconst 0, 1) := by decide +kernel
theorem dX11_isRightRow_94 : decode cX11_isRightRow 94 = .ok (.ireturn, 1) := by decide +kernel
theorem dX11_isRightRow_95 : decode cX11_isRightRow 95 = .ok (.aload_n 0, 1) := by decide +kernel
theorem dX11_isRightRow_96 : decode cX11_isRightRow 96 = .ok (.getfield 10, 3) := by decide +kernel
theorem dX11_isRightRow_99 : decode cX11_isRightRow 99 = .ok (.getfield 231, 3) := by decide +kernel
theorem dX11_isRightRow_102 : decode cX11_isRightRow 102 = .ok (.iload 4, 2) := by decide +kernel
theorem dX11_isRightRow_104 : decode cX11_isRightRow 104 = .ok (.aaload, 1) := by decide +kernel
theorem dX11_isRightRow_105 : decode cX11_isRightRow 105 = .ok (.getfield 277, 3) := by decide +kernel
theorem dX11_isRightRow_108 : decode cX11_isRightRow 108 = .ok (.getfield 126, 3) := by decide +kernel
theorem dX11_isRightRow_111 : decode cX11_isRightRow 111 = .ok (.aload_n 3, 1) := by decide +kernel
theorem dX11_isRightRow_112 : decode cX11_isRightRow 112 = .ok (.getfield 277, 3) := by decide +kernel
theorem dX11_isRightRow_115 : decode cX11_isRightRow 115 = .ok (.getfield 126, 3) := by decide +kernel
theorem dX11_isRightRow_118 : decode cX11_isRightRow 118 = .ok (.if_icmp .eq 5, 3) := by decide +kernel
theorem dX11_isRightRow_121 : decode cX11_isRightRow 121 = .ok (.iconst 0, 1) := by decide +kernel
theorem dX11_isRightRow_122 : decode cX11_isRightRow 122 = .ok (.ireturn, 1) := by decide +kernel
theorem dX11_isRightRow_123 : decode cX11_isRightRow 123 = .ok (.aload_n 0, 1) := by decide +kernel
theorem dX11_isRightRow_124 : decode cX11_isRightRow 124 = .ok (.getfield 10, 3) := by decide +kernel
theorem dX11_isRightRow_127 : decode cX11_isRightRow 127 = .ok (.aload_n 3, 1) := by decide +kernel
theorem dX11_isRightRow_128 : decode cX11_isRightRow 128 = .ok (.aload_n 0, 1) := by decide +kernel
theorem dX11_isRightRow_129 : decode cX11_isRightRow 129 = .ok (.getfield 33, 3) := by decide +kernel
theorem dX11_isRightRow_132 : decode cX11_isRightRow 132 = .ok (.iload_n 1, 1) := by decide +kernel
theorem dX11_isRightRow_133 : decode cX11_isRightRow 133 = .ok (.invokevirtual 283, 3) := by decide +kernel
theorem dX11_isRightRow_136 : decode cX11_isRightRow 136 = .ok (.aload_n 0, 1) := by decide +kernel
theorem dX11_isRightRow_137 : decode cX11_isRightRow 137 = .ok (.getfield 10, 3) := by decide +kernel
theorem dX11_isRightRow_140 : decode cX11_isRightRow 140 = .ok (.getfield 80, 3) := by decide +kernel
theorem dX11_isRightRow_143 : decode cX11_isRightRow 143 = .ok (.invokevirtual 286, 3) := by decide +kernel
theorem dX11_isRightRow_146 : decode cX11_isRightRow 146 = .ok (.istore 4, 2) := by decide +kernel
theorem dX11_isRightRow_148 : decode cX11_isRightRow 148 = .ok (.aload_n 0, 1) := by decide +kernel
theorem dX11_isRightRow_149 : decode cX11_isRightRow 149 = .ok (.getfield 33, 3) := by decide +kernel
theorem dX11_isRightRow_152 : decode cX11_isRightRow 152 = .ok (.iload_n 1, 1) := by decide +kernel
theorem dX11_isRightRow_153 : decode cX11_isRightRow 153 = .ok (.iconst 1, 1) := by decide +kernel
theorem dX11_isRightRow_154 : decode cX11_isRightRow 154 = .ok (.invokevirtual 267, 3) := by decide +kernel
theorem dX11_isRightRow_157 : decode cX11_isRightRow 157 = .ok (.iload 4, 2) := by decide +kernel
theorem dX11_isRightRow_159 : decode cX11_isRightRow 159 = .ok (.if_icmp .ne 29, 3) := by decide +kernel
theorem dX11_isRightRow_162 : decode cX11_isRightRow 162 = .ok (.aload_n 0, 1) := by decide +kernel
theorem dX11_isRightRow_163 : decode cX11_isRightRow 163 = .ok (.getfield 33, 3) := by decide +kernel
theorem dX11_isRightRow_166 : decode cX11_isRightRow 166 = .ok (.iload_n 1, 1) := by decide +kernel
theorem dX11_isRightRow_167 : decode cX11_isRightRow 167 = .ok (.iconst 2, 1) := by decide +kernel
theorem dX11_isRightRow_168 : decode cX11_isRightRow 168 = .ok (.invokevirtual 267, 3) := by decide +kernel
theorem dX11_isRightRow_171 : decode cX11_isRightRow 171 = .ok (.iload 4, 2) := by decide +kernel
theorem dX11_isRightRow_173 : decode cX11_isRightRow 173 = .ok (.bipush 30, 2) := by decide +kernel
theorem dX11_isRightRow_175 : decode cX11_isRightRow 175 = .ok (.aload_n 3, 1) := by decide +kernel
theorem dX11_isRightRow_176 : decode cX11_isRightRow 176 = .ok (.getfield 290, 3) := by decide +kernel
theorem dX11_isRightRow_179 : decode cX11_isRightRow 179 = .ok (.imul, 1) := by decide +kernel
theorem dX11_isRightRow_180 : decode cX11_isRightRow 180 = .ok (.iadd, 1) := by decide +kernel
theorem dX11_isRightRow_181 : decode cX11_isRightRow 181 = .ok (.if_icmp .ne 7, 3) := by decide +kernel
theorem dX11_isRightRow_184 : decode cX11_isRightRow 184 = .ok (.iconst 1, 1) := by decide +kernel
theorem dX11_isRightRow_185 : decode cX11_isRightRow 185 = .ok (.goto 4, 3) := by decide +kernel
theorem dX11_isRightRow_188 : decode cX11_isRightRow 188 = .ok (.iconst 0, 1) := by decide +kernel
theorem dX11_isRightRow_189 : decode cX11_isRightRow 189 = .ok (.ireturn, 1) := by decide +kernel
theorem dX11_spread_0 : decode cX11_spread 0 = .ok (.iload_n 1, 1) := by decide +kernel
theorem dX11_spread_1 : decode cX11_spread 1 = .ok (.invokestatic 208, 3) := by decide +kernel
theorem dX11_spread_4 : decode cX11_spread 4 = .ok (.ifCond .eq 19, 3) := by decide +kernel
theorem dX11_spread_7 : decode cX11_spread 7 = .ok (.iload_n 2, 1) := by decide +kernel
theorem dX11_spread_8 : decode cX11_spread 8 = .ok (.invokestatic 95, 3) := by decide +kernel
theorem dX11_spread_11 : decode cX11_spread 11 = .ok (.ifCond .eq 12, 3) := by decide +kernel
theorem dX11_spread_14 : decode cX11_spread 14 = .ok (.iload_n 3, 1) := by decide +kernel
theorem dX11_spread_15 : decode cX11_spread 15 = .ok (.ifCond .lt 8, 3) := by decide +kernel
theorem dX11_spread_18 : decode cX11_spread 18 = .ok (.iload_n 3, 1) := by decide +kernel
theorem dX11_spread_19 : decode cX11_spread 19 = .ok (.iconst 4, 1) := by decide +kernel
theorem dX11_spread_20 : decode cX11_spread 20 = .ok (.if_icmp .le 5, 3) := by decide +kernel
theorem dX11_spread_23 : decode cX11_spread 23 = .ok (.iconst (-1), 1) := by decide +kernel
theorem dX11_spread_24 : decode cX11_spread 24 = .ok (.ireturn, 1) := by decide +kernel
theorem dX11_spread_25 : decode cX11_spread 25 = .ok (.iconst 0, 1) := by decide +kernel
theorem dX11_spread_26 : decode cX11_spread 26 = .ok (.istore 4, 2) := by decide +kernel
theorem dX11_spread_28 : decode cX11_spread 28 = .ok (.iconst 0, 1) := by decide +kernel
theorem dX11_spread_29 : decode cX11_spread 29 = .ok (.istore 5, 2) := by decide +kernel
theorem dX11_spread_31 : decode cX11_spread 31 = .ok (.iconst 0, 1) := by decide +kernel
theorem dX11_spread_32 : decode cX11_spread 32 = .ok (.istore 6, 2) := by decide +kernel
theorem dX11_spread_34 : decode cX11_spread 34 = .ok (.iconst 0, 1) := by decide +kernel
theorem dX11_spread_35 : decode cX11_spread 35 = .ok (.istore 7, 2) := by decide +kernel
theorem dX11_spread_37 : decode cX11_spread 37 = .ok (.iconst 0, 1) := by decide +kernel
theorem dX11_spread_38 : decode cX11_spread 38 = .ok (.istore 8, 2) := by decide +kernel
theorem dX11_spread_40 : decode cX11_spread 40 = .ok (.iload 8, 2) := by decide +kernel
theorem dX11_spread_42 : decode cX11_spread 42 = .ok (.aload_n 0, 1) := by decide +kernel
theorem dX11_spread_43 : decode cX11_spread 43 = .ok (.getfield 10, 3) := by decide +kernel
theorem dX11_spread_46 : decode cX11_spread 46 = .ok (.getfield 211, 3) := by decide +kernel
theorem dX11_spread_49 : decode cX11_spread 49 = .ok (.if_icmp .ge 95, 3) := by decide +kernel
theorem dX11_spread_52 : decode cX11_spread 52 = .ok (.aload_n 0, 1) := by decide +kernel
theorem dX11_spread_53 : decode cX11_spread 53 = .ok (.getfield 10, 3) := by decide +kernel
theorem dX11_spread_56 : decode cX11_spread 56 = .ok (.getfield 231, 3) := by decide +kernel
theorem dX11_spread_59 : decode cX11_spread 59 = .ok (.iload 8, 2) := by decide +kernel
theorem dX11_spread_61 : decode cX11_spread 61 = .ok (.aaload, 1) := by decide +kernel
theorem dX11_spread_62 : decode cX11_spread 62 = .ok (.astore 9, 2) := by decide +kernel
theorem dX11_spread_64 : decode cX11_spread 64 = .ok (.aload 9, 2) := by decide +kernel
theorem dX11_spread_66 : decode cX11_spread 66 = .ok (.invokevirtual 291, 3) := by decide +kernel
theorem dX11_spread_69 : decode cX11_spread 69 = .ok (.ifCond .eq 69, 3) := by decide +kernel
theorem dX11_spread_72 : decode cX11_spread 72 = .ok (.aload_n 0, 1) := by decide +kernel
theorem dX11_spread_73 : decode cX11_spread 73 = .ok (.getfield 10, 3) := by decide +kernel
theorem dX11_spread_76 : decode cX11_spread 76 = .ok (.iload 8, 2) := by decide +kernel
theorem dX11_spread_78 : decode cX11_spread 78 = .ok (.iload_n 2, 1) := by decide +kernel
theorem dX11_spread_79 : decode cX11_spread 79 = .ok (.invokevirtual 221, 3) := by decide +kernel
theorem dX11_spread_82 : decode cX11_spread 82 = .ok (.ifCond .ne 6, 3) := by decide +kernel
theorem dX11_spread_85 : decode cX11_spread 85 = .ok (.goto 53, 3) := by decide +kernel
theorem dX11_spread_88 : decode cX11_spread 88 = .ok (.aload_n 0, 1) := by decide +kernel
theorem dX11_spread_89 : decode cX11_spread 89 = .ok (.getfield 68, 3) := by decide +kernel
theorem dX11_spread_92 : decode cX11_spread 92 = .ok (.iload 4, 2) := by decide +kernel
theorem dX11_spread_94 : decode cX11_spread 94 = .ok (.aload 9, 2) := by decide +kernel
theorem dX11_spread_96 : decode cX11_spread 96 = .ok (.getfield 290, 3) := by decide +kernel
theorem dX11_spread_99 : decode cX11_spread 99 = .ok (.iastore, 1) := by decide +kernel
theorem dX11_spread_100 : decode cX11_spread 100 = .ok (.iinc 4 1, 3) := by decide +kernel
theorem dX11_spread_103 : decode cX11_spread 103 = .ok (.iload 6, 2) := by decide +kernel
theorem dX11_spread_105 : decode cX11_spread 105 = .ok (.aload 9, 2) := by decide +kernel
theorem dX11_spread_107 : decode cX11_spread 107 = .ok (.getfield 290, 3) := by decide +kernel
theorem dX11_spread_110 : decode cX11_spread 110 = .ok (.iadd, 1) := by decide +kernel
theorem dX11_spread_111 : decode cX11_spread 111 = .ok (.istore 6, 2) := by decide +kernel
theorem dX11_spread_113 : decode cX11_spread 113 = .ok (.aload 9, 2) := by decide +kernel
theorem dX11_spread_115 : decode cX11_spread 115 = .ok (.getfield 294, 3) := by decide +kernel
theorem dX11_spread_118 : decode cX11_spread 118 = .ok (.iload_n 1, 1) := by decide +kernel
theorem dX11_spread_119 : decode cX11_spread 119 = .ok (.if_icmp .eq 6, 3) := by decide +kernel
theorem dX11_spread_122 : decode cX11_spread 122 = .ok (.goto 16, 3) := by decide +kernel
theorem dX11_spread_125 : decode cX11_spread 125 = .ok (.iinc 5 1, 3) := by decide +kernel
theorem dX11_spread_128 : decode cX11_spread 128 = .ok (.iload 7, 2) := by decide +kernel
theorem dX11_spread_130 : decode cX11_spread 130 = .ok (.aload 9, 2) := by decide +kernel
theorem dX11_spread_132 : decode cX11_spread 132 = .ok (.getfield 290, 3) := by decide +kernel
theorem dX11_spread_135 : decode cX11_spread 135 = .ok (.iadd, 1) := by decide +kernel
theorem dX11_spread_136 : decode cX11_spread 136 = .ok (.istore 7, 2) := by decide +kernel
theorem dX11_spread_138 : decode cX11_spread 138 = .ok (.iinc 8 1, 3) := by decide +kernel
theorem dX11_spread_141 : decode cX11_spread 141 = .ok (.goto (-101), 3) := by decide +kernel
theorem dX11_spread_144 : decode cX11_spread 144 = .ok (.iload_n 3, 1) := by decide +kernel
theorem dX11_spread_145 : decode cX11_spread 145 = .ok (.ifCond .ne 6, 3) := by decide +kernel
theorem dX11_spread_148 : decode cX11_spread 148 = .ok (.iload 5, 2) := by decide +kernel
theorem dX11_spread_150 : decode cX11_spread 150 = .ok (.ireturn, 1) := by decide +kernel
theorem dX11_spread_151 : decode cX11_spread 151 = .ok (.iload_n 3, 1) := by decide +kernel
theorem dX11_spread_152 : decode cX11_spread 152 = .ok (.iconst 1, 1) := by decide +kernel
theorem dX11_spread_153 : decode cX11_spread 153 = .ok (.if_icmp .ne 6, 3) := by decide +kernel
theorem dX11_spread_156 : decode cX11_spread 156 = .ok (.iload 4, 2) := by decide +kernel
theorem dX11_spread_158 : decode cX11_spread 158 = .ok (.ireturn, 1) := by decide +kernel
theorem dX11_spread_159 : decode cX11_spread 159 = .ok (.iload 5, 2) := by decide +kernel
theorem dX11_spread_161 : decode cX11_spread 161 = .ok (.iconst 2, 1) := by decide +kernel
theorem dX11_spread_162 : decode cX11_spread 162 = .ok (.if_icmp .lt 12, 3) := by decide +kernel
theorem dX11_spread_165 : decode cX11_spread 165 = .ok (.iload 4, 2) := by decide +kernel
theorem dX11_spread_167 : decode cX11_spread 167 = .ok (.iload 5, 2) := by decide +kernel
theorem dX11_spread_169 : decode cX11_spread 169 = .ok (.isub, 1) := by decide +kernel
theorem dX11_spread_170 : decode cX11_spread 170 = .ok (.iconst 2, 1) := by decide +kernel
theorem dX11_spread_171 : decode cX11_spread 171 = .ok (.if_icmp .ge 6, 3) := by decide +kernel
theorem dX11_spread_174 : decode cX11_spread 174 = .ok (.bipush (-4), 2) := by decide +kernel
theorem dX11_spread_176 : decode cX11_spread 176 = .ok (.ireturn, 1) := by decide +kernel
theorem dX11_spread_177 : decode cX11_spread 177 = .ok (.iload_n 3, 1) := by decide +kernel
theorem dX11_spread_178 : decode cX11_spread 178 = .ok (.iconst 2, 1) := by decide +kernel
theorem dX11_spread_179 : decode cX11_spread 179 = .ok (.if_icmp .ne 25, 3) := by decide +kernel
theorem dX11_spread_182 : decode cX11_spread 182 = .ok (.ldc_w 297, 3) := by decide +kernel
theorem dX11_spread_185 : decode cX11_spread 185 = .ok (.iload 7, 2) := by decide +kernel
theorem dX11_spread_187 : decode cX11_spread 187 = .ok (.iload 4, 2) := by decide +kernel
theorem dX11_spread_189 : decode cX11_spread 189 = .ok (.iload 5, 2) := by decide +kernel
theorem dX11_spread_191 : decode cX11_spread 191 = .ok (.isub, 1) := by decide +kernel
theorem dX11_spread_192 : decode cX11_spread 192 = .ok (.imul, 1) := by decide +kernel
theorem dX11_spread_193 : decode cX11_spread 193 = .ok (.iadd, 1) := by decide +kernel
theorem dX11_spread_194 : decode cX11_spread 194 = .ok (.iload 6, 2) := by decide +kernel
theorem dX11_spread_196 : decode cX11_spread 196 = .ok (.iload 7, 2) := by decide +kernel
theorem dX11_spread_198 : decode cX11_spread 198 = .ok (.isub, 1) := by decide +kernel
theorem dX11_spread_199 : decode cX11_spread 199 = .ok (.iload 5, 2) := by decide +kernel
theorem dX11_spread_201 : decode cX11_spread 201 = .ok (.imul, 1) := by decide +kernel
theorem dX11_spread_202 : decode cX11_spread 202 = .ok (.isub, 1) := by decide +kernel
theorem dX11_spread_203 : decode cX11_spread 203 = .ok (.ireturn, 1) := by decide +kernel
theorem dX11_spread_204 : decode cX11_spread 204 = .ok (.iload_n 3, 1) := by decide +kernel
theorem dX11_spread_205 : decode cX11_spread 205 = .ok (.iconst 3, 1) := by decide +kernel
theorem dX11_spread_206 : decode cX11_spread 206 = .ok (.if_icmp .ne 16, 3) := by decide +kernel
theorem dX11_spread_209 : decode cX11_spread 209 = .ok (.aload_n 0, 1) := by decide +kernel
theorem dX11_spread_210 : decode cX11_spread 210 = .ok (.iload 4, 2) := by decide +kernel
theorem dX11_spread_212 : decode cX11_spread 212 = .ok (.iload 5, 2) := by decide +kernel
theorem dX11_spread_214 : decode cX11_spread 214 = .ok (.iload 7, 2) := by decide +kernel
theorem dX11_spread_216 : decode cX11_spread 216 = .ok (.invokevirtual 298, 3) := by decide +kernel
theorem dX11_spread_219 : decode cX11_spread 219 = .ok (.goto 10, 3) := by decide +kernel
theorem dX11_spread_222 : decode cX11_spread 222 = .ok (.iload 4, 2) := by decide +kernel
theorem dX11_spread_224 : decode cX11_spread 224 = .ok (.iload 5, 2) := by decide +kernel
theorem dX11_spread_226 : decode cX11_spread 226 = .ok (.invokestatic 301, 3) := by decide +kernel
theorem dX11_spread_229 : decode cX11_spread 229 = .ok (.ireturn, 1) := by decide +kernel
theorem dX11_isCourt_0 : decode cX11_isCourt 0 = .ok (.iload_n 0, 1) := by decide +kernel
theorem dX11_isCourt_1 : decode cX11_isCourt 1 = .ok (.ifCond .lt 12, 3) := by decide +kernel
theorem dX11_isCourt_4 : decode cX11_isCourt 4 = .ok (.iload_n 0, 1) := by decide +kernel
theorem dX11_isCourt_5 : decode cX11_isCourt 5 = .ok (.iconst 5, 1) := by decide +kernel
theorem dX11_isCourt_6 : decode cX11_isCourt 6 = .ok (.if_icmp .ge 7, 3) := by decide +kernel
theorem dX11_isCourt_9 : decode cX11_isCourt 9 = .ok (.iconst 1, 1) := by decide +kernel
theorem dX11_isCourt_10 : decode cX11_isCourt 10 = .ok (.goto 4, 3) := by decide +kernel
theorem dX11_isCourt_13 : decode cX11_isCourt 13 = .ok (.iconst 0, 1) := by decide +kernel
theorem dX11_isCourt_14 : decode cX11_isCourt 14 = .ok (.ireturn, 1) := by decide +kernel
theorem dX11_ways_0 : decode cX11_ways 0 = .ok (.iconst 1, 1) := by decide +kernel
theorem dX11_ways_1 : decode cX11_ways 1 = .ok (.istore_n 2, 1) := by decide +kernel
theorem dX11_ways_2 : decode cX11_ways 2 = .ok (.iconst 1, 1) := by decide +kernel
theorem dX11_ways_3 : decode cX11_ways 3 = .ok (.istore_n 3, 1) := by decide +kernel
theorem dX11_ways_4 : decode cX11_ways 4 = .ok (.iload_n 3, 1) := by decide +kernel
theorem dX11_ways_5 : decode cX11_ways 5 = .ok (.iload_n 1, 1) := by decide +kernel
theorem dX11_ways_6 : decode cX11_ways 6 = .ok (.if_icmp .gt 19, 3) := by decide +kernel
theorem dX11_ways_9 : decode cX11_ways 9 = .ok (.iload_n 2, 1) := by decide +kernel
theorem dX11_ways_10 : decode cX11_ways 10 = .ok (.iload_n 0, 1) := by decide +kernel
theorem dX11_ways_11 : decode cX11_ways 11 = .ok (.iload_n 1, 1) := by decide +kernel
theorem dX11_ways_12 : decode cX11_ways 12 = .ok (.isub, 1) := by decide +kernel
theorem dX11_ways_13 : decode cX11_ways 13 = .ok (.iload_n 3, 1) := by decide +kernel
theorem dX11_ways_14 : decode cX11_ways 14 = .ok (.iadd, 1) := by decide +kernel
theorem dX11_ways_15 : decode cX11_ways 15 = .ok (.imul, 1) := by decide +kernel
theorem dX11_ways_16 : decode cX11_ways 16 = .ok (.iload_n 3, 1) := by decide +kernel
theorem dX11_ways_17 : decode cX11_ways 17 = .ok (.idiv, 1) := by decide +kernel
theorem dX11_ways_18 : decode cX11_ways 18 = .ok (.istore_n 2, 1) := by decide +kernel
theorem dX11_ways_19 : decode cX11_ways 19 = .ok (.iinc 3 1, 3) := by decide +kernel
theorem dX11_ways_22 : decode cX11_ways 22 = .ok (.goto (-18), 3) := by decide +kernel
theorem dX11_ways_25 : decode cX11_ways 25 = .ok (.iload_n 2, 1) := by decide +kernel
theorem dX11_ways_26 : decode cX11_ways 26 = .ok (.ireturn, 1) := by decide +kernel
theorem dX11_waysAtLeast_0 : decode cX11_waysAtLeast 0 = .ok (.aload_n 0, 1) := by decide +kernel
theorem dX11_waysAtLeast_1 : decode cX11_waysAtLeast 1 = .ok (.iload_n 1, 1) := by decide +kernel
theorem dX11_waysAtLeast_2 : decode cX11_waysAtLeast 2 = .ok (.invokevirtual 304, 3) := by decide +kernel
theorem dX11_waysAtLeast_5 : decode cX11_waysAtLeast 5 = .ok (.iconst 0, 1) := by decide +kernel
theorem dX11_waysAtLeast_6 : decode cX11_waysAtLeast 6 = .ok (.istore 4, 2) := by decide +kernel
theorem dX11_waysAtLeast_8 : decode cX11_waysAtLeast 8 = .ok (.iload_n 1, 1) := by decide +kernel
theorem dX11_waysAtLeast_9 : decode cX11_waysAtLeast 9 = .ok (.iload_n 2, 1) := by decide +kernel
theorem dX11_waysAtLeast_10 : decode cX11_waysAtLeast 10 = .ok (.invokestatic 301, 3) := by decide +kernel
theorem dX11_waysAtLeast_13 : decode cX11_waysAtLeast 13 = .ok (.istore 5, 2) := by decide +kernel
theorem dX11_waysAtLeast_15 : decode cX11_waysAtLeast 15 = .ok (.iconst 1, 1) := by decide +kernel
theorem dX11_waysAtLeast_16 : decode cX11_waysAtLeast 16 = .ok (.iload_n 2, 1) := by decide +kernel
theorem dX11_waysAtLeast_17 : decode cX11_waysAtLeast 17 = .ok (.ishl, 1) := by decide +kernel
theorem dX11_waysAtLeast_18 : decode cX11_waysAtLeast 18 = .ok (.iconst 1, 1) := by decide +kernel
theorem dX11_waysAtLeast_19 : decode cX11_waysAtLeast 19 = .ok (.isub, 1) := by decide +kernel
theorem dX11_waysAtLeast_20 : decode cX11_waysAtLeast 20 = .ok (.istore 6, 2) := by decide +kernel
theorem dX11_waysAtLeast_22 : decode cX11_waysAtLeast 22 = .ok (.iconst 0, 1) := by decide +kernel
theorem dX11_waysAtLeast_23 : decode cX11_waysAtLeast 23 = .ok (.istore 7, 2) := by decide +kernel
theorem dX11_waysAtLeast_25 : decode cX11_waysAtLeast 25 = .ok (.iload 7, 2) := by decide +kernel
theorem dX11_waysAtLeast_27 : decode cX11_waysAtLeast 27 = .ok (.iload 5, 2) := by decide +kernel
theorem dX11_waysAtLeast_29 : decode cX11_waysAtLeast 29 = .ok (.if_icmp .ge 61, 3) := by decide +kernel
theorem dX11_waysAtLeast_32 : decode cX11_waysAtLeast 32 = .ok (.iload 6, 2) := by decide +kernel
theorem dX11_waysAtLeast_34 : decode cX11_waysAtLeast 34 = .ok (.sipush 255, 3) := by decide +kernel
theorem dX11_waysAtLeast_37 : decode cX11_waysAtLeast 37 = .ok (.iand, 1) := by decide +kernel
theorem dX11_waysAtLeast_38 : decode cX11_waysAtLeast 38 = .ok (.istore 8, 2) := by decide +kernel
theorem dX11_waysAtLeast_40 : decode cX11_waysAtLeast 40 = .ok (.iload 6, 2) := by decide +kernel
theorem dX11_waysAtLeast_42 : decode cX11_waysAtLeast 42 = .ok (.bipush 8, 2) := by decide +kernel
theorem dX11_waysAtLeast_44 : decode cX11_waysAtLeast 44 = .ok (.ishr, 1) := by decide +kernel
theorem dX11_waysAtLeast_45 : decode cX11_waysAtLeast 45 = .ok (.sipush 255, 3) := by decide +kernel
theorem dX11_waysAtLeast_48 : decode cX11_waysAtLeast 48 = .ok (.iand, 1) := by decide +kernel
theorem dX11_waysAtLeast_49 : decode cX11_waysAtLeast 49 = .ok (.istore 9, 2) := by decide +kernel
theorem dX11_waysAtLeast_51 : decode cX11_waysAtLeast 51 = .ok (.aload_n 0, 1) := by decide +kernel
theorem dX11_waysAtLeast_52 : decode cX11_waysAtLeast 52 = .ok (.getfield 71, 3) := by decide +kernel
theorem dX11_waysAtLeast_55 : decode cX11_waysAtLeast 55 = .ok (.iload 8, 2) := by decide +kernel
theorem dX11_waysAtLeast_57 : decode cX11_waysAtLeast 57 = .ok (.iaload, 1) := by decide +kernel
theorem dX11_waysAtLeast_58 : decode cX11_waysAtLeast 58 = .ok (.aload_n 0, 1) := by decide +kernel
theorem dX11_waysAtLeast_59 : decode cX11_waysAtLeast 59 = .ok (.getfield 71, 3) := by decide +kernel
theorem dX11_waysAtLeast_62 : decode cX11_waysAtLeast 62 = .ok (.sipush 256, 3) := by decide +kernel
theorem dX11_waysAtLeast_65 : decode cX11_waysAtLeast 65 = .ok (.iload 9, 2) := by decide +kernel
theorem dX11_waysAtLeast_67 : decode cX11_waysAtLeast 67 = .ok (.iadd, 1) := by decide +kernel
theorem dX11_waysAtLeast_68 : decode cX11_waysAtLeast 68 = .ok (.iaload, 1) := by decide +kernel
theorem dX11_waysAtLeast_69 : decode cX11_waysAtLeast 69 = .ok (.iadd, 1) := by decide +kernel
theorem dX11_waysAtLeast_70 : decode cX11_waysAtLeast 70 = .ok (.iload_n 3, 1) := by decide +kernel
theorem dX11_waysAtLeast_71 : decode cX11_waysAtLeast 71 = .ok (.if_icmp .lt 6, 3) := by decide +kernel
theorem dX11_waysAtLeast_74 : decode cX11_waysAtLeast 74 = .ok (.iinc 4 1, 3) := by decide +kernel
theorem dX11_waysAtLeast_77 : decode cX11_waysAtLeast 77 = .ok (.iload 6, 2) := by decide +kernel
theorem dX11_waysAtLeast_79 : decode cX11_waysAtLeast 79 = .ok (.invokestatic 308, 3) := by decide +kernel
theorem dX11_waysAtLeast_82 : decode cX11_waysAtLeast 82 = .ok (.istore 6, 2) := by decide +kernel
theorem dX11_waysAtLeast_84 : decode cX11_waysAtLeast 84 = .ok (.iinc 7 1, 3) := by decide +kernel
theorem dX11_waysAtLeast_87 : decode cX11_waysAtLeast 87 = .ok (.goto (-62), 3) := by decide +kernel
theorem dX11_waysAtLeast_90 : decode cX11_waysAtLeast 90 = .ok (.iload 4, 2) := by decide +kernel
theorem dX11_waysAtLeast_92 : decode cX11_waysAtLeast 92 = .ok (.ireturn, 1) := by decide +kernel
theorem dX11_nextSet_0 : decode cX11_nextSet 0 = .ok (.iload_n 0, 1) := by decide +kernel
theorem dX11_nextSet_1 : decode cX11_nextSet 1 = .ok (.iload_n 0, 1) := by decide +kernel
theorem dX11_nextSet_2 : decode cX11_nextSet 2 = .ok (.iload_n 0, 1) := by decide +kernel
theorem dX11_nextSet_3 : decode cX11_nextSet 3 = .ok (.ineg, 1) := by decide +kernel
theorem dX11_nextSet_4 : decode cX11_nextSet 4 = .ok (.iand, 1) := by decide +kernel
theorem dX11_nextSet_5 : decode cX11_nextSet 5 = .ok (.iadd, 1) := by decide +kernel
theorem dX11_nextSet_6 : decode cX11_nextSet 6 = .ok (.istore_n 1, 1) := by decide +kernel
theorem dX11_nextSet_7 : decode cX11_nextSet 7 = .ok (.iload_n 1, 1) := by decide +kernel
theorem dX11_nextSet_8 : decode cX11_nextSet 8 = .ok (.iload_n 0, 1) := by decide +kernel
theorem dX11_nextSet_9 : decode cX11_nextSet 9 = .ok (.iload_n 1, 1) := by decide +kernel
theorem dX11_nextSet_10 : decode cX11_nextSet 10 = .ok (.ixor, 1) := by decide +kernel
theorem dX11_nextSet_11 : decode cX11_nextSet 11 = .ok (.iconst 2, 1) := by decide +kernel
theorem dX11_nextSet_12 : decode cX11_nextSet 12 = .ok (.iload_n 0, 1) := by decide +kernel
theorem dX11_nextSet_13 : decode cX11_nextSet 13 = .ok (.invokestatic 311, 3) := by decide +kernel
theorem dX11_nextSet_16 : decode cX11_nextSet 16 = .ok (.iadd, 1) := by decide +kernel
theorem dX11_nextSet_17 : decode cX11_nextSet 17 = .ok (.iushr, 1) := by decide +kernel
theorem dX11_nextSet_18 : decode cX11_nextSet 18 = .ok (.ior, 1) := by decide +kernel
theorem dX11_nextSet_19 : decode cX11_nextSet 19 = .ok (.ireturn, 1) := by decide +kernel
theorem dX11_fillHalfSums_0 : decode cX11_fillHalfSums 0 = .ok (.iconst 1, 1) := by decide +kernel
theorem dX11_fillHalfSums_1 : decode cX11_fillHalfSums 1 = .ok (.istore_n 2, 1) := by decide +kernel
theorem dX11_fillHalfSums_2 : decode cX11_fillHalfSums 2 = .ok (.iload_n 2, 1) := by decide +kernel
theorem dX11_fillHalfSums_3 : decode cX11_fillHalfSums 3 = .ok (.sipush 256, 3) := by decide +kernel
theorem dX11_fillHalfSums_6 : decode cX11_fillHalfSums 6 = .ok (.if_icmp .ge 93, 3) := by decide +kernel
theorem dX11_fillHalfSums_9 : decode cX11_fillHalfSums 9 = .ok (.iload_n 2, 1) := by decide +kernel
theorem dX11_fillHalfSums_10 : decode cX11_fillHalfSums 10 = .ok (.invokestatic 311, 3) := by decide +kernel
theorem dX11_fillHalfSums_13 : decode cX11_fillHalfSums 13 = .ok (.istore_n 3, 1) := by decide +kernel
theorem dX11_fillHalfSums_14 : decode cX11_fillHalfSums 14 = .ok (.iload_n 2, 1) := by decide +kernel
theorem dX11_fillHalfSums_15 : decode cX11_fillHalfSums 15 = .ok (.iload_n 2, 1) := by decide +kernel
theorem dX11_fillHalfSums_16 : decode cX11_fillHalfSums 16 = .ok (.iconst 1, 1) := by decide +kernel
theorem dX11_fillHalfSums_17 : decode cX11_fillHalfSums 17 = .ok (.isub, 1) := by decide +kernel
theorem dX11_fillHalfSums_18 : decode cX11_fillHalfSums 18 = .ok (.iand, 1) := by decide +kernel
theorem dX11_fillHalfSums_19 : decode cX11_fillHalfSums 19 = .ok (.istore 4, 2) := by decide +kernel
theorem dX11_fillHalfSums_21 : decode cX11_fillHalfSums 21 = .ok (.aload_n 0, 1) := by decide +kernel
theorem dX11_fillHalfSums_22 : decode cX11_fillHalfSums 22 = .ok (.getfield 71, 3) := by decide +kernel
theorem dX11_fillHalfSums_25 : decode cX11_fillHalfSums 25 = .ok (.iload_n 2, 1) := by decide +kernel
theorem dX11_fillHalfSums_26 : decode cX11_fillHalfSums 26 = .ok (.aload_n 0, 1) := by decide +kernel
theorem dX11_fillHalfSums_27 : decode cX11_fillHalfSums 27 = .ok (.getfield 71, 3) := by decide +kernel
theorem dX11_fillHalfSums_30 : decode cX11_fillHalfSums 30 = .ok (.iload 4, 2) := by decide +kernel
theorem dX11_fillHalfSums_32 : decode cX11_fillHalfSums 32 = .ok (.iaload, 1) := by decide +kernel
theorem dX11_fillHalfSums_33 : decode cX11_fillHalfSums 33 = .ok (.iload_n 3, 1) := by decide +kernel
theorem dX11_fillHalfSums_34 : decode cX11_fillHalfSums 34 = .ok (.iload_n 1, 1) := by decide +kernel
theorem dX11_fillHalfSums_35 : decode cX11_fillHalfSums 35 = .ok (.if_icmp .ge 12, 3) := by decide +kernel
theorem dX11_fillHalfSums_38 : decode cX11_fillHalfSums 38 = .ok (.aload_n 0, 1) := by decide +kernel
theorem dX11_fillHalfSums_39 : decode cX11_fillHalfSums 39 = .ok (.getfield 68, 3) := by decide +kernel
theorem dX11_fillHalfSums_42 : decode cX11_fillHalfSums 42 = .ok (.iload_n 3, 1) := by decide +kernel
theorem dX11_fillHalfSums_43 : decode cX11_fillHalfSums 43 = .ok (.iaload, 1) := by decide +kernel
theorem dX11_fillHalfSums_44 : decode cX11_fillHalfSums 44 = .ok (.goto 4, 3) := by decide +kernel
theorem dX11_fillHalfSums_47 : decode cX11_fillHalfSums 47 = .ok (.iconst 0, 1) := by decide +kernel
theorem dX11_fillHalfSums_48 : decode cX11_fillHalfSums 48 = .ok (.iadd, 1) := by decide +kernel
theorem dX11_fillHalfSums_49 : decode cX11_fillHalfSums 49 = .ok (.iastore, 1) := by decide +kernel
theorem dX11_fillHalfSums_50 : decode cX11_fillHalfSums 50 = .ok (.aload_n 0, 1) := by decide +kernel
theorem dX11_fillHalfSums_51 : decode cX11_fillHalfSums 51 = .ok (.getfield 71, 3) := by decide +kernel
theorem dX11_fillHalfSums_54 : decode cX11_fillHalfSums 54 = .ok (.sipush 256, 3) := by decide +kernel
theorem dX11_fillHalfSums_57 : decode cX11_fillHalfSums 57 = .ok (.iload_n 2, 1) := by decide +kernel
theorem dX11_fillHalfSums_58 : decode cX11_fillHalfSums 58 = .ok (.iadd, 1) := by decide +kernel
theorem dX11_fillHalfSums_59 : decode cX11_fillHalfSums 59 = .ok (.aload_n 0, 1) := by decide +kernel
theorem dX11_fillHalfSums_60 : decode cX11_fillHalfSums 60 = .ok (.getfield 71, 3) := by decide +kernel
theorem dX11_fillHalfSums_63 : decode cX11_fillHalfSums 63 = .ok (.sipush 256, 3) := by decide +kernel
theorem dX11_fillHalfSums_66 : decode cX11_fillHalfSums 66 = .ok (.iload 4, 2) := by decide +kernel
theorem dX11_fillHalfSums_68 : decode cX11_fillHalfSums 68 = .ok (.iadd, 1) := by decide +kernel
theorem dX11_fillHalfSums_69 : decode cX11_fillHalfSums 69 = .ok (.iaload, 1) := by decide +kernel
theorem dX11_fillHalfSums_70 : decode cX11_fillHalfSums 70 = .ok (.bipush 8, 2) := by decide +kernel
theorem dX11_fillHalfSums_72 : decode cX11_fillHalfSums 72 = .ok (.iload_n 3, 1) := by decide +kernel
theorem dX11_fillHalfSums_73 : decode cX11_fillHalfSums 73 = .ok (.iadd, 1) := by decide +kernel
theorem dX11_fillHalfSums_74 : decode cX11_fillHalfSums 74 = .ok (.iload_n 1, 1) := by decide +kernel
theorem dX11_fillHalfSums_75 : decode cX11_fillHalfSums 75 = .ok (.if_icmp .ge 15, 3) := by decide +kernel
theorem dX11_fillHalfSums_78 : decode cX11_fillHalfSums 78 = .ok (.aload_n 0, 1) := by decide +kernel
theorem dX11_fillHalfSums_79 : decode cX11_fillHalfSums 79 = .ok (.getfield 68, 3) := by decide +kernel
theorem dX11_fillHalfSums_82 : decode cX11_fillHalfSums 82 = .ok (.bipush 8, 2) := by decide +kernel
theorem dX11_fillHalfSums_84 : decode cX11_fillHalfSums 84 = .ok (.iload_n 3, 1) := by decide +kernel
theorem dX11_fillHalfSums_85 : decode cX11_fillHalfSums 85 = .ok (.iadd, 1) := by decide +kernel
theorem dX11_fillHalfSums_86 : decode cX11_fillHalfSums 86 = .ok (.iaload, 1) := by decide +kernel
theorem dX11_fillHalfSums_87 : decode cX11_fillHalfSums 87 = .ok (.goto 4, 3) := by decide +kernel
theorem dX11_fillHalfSums_90 : decode cX11_fillHalfSums 90 = .ok (.iconst 0, 1) := by decide +kernel
theorem dX11_fillHalfSums_91 : decode cX11_fillHalfSums 91 = .ok (.iadd, 1) := by decide +kernel
theorem dX11_fillHalfSums_92 : decode cX11_fillHalfSums 92 = .ok (.iastore, 1) := by decide +kernel
theorem dX11_fillHalfSums_93 : decode cX11_fillHalfSums 93 = .ok (.iinc 2 1, 3) := by decide +kernel
theorem dX11_fillHalfSums_96 : decode cX11_fillHalfSums 96 = .ok (.goto (-94), 3) := by decide +kernel
theorem dX11_fillHalfSums_99 : decode cX11_fillHalfSums 99 = .ok (.return_, 1) := by decide +kernel
theorem dX11_another_0 : decode cX11_another 0 = .ok (.aload_n 0, 1) := by decide +kernel
theorem dX11_another_1 : decode cX11_another 1 = .ok (.getfield 10, 3) := by decide +kernel
theorem dX11_another_4 : decode cX11_another 4 = .ok (.iload_n 1, 1) := by decide +kernel
theorem dX11_another_5 : decode cX11_another 5 = .ok (.invokevirtual 170, 3) := by decide +kernel
theorem dX11_another_8 : decode cX11_another 8 = .ok (.ifCond .ne 5, 3) := by decide +kernel
theorem dX11_another_11 : decode cX11_another 11 = .ok (.iconst (-1), 1) := by decide +kernel
theorem dX11_another_12 : decode cX11_another 12 = .ok (.ireturn, 1) := by decide +kernel
theorem dX11_another_13 : decode cX11_another 13 = .ok (.iconst 0, 1) := by decide +kernel
theorem dX11_another_14 : decode cX11_another 14 = .ok (.istore_n 3, 1) := by decide +kernel
theorem dX11_another_15 : decode cX11_another 15 = .ok (.iconst 0, 1) := by decide +kernel
theorem dX11_another_16 : decode cX11_another 16 = .ok (.istore 4, 2) := by decide +kernel
theorem dX11_another_18 : decode cX11_another 18 = .ok (.iload 4, 2) := by decide +kernel
theorem dX11_another_20 : decode cX11_another 20 = .ok (.aload_n 0, 1) := by decide +kernel
theorem dX11_another_21 : decode cX11_another 21 = .ok (.getfield 10, 3) := by decide +kernel
theorem dX11_another_24 : decode cX11_another 24 = .ok (.getfield 211, 3) := by decide +kernel
theorem dX11_another_27 : decode cX11_another 27 = .ok (.if_icmp .ge 98, 3) := by decide +kernel
theorem dX11_another_30 : decode cX11_another 30 = .ok (.aload_n 0, 1) := by decide +kernel
theorem dX11_another_31 : decode cX11_another 31 = .ok (.getfield 10, 3) := by decide +kernel
theorem dX11_another_34 : decode cX11_another 34 = .ok (.iload 4, 2) := by decide +kernel
theorem dX11_another_36 : decode cX11_another 36 = .ok (.aload_n 0, 1) := by decide +kernel
theorem dX11_another_37 : decode cX11_another 37 = .ok (.getfield 10, 3) := by decide +kernel
theorem dX11_another_40 : decode cX11_another 40 = .ok (.getfield 80, 3) := by decide +kernel
theorem dX11_another_43 : decode cX11_another 43 = .ok (.invokevirtual 221, 3) := by decide +kernel
theorem dX11_another_46 : decode cX11_another 46 = .ok (.ifCond .ne 6, 3) := by decide +kernel
theorem dX11_another_49 : decode cX11_another 49 = .ok (.goto 70, 3) := by decide +kernel
theorem dX11_another_52 : decode cX11_another 52 = .ok (.aload_n 0, 1) := by decide +kernel
theorem dX11_another_53 : decode cX11_another 53 = .ok (.getfield 10, 3) := by decide +kernel
theorem dX11_another_56 : decode cX11_another 56 = .ok (.aload_n 0, 1) := by decide +kernel
theorem dX11_another_57 : decode cX11_another 57 = .ok (.getfield 10, 3) := by decide +kernel
theorem dX11_another_60 : decode cX11_another 60 = .ok (.getfield 173, 3) := by decide +kernel
theorem dX11_another_63 : decode cX11_another 63 = .ok (.iload_n 1, 1) := by decide +kernel
theorem dX11_another_64 : decode cX11_another 64 = .ok (.aaload, 1) := by decide +kernel
theorem dX11_another_65 : decode cX11_another 65 = .ok (.aload_n 0, 1) := by decide +kernel
theorem dX11_another_66 : decode cX11_another 66 = .ok (.getfield 10, 3) := by decide +kernel
theorem dX11_another_69 : decode cX11_another 69 = .ok (.getfield 231, 3) := by decide +kernel
theorem dX11_another_72 : decode cX11_another 72 = .ok (.iload 4, 2) := by decide +kernel
theorem dX11_another_74 : decode cX11_another 74 = .ok (.aaload, 1) := by decide +kernel
theorem dX11_another_75 : decode cX11_another 75 = .ok (.getfield 277, 3) := by decide +kernel
theorem dX11_another_78 : decode cX11_another 78 = .ok (.aload_n 0, 1) := by decide +kernel
theorem dX11_another_79 : decode cX11_another 79 = .ok (.getfield 10, 3) := by decide +kernel
theorem dX11_another_82 : decode cX11_another 82 = .ok (.getfield 80, 3) := by decide +kernel
theorem dX11_another_85 : decode cX11_another 85 = .ok (.invokevirtual 205, 3) := by decide +kernel
theorem dX11_another_88 : decode cX11_another 88 = .ok (.istore 5, 2) := by decide +kernel
theorem dX11_another_90 : decode cX11_another 90 = .ok (.iload 5, 2) := by decide +kernel
theorem dX11_another_92 : decode cX11_another 92 = .ok (.bipush (-3), 2) := by decide +kernel
theorem dX11_another_94 : decode cX11_another 94 = .ok (.if_icmp .eq 25, 3) := by decide +kernel
theorem dX11_another_97 : decode cX11_another 97 = .ok (.iload_n 3, 1) := by decide +kernel
theorem dX11_another_98 : decode cX11_another 98 = .ok (.iload_n 2, 1) := by decide +kernel
theorem dX11_another_99 : decode cX11_another 99 = .ok (.ifCond .eq 12, 3) := by decide +kernel
theorem dX11_another_102 : decode cX11_another 102 = .ok (.iload 5, 2) := by decide +kernel
theorem dX11_another_104 : decode cX11_another 104 = .ok (.sipush 1000, 3) := by decide +kernel
theorem dX11_another_107 : decode cX11_another 107 = .ok (.irem, 1) := by decide +kernel
theorem dX11_another_108 : decode cX11_another 108 = .ok (.goto 9, 3) := by decide +kernel
theorem dX11_another_111 : decode cX11_another 111 = .ok (.iload 5, 2) := by decide +kernel
theorem dX11_another_113 : decode cX11_another 113 = .ok (.sipush 1000, 3) := by decide +kernel
theorem dX11_another_116 : decode cX11_another 116 = .ok (.idiv, 1) := by decide +kernel
theorem dX11_another_117 : decode cX11_another 117 = .ok (.iadd, 1) := by decide +kernel
theorem dX11_another_118 : decode cX11_another 118 = .ok (.istore_n 3, 1) := by decide +kernel
theorem dX11_another_119 : decode cX11_another 119 = .ok (.iinc 4 1, 3) := by decide +kernel
theorem dX11_another_122 : decode cX11_another 122 = .ok (.goto (-104), 3) := by decide +kernel
theorem dX11_another_125 : decode cX11_another 125 = .ok (.iload_n 3, 1) := by decide +kernel
theorem dX11_another_126 : decode cX11_another 126 = .ok (.ireturn, 1) := by decide +kernel
theorem dX11_like_0 : decode cX11_like 0 = .ok (.aload_n 0, 1) := by decide +kernel
theorem dX11_like_1 : decode cX11_like 1 = .ok (.getfield 10, 3) := by decide +kernel
theorem dX11_like_4 : decode cX11_like 4 = .ok (.iload_n 1, 1) := by decide +kernel
theorem dX11_like_5 : decode cX11_like 5 = .ok (.invokevirtual 109, 3) := by decide +kernel
theorem dX11_like_8 : decode cX11_like 8 = .ok (.ifCond .eq 10, 3) := by decide +kernel
theorem dX11_like_11 : decode cX11_like 11 = .ok (.iload_n 2, 1) := by decide +kernel
theorem dX11_like_12 : decode cX11_like 12 = .ok (.invokestatic 95, 3) := by decide +kernel
theorem dX11_like_15 : decode cX11_like 15 = .ok (.ifCond .ne 5, 3) := by decide +kernel
theorem dX11_like_18 : decode cX11_like 18 = .ok (.iconst (-1), 1) := by decide +kernel
theorem dX11_like_19 : decode cX11_like 19 = .ok (.ireturn, 1) := by decide +kernel
theorem dX11_like_20 : decode cX11_like 20 = .ok (.bipush (-3), 2) := by decide +kernel
theorem dX11_like_22 : decode cX11_like 22 = .ok (.istore_n 3, 1) := by decide +kernel
theorem dX11_like_23 : decode cX11_like 23 = .ok (.iconst 0, 1) := by decide +kernel
theorem dX11_like_24 : decode cX11_like 24 = .ok (.istore 4, 2) := by decide +kernel
theorem dX11_like_26 : decode cX11_like 26 = .ok (.iconst 0, 1) := by decide +kernel
theorem dX11_like_27 : decode cX11_like 27 = .ok (.istore 5, 2) := by decide +kernel
theorem dX11_like_29 : decode cX11_like 29 = .ok (.iload 5, 2) := by decide +kernel
theorem dX11_like_31 : decode cX11_like 31 = .ok (.aload_n 0, 1) := by decide +kernel
theorem dX11_like_32 : decode cX11_like 32 = .ok (.getfield 10, 3) := by decide +kernel
theorem dX11_like_35 : decode cX11_like 35 = .ok (.getfield 102, 3) := by decide +kernel
theorem dX11_like_38 : decode cX11_like 38 = .ok (.if_icmp .ge 90, 3) := by decide +kernel
theorem dX11_like_41 : decode cX11_like 41 = .ok (.iload 5, 2) := by decide +kernel
theorem dX11_like_43 : decode cX11_like 43 = .ok (.iload_n 1, 1) := by decide +kernel
theorem dX11_like_44 : decode cX11_like 44 = .ok (.if_icmp .eq 78, 3) := by decide +kernel
theorem dX11_like_47 : decode cX11_like 47 = .ok (.aload_n 0, 1) := by decide +kernel
theorem dX11_like_48 : decode cX11_like 48 = .ok (.getfield 10, 3) := by decide +kernel
theorem dX11_like_51 : decode cX11_like 51 = .ok (.aload_n 0, 1) := by decide +kernel
theorem dX11_like_52 : decode cX11_like 52 = .ok (.getfield 10, 3) := by decide +kernel
theorem dX11_like_55 : decode cX11_like 55 = .ok (.getfield 122, 3) := by decide +kernel
theorem dX11_like_58 : decode cX11_like 58 = .ok (.iload 5, 2) := by decide +kernel
theorem dX11_like_60 : decode cX11_like 60 = .ok (.aaload, 1) := by decide +kernel
theorem dX11_like_61 : decode cX11_like 61 = .ok (.iload_n 2, 1) := by decide +kernel
theorem dX11_like_62 : decode cX11_like 62 = .ok (.invokevirtual 145, 3) := by decide +kernel
theorem dX11_like_65 : decode cX11_like 65 = .ok (.bipush (-3), 2) := by decide +kernel
theorem dX11_like_67 : decode cX11_like 67 = .ok (.if_icmp .ne 6, 3) := by decide +kernel
theorem dX11_like_70 : decode cX11_like 70 = .ok (.goto 52, 3) := by decide +kernel
theorem dX11_like_73 : decode cX11_like 73 = .ok (.aload_n 0, 1) := by decide +kernel
theorem dX11_like_74 : decode cX11_like 74 = .ok (.getfield 10, 3) := by decide +kernel
theorem dX11_like_77 : decode cX11_like 77 = .ok (.aload_n 0, 1) := by decide +kernel
theorem dX11_like_78 : decode cX11_like 78 = .ok (.getfield 10, 3) := by decide +kernel
theorem dX11_like_81 : decode cX11_like 81 = .ok (.getfield 122, 3) := by decide +kernel
theorem dX11_like_84 : decode cX11_like 84 = .ok (.iload_n 1, 1) := by decide +kernel
theorem dX11_like_85 : decode cX11_like 85 = .ok (.aaload, 1) := by decide +kernel
theorem dX11_like_86 : decode cX11_like 86 = .ok (.aload_n 0, 1) := by decide +kernel
theorem dX11_like_87 : decode cX11_like 87 = .ok (.getfield 10, 3) := by decide +kernel
theorem dX11_like_90 : decode cX11_like 90 = .ok (.getfield 122, 3) := by decide +kernel
theorem dX11_like_93 : decode cX11_like 93 = .ok (.iload 5, 2) := by decide +kernel
theorem dX11_like_95 : decode cX11_like 95 = .ok (.aaload, 1) := by decide +kernel
theorem dX11_like_96 : decode cX11_like 96 = .ok (.iload_n 2, 1) := by decide +kernel
theorem dX11_like_97 : decode cX11_like 97 = .ok (.invokevirtual 316, 3) := by decide +kernel
theorem dX11_like_100 : decode cX11_like 100 = .ok (.istore 6, 2) := by decide +kernel
theorem dX11_like_102 : decode cX11_like 102 = .ok (.iload_n 3, 1) := by decide +kernel
theorem dX11_like_103 : decode cX11_like 103 = .ok (.bipush (-3), 2) := by decide +kernel
theorem dX11_like_105 : decode cX11_like 105 = .ok (.if_icmp .eq 10, 3) := by decide +kernel
theorem dX11_like_108 : decode cX11_like 108 = .ok (.iload 6, 2) := by decide +kernel
theorem dX11_like_110 : decode cX11_like 110 = .ok (.iload 4, 2) := by decide +kernel
theorem dX11_like_112 : decode cX11_like 112 = .ok (.if_icmp .ge 10, 3) := by decide +kernel
theorem dX11_like_115 : decode cX11_like 115 = .ok (.iload 5, 2) := by decide +kernel
theorem dX11_like_117 : decode cX11_like 117 = .ok (.istore_n 3, 1) := by decide +kernel
theorem dX11_like_118 : decode cX11_like 118 = .ok (.iload 6, 2) := by decide +kernel
theorem dX11_like_120 : decode cX11_like 120 = .ok (.istore 4, 2) := by decide +kernel
theorem dX11_like_122 : decode cX11_like 122 = .ok (.iinc 5 1, 3) := by decide +kernel
theorem dX11_like_125 : decode cX11_like 125 = .ok (.goto (-96), 3) := by decide +kernel
theorem dX11_like_128 : decode cX11_like 128 = .ok (.iload_n 3, 1) := by decide +kernel
theorem dX11_like_129 : decode cX11_like 129 = .ok (.ireturn, 1) := by decide +kernel
theorem dX11_sheet_0 : decode cX11_sheet 0 = .ok (.iload_n 1, 1) := by decide +kernel
theorem dX11_sheet_1 : decode cX11_sheet 1 = .ok (.invokestatic 320, 3) := by decide +kernel
theorem dX11_sheet_4 : decode cX11_sheet 4 = .ok (.ifCond .ne 5, 3) := by decide +kernel
theorem dX11_sheet_7 : decode cX11_sheet 7 = .ok (.iconst (-1), 1) := by decide +kernel
theorem dX11_sheet_8 : decode cX11_sheet 8 = .ok (.ireturn, 1) := by decide +kernel
theorem dX11_sheet_9 : decode cX11_sheet 9 = .ok (.iload_n 2, 1) := by decide +kernel
theorem dX11_sheet_10 : decode cX11_sheet 10 = .ok (.iconst (-1), 1) := by decide +kernel
theorem dX11_sheet_11 : decode cX11_sheet 11 = .ok (.if_icmp .ne 12, 3) := by decide +kernel
theorem dX11_sheet_14 : decode cX11_sheet 14 = .ok (.aload_n 0, 1) := by decide +kernel
theorem dX11_sheet_15 : decode cX11_sheet 15 = .ok (.getfield 49, 3) := by decide +kernel
theorem dX11_sheet_18 : decode cX11_sheet 18 = .ok (.iload_n 1, 1) := by decide +kernel
theorem dX11_sheet_19 : decode cX11_sheet 19 = .ok (.iconst (-1), 1) := by decide +kernel
theorem dX11_sheet_20 : decode cX11_sheet 20 = .ok (.iastore, 1) := by decide +kernel
theorem dX11_sheet_21 : decode cX11_sheet 21 = .ok (.iconst 1, 1) := by decide +kernel
theorem dX11_sheet_22 : decode cX11_sheet 22 = .ok (.ireturn, 1) := by decide +kernel
theorem dX11_sheet_23 : decode cX11_sheet 23 = .ok (.iload_n 2, 1) := by decide +kernel
theorem dX11_sheet_24 : decode cX11_sheet 24 = .ok (.invokestatic 323, 3) := by decide +kernel
theorem dX11_sheet_27 : decode cX11_sheet 27 = .ok (.ifCond .eq 9, 3) := by decide +kernel
theorem dX11_sheet_30 : decode cX11_sheet 30 = .ok (.iload_n 3, 1) := by decide +kernel
theorem dX11_sheet_31 : decode cX11_sheet 31 = .ok (.bipush 40, 2) := by decide +kernel
theorem dX11_sheet_33 : decode cX11_sheet 33 = .ok (.if_icmp .le 5, 3) := by decide +kernel
theorem dX11_sheet_36 : decode cX11_sheet 36 = .ok (.iconst (-1), 1) := by decide +kernel
theorem dX11_sheet_37 : decode cX11_sheet 37 = .ok (.ireturn, 1) := by decide +kernel
theorem dX11_sheet_38 : decode cX11_sheet 38 = .ok (.iload_n 3, 1) := by decide +kernel
theorem dX11_sheet_39 : decode cX11_sheet 39 = .ok (.ifCond .ge 6, 3) := by decide +kernel
theorem dX11_sheet_42 : decode cX11_sheet 42 = .ok (.bipush (-14), 2) := by decide +kernel
theorem dX11_sheet_44 : decode cX11_sheet 44 = .ok (.ireturn, 1) := by decide +kernel
theorem dX11_sheet_45 : decode cX11_sheet 45 = .ok (.aload_n 0, 1) := by decide +kernel
theorem dX11_sheet_46 : decode cX11_sheet 46 = .ok (.getfield 49, 3) := by decide +kernel
theorem dX11_sheet_49 : decode cX11_sheet 49 = .ok (.iload_n 1, 1) := by decide +kernel
theorem dX11_sheet_50 : decode cX11_sheet 50 = .ok (.iload_n 2, 1) := by decide +kernel
theorem dX11_sheet_51 : decode cX11_sheet 51 = .ok (.iastore, 1) := by decide +kernel
theorem dX11_sheet_52 : decode cX11_sheet 52 = .ok (.aload_n 0, 1) := by decide +kernel
theorem dX11_sheet_53 : decode cX11_sheet 53 = .ok (.getfield 53, 3) := by decide +kernel
theorem dX11_sheet_56 : decode cX11_sheet 56 = .ok (.iload_n 1, 1) := by decide +kernel
theorem dX11_sheet_57 : decode cX11_sheet 57 = .ok (.iload_n 3, 1) := by decide +kernel
theorem dX11_sheet_58 : decode cX11_sheet 58 = .ok (.iastore, 1) := by decide +kernel
theorem dX11_sheet_59 : decode cX11_sheet 59 = .ok (.aload_n 0, 1) := by decide +kernel
theorem dX11_sheet_60 : decode cX11_sheet 60 = .ok (.getfield 46, 3) := by decide +kernel
theorem dX11_sheet_63 : decode cX11_sheet 63 = .ok (.iload_n 1, 1) := by decide +kernel
theorem dX11_sheet_64 : decode cX11_sheet 64 = .ok (.aaload, 1) := by decide +kernel
theorem dX11_sheet_65 : decode cX11_sheet 65 = .ok (.iconst 0, 1) := by decide +kernel
theorem dX11_sheet_66 : decode cX11_sheet 66 = .ok (.invokestatic 74, 3) := by decide +kernel
theorem dX11_sheet_69 : decode cX11_sheet 69 = .ok (.iconst 1, 1) := by decide +kernel
theorem dX11_sheet_70 : decode cX11_sheet 70 = .ok (.ireturn, 1) := by decide +kernel
theorem dX11_put_0 : decode cX11_put 0 = .ok (.iload_n 1, 1) := by decide +kernel
theorem dX11_put_1 : decode cX11_put 1 = .ok (.invokestatic 320, 3) := by decide +kernel
theorem dX11_put_4 : decode cX11_put 4 = .ok (.ifCond .ne 5, 3) := by decide +kernel
theorem dX11_put_7 : decode cX11_put 7 = .ok (.iconst (-1), 1) := by decide +kernel
theorem dX11_put_8 : decode cX11_put 8 = .ok (.ireturn, 1) := by decide +kernel
theorem dX11_put_9 : decode cX11_put 9 = .ok (.aload_n 0, 1) := by decide +kernel
theorem dX11_put_10 : decode cX11_put 10 = .ok (.getfield 49, 3) := by decide +kernel
theorem dX11_put_13 : decode cX11_put 13 = .ok (.iload_n 1, 1) := by decide +kernel
theorem dX11_put_14 : decode cX11_put 14 = .ok (.iaload, 1) := by decide +kernel
theorem dX11_put_15 : decode cX11_put 15 = .ok (.iconst (-1), 1) := by decide +kernel
theorem dX11_put_16 : decode cX11_put 16 = .ok (.if_icmp .ne 6, 3) := by decide +kernel
theorem dX11_put_19 : decode cX11_put 19 = .ok (.bipush (-11), 2) := by decide +kernel
theorem dX11_put_21 : decode cX11_put 21 = .ok (.ireturn, 1) := by decide +kernel
theorem dX11_put_22 : decode cX11_put 22 = .ok (.iload_n 2, 1) := by decide +kernel
theorem dX11_put_23 : decode cX11_put 23 = .ok (.ifCond .lt 13, 3) := by decide +kernel
theorem dX11_put_26 : decode cX11_put 26 = .ok (.iload_n 2, 1) := by decide +kernel
theorem dX11_put_27 : decode cX11_put 27 = .ok (.aload_n 0, 1) := by decide +kernel
theorem dX11_put_28 : decode cX11_put 28 = .ok (.getfield 53, 3) := by decide +kernel
theorem dX11_put_31 : decode cX11_put 31 = .ok (.iload_n 1, 1) := by decide +kernel
theorem dX11_put_32 : decode cX11_put 32 = .ok (.iaload, 1) := by decide +kernel
theorem dX11_put_33 : decode cX11_put 33 = .ok (.if_icmp .lt 6, 3) := by decide +kernel
theorem dX11_put_36 : decode cX11_put 36 = .ok (.bipush (-12), 2) := by decide +kernel
theorem dX11_put_38 : decode cX11_put 38 = .ok (.ireturn, 1) := by decide +kernel
theorem dX11_put_39 : decode cX11_put 39 = .ok (.aload_n 0, 1) := by decide +kernel
theorem dX11_put_40 : decode cX11_put 40 = .ok (.getfield 46, 3) := by decide +kernel
theorem dX11_put_43 : decode cX11_put 43 = .ok (.iload_n 1, 1) := by decide +kernel
theorem dX11_put_44 : decode cX11_put 44 = .ok (.aaload, 1) := by decide +kernel
theorem dX11_put_45 : decode cX11_put 45 = .ok (.iload_n 2, 1) := by decide +kernel
theorem dX11_put_46 : decode cX11_put 46 = .ok (.iload_n 3, 1) := by decide +kernel
theorem dX11_put_47 : decode cX11_put 47 = .ok (.aload_n 0, 1) := by decide +kernel
theorem dX11_put_48 : decode cX11_put 48 = .ok (.getfield 49, 3) := by decide +kernel
theorem dX11_put_51 : decode cX11_put 51 = .ok (.iload_n 1, 1) := by decide +kernel
theorem dX11_put_52 : decode cX11_put 52 = .ok (.iaload, 1) := by decide +kernel
theorem dX11_put_53 : decode cX11_put 53 = .ok (.invokestatic 326, 3) := by decide +kernel
theorem dX11_put_56 : decode cX11_put 56 = .ok (.iastore, 1) := by decide +kernel
theorem dX11_put_57 : decode cX11_put 57 = .ok (.iconst 1, 1) := by decide +kernel
theorem dX11_put_58 : decode cX11_put 58 = .ok (.ireturn, 1) := by decide +kernel
theorem dX11_item_0 : decode cX11_item 0 = .ok (.iload_n 1, 1) := by decide +kernel
theorem dX11_item_1 : decode cX11_item 1 = .ok (.invokestatic 320, 3) := by decide +kernel
theorem dX11_item_4 : decode cX11_item 4 = .ok (.ifCond .eq 10, 3) := by decide +kernel
theorem dX11_item_7 : decode cX11_item 7 = .ok (.iload_n 2, 1) := by decide +kernel
theorem dX11_item_8 : decode cX11_item 8 = .ok (.invokestatic 323, 3) := by decide +kernel
theorem dX11_item_11 : decode cX11_item 11 = .ok (.ifCond .ne 5, 3) := by decide +kernel
theorem dX11_item_14 : decode cX11_item 14 = .ok (.iconst (-1), 1) := by decide +kernel
theorem dX11_item_15 : decode cX11_item 15 = .ok (.ireturn, 1) := by decide +kernel
theorem dX11_item_16 : decode cX11_item 16 = .ok (.aload_n 0, 1) := by decide +kernel
theorem dX11_item_17 : decode cX11_item 17 = .ok (.iload_n 1, 1) := by decide +kernel
theorem dX11_item_18 : decode cX11_item 18 = .ok (.iload_n 2, 1) := by decide +kernel
theorem dX11_item_19 : decode cX11_item 19 = .ok (.invokevirtual 329, 3) := by decide +kernel
theorem dX11_item_22 : decode cX11_item 22 = .ok (.istore 4, 2) := by decide +kernel
theorem dX11_item_24 : decode cX11_item 24 = .ok (.iload 4, 2) := by decide +kernel
theorem dX11_item_26 : decode cX11_item 26 = .ok (.ifCond .eq 6, 3) := by decide +kernel
theorem dX11_item_29 : decode cX11_item 29 = .ok (.iload 4, 2) := by decide +kernel
theorem dX11_item_31 : decode cX11_item 31 = .ok (.ireturn, 1) := by decide +kernel
theorem dX11_item_32 : decode cX11_item 32 = .ok (.iload_n 3, 1) := by decide +kernel
theorem dX11_item_33 : decode cX11_item 33 = .ok (.ifCond .lt 13, 3) := by decide +kernel
theorem dX11_item_36 : decode cX11_item 36 = .ok (.iload_n 3, 1) := by decide +kernel
theorem dX11_item_37 : decode cX11_item 37 = .ok (.aload_n 0, 1) := by decide +kernel
theorem dX11_item_38 : decode cX11_item 38 = .ok (.getfield 53, 3) := by decide +kernel
theorem dX11_item_41 : decode cX11_item 41 = .ok (.iload_n 1, 1) := by decide +kernel
theorem dX11_item_42 : decode cX11_item 42 = .ok (.iaload, 1) := by decide +kernel
theorem dX11_item_43 : decode cX11_item 43 = .ok (.if_icmp .lt 6, 3) := by decide +kernel
theorem dX11_item_46 : decode cX11_item 46 = .ok (.bipush (-12), 2) := by decide +kernel
theorem dX11_item_48 : decode cX11_item 48 = .ok (.ireturn, 1) := by decide +kernel
theorem dX11_item_49 : decode cX11_item 49 = .ok (.aload_n 0, 1) := by decide +kernel
theorem dX11_item_50 : decode cX11_item 50 = .ok (.getfield 46, 3) := by decide +kernel
theorem dX11_item_53 : decode cX11_item 53 = .ok (.iload_n 1, 1) := by decide +kernel
theorem dX11_item_54 : decode cX11_item 54 = .ok (.aaload, 1) := by decide +kernel
theorem dX11_item_55 : decode cX11_item 55 = .ok (.iload_n 3, 1) := by decide +kernel
theorem dX11_item_56 : decode cX11_item 56 = .ok (.iaload, 1) := by decide +kernel
theorem dX11_item_57 : decode cX11_item 57 = .ok (.ireturn, 1) := by decide +kernel
theorem dX11_comes_0 : decode cX11_comes 0 = .ok (.aload_n 0, 1) := by decide +kernel
theorem dX11_comes_1 : decode cX11_comes 1 = .ok (.getfield 10, 3) := by decide +kernel
theorem dX11_comes_4 : decode cX11_comes 4 = .ok (.iload_n 1, 1) := by decide +kernel
theorem dX11_comes_5 : decode cX11_comes 5 = .ok (.invokevirtual 109, 3) := by decide +kernel
theorem dX11_comes_8 : decode cX11_comes 8 = .ok (.ifCond .eq 22, 3) := by decide +kernel
theorem dX11_comes_11 : decode cX11_comes 11 = .ok (.iload_n 2, 1) := by decide +kernel
theorem dX11_comes_12 : decode cX11_comes 12 = .ok (.invokestatic 320, 3) := by decide +kernel
theorem dX11_comes_15 : decode cX11_comes 15 = .ok (.ifCond .eq 15, 3) := by decide +kernel
theorem dX11_comes_18 : decode cX11_comes 18 = .ok (.iload 4, 2) := by decide +kernel
theorem dX11_comes_20 : decode cX11_comes 20 = .ok (.ifCond .lt 10, 3) := by decide +kernel
theorem dX11_comes_23 : decode cX11_comes 23 = .ok (.iload 4, 2) := by decide +kernel
theorem dX11_comes_25 : decode cX11_comes 25 = .ok (.bipush 9, 2) := by decide +kernel
theorem dX11_comes_27 : decode cX11_comes 27 = .ok (.if_icmp .le 5, 3) := by decide +kernel
theorem dX11_comes_30 : decode cX11_comes 30 = .ok (.iconst (-1), 1) := by decide +kernel
theorem dX11_comes_31 : decode cX11_comes 31 = .ok (.ireturn, 1) := by decide +kernel
theorem dX11_comes_32 : decode cX11_comes 32 = .ok (.aload_n 0, 1) := by decide +kernel
theorem dX11_comes_33 : decode cX11_comes 33 = .ok (.iload_n 2, 1) := by decide +kernel
theorem dX11_comes_34 : decode cX11_comes 34 = .ok (.iconst 1, 1) := by decide +kernel
theorem dX11_comes_35 : decode cX11_comes 35 = .ok (.invokevirtual 329, 3) := by decide +kernel
theorem dX11_comes_38 : decode cX11_comes 38 = .ok (.istore 5, 2) := by decide +kernel
theorem dX11_comes_40 : decode cX11_comes 40 = .ok (.iload 5, 2) := by decide +kernel
theorem dX11_comes_42 : decode cX11_comes 42 = .ok (.ifCond .eq 6, 3) := by decide +kernel
theorem dX11_comes_45 : decode cX11_comes 45 = .ok (.iload 5, 2) := by decide +kernel
theorem dX11_comes_47 : decode cX11_comes 47 = .ok (.ireturn, 1) := by decide +kernel
theorem dX11_comes_48 : decode cX11_comes 48 = .ok (.iconst 0, 1) := by decide +kernel
theorem dX11_comes_49 : decode cX11_comes 49 = .ok (.istore 6, 2) := by decide +kernel
theorem dX11_comes_51 : decode cX11_comes 51 = .ok (.iconst 0, 1) := by decide +kernel
theorem dX11_comes_52 : decode cX11_comes 52 = .ok (.istore 7, 2) := by decide +kernel
theorem dX11_comes_54 : decode cX11_comes 54 = .ok (.iload 7, 2) := by decide +kernel
theorem dX11_comes_56 : decode cX11_comes 56 = .ok (.iload 4, 2) := by decide +kernel
theorem dX11_comes_58 : decode cX11_comes 58 = .ok (.if_icmp .ge 86, 3) := by decide +kernel
theorem dX11_comes_61 : decode cX11_comes 61 = .ok (.iload_n 3, 1) := by decide +kernel
theorem dX11_comes_62 : decode cX11_comes 62 = .ok (.iload 7, 2) := by decide +kernel
theorem dX11_comes_64 : decode cX11_comes 64 = .ok (.iadd, 1) := by decide +kernel
theorem dX11_comes_65 : decode cX11_comes 65 = .ok (.istore 8, 2) := by decide +kernel
theorem dX11_comes_67 : decode cX11_comes 67 = .ok (.iload 8, 2) := by decide +kernel
theorem dX11_comes_69 : decode cX11_comes 69 = .ok (.ifCond .lt 14, 3) := by decide +kernel
theorem dX11_comes_72 : decode cX11_comes 72 = .ok (.iload 8, 2) := by decide +kernel
theorem dX11_comes_74 : decode cX11_comes 74 = .ok (.aload_n 0, 1) := by decide +kernel
theorem dX11_comes_75 : decode cX11_comes 75 = .ok (.getfield 53, 3) := by decide +kernel
theorem dX11_comes_78 : decode cX11_comes 78 = .ok (.iload_n 2, 1) := by decide +kernel
theorem dX11_comes_79 : decode cX11_comes 79 = .ok (.iaload, 1) := by decide +kernel
theorem dX11_comes_80 : decode cX11_comes 80 = .ok (.if_icmp .lt 6, 3) := by decide +kernel
theorem dX11_comes_83 : decode cX11_comes 83 = .ok (.bipush (-12), 2) := by decide +kernel
theorem dX11_comes_85 : decode cX11_comes 85 = .ok (.ireturn, 1) := by decide +kernel
theorem dX11_comes_86 : decode cX11_comes 86 = .ok (.aload_n 0, 1) := by decide +kernel
theorem dX11_comes_87 : decode cX11_comes 87 = .ok (.getfield 46, 3) := by decide +kernel
theorem dX11_comes_90 : decode cX11_comes 90 = .ok (.iload_n 2, 1) := by decide +kernel
theorem dX11_comes_91 : decode cX11_comes 91 = .ok (.aaload, 1) := by decide +kernel
theorem dX11_comes_92 : decode cX11_comes 92 = .ok (.iload 8, 2) := by decide +kernel
theorem dX11_comes_94 : decode cX11_comes 94 = .ok (.iaload, 1) := by decide +kernel
theorem dX11_comes_95 : decode cX11_comes 95 = .ok (.istore 9, 2) := by decide +kernel
theorem dX11_comes_97 : decode cX11_comes 97 = .ok (.iload 9, 2) := by decide +kernel
theorem dX11_comes_99 : decode cX11_comes 99 = .ok (.invokestatic 112, 3) := by decide +kernel
theorem dX11_comes_102 : decode cX11_comes 102 = .ok (.ifCond .ne 6, 3) := by decide +kernel
theorem dX11_comes_105 : decode cX11_comes 105 = .ok (.goto 33, 3) := by decide +kernel
theorem dX11_comes_108 : decode cX11_comes 108 = .ok (.aload_n 0, 1) := by decide +kernel
theorem dX11_comes_109 : decode cX11_comes 109 = .ok (.getfield 10, 3) := by decide +kernel
theorem dX11_comes_112 : decode cX11_comes 112 = .ok (.getfield 115, 3) := by decide +kernel
theorem dX11_comes_115 : decode cX11_comes 115 = .ok (.bipush 24, 2) := by decide +kernel
theorem dX11_comes_117 : decode cX11_comes 117 = .ok (.if_icmp .lt 6, 3) := by decide +kernel
theorem dX11_comes_120 : decode cX11_comes 120 = .ok (.bipush (-2), 2) := by decide +kernel
theorem dX11_comes_122 : decode cX11_comes 122 = .ok (.ireturn, 1) := by decide +kernel
theorem dX11_comes_123 : decode cX11_comes 123 = .ok (.aload_n 0, 1) := by decide +kernel
theorem dX11_comes_124 : decode cX11_comes 124 = .ok (.getfield 10, 3) := by decide +kernel
theorem dX11_comes_127 : decode cX11_comes 127 = .ok (.iload_n 1, 1) := by decide +kernel
theorem dX11_comes_128 : decode cX11_comes 128 = .ok (.iload 9, 2) := by decide +kernel
theorem dX11_comes_130 : decode cX11_comes 130 = .ok (.iconst 0, 1) := by decide +kernel
theorem dX11_comes_131 : decode cX11_comes 131 = .ok (.invokevirtual 118, 3) := by decide +kernel
theorem dX11_comes_134 : decode cX11_comes 134 = .ok (.pop, 1) := by decide +kernel
theorem dX11_comes_135 : decode cX11_comes 135 = .ok (.iinc 6 1, 3) := by decide +kernel
theorem dX11_comes_138 : decode cX11_comes 138 = .ok (.iinc 7 1, 3) := by decide +kernel
theorem dX11_comes_141 : decode cX11_comes 141 = .ok (.goto (-87), 3) := by decide +kernel
theorem dX11_comes_144 : decode cX11_comes 144 = .ok (.iload 6, 2) := by decide +kernel
theorem dX11_comes_146 : decode cX11_comes 146 = .ok (.ireturn, 1) := by decide +kernel
theorem dX11_shelf_0 : decode cX11_shelf 0 = .ok (.iload_n 1, 1) := by decide +kernel
theorem dX11_shelf_1 : decode cX11_shelf 1 = .ok (.invokestatic 332, 3) := by decide +kernel
theorem dX11_shelf_4 : decode cX11_shelf 4 = .ok (.ifCond .eq 12, 3) := by decide +kernel
theorem dX11_shelf_7 : decode cX11_shelf 7 = .ok (.aload_n 0, 1) := by decide +kernel
theorem dX11_shelf_8 : decode cX11_shelf 8 = .ok (.iload_n 2, 1) := by decide +kernel
theorem dX11_shelf_9 : decode cX11_shelf 9 = .ok (.iload_n 3, 1) := by decide +kernel
theorem dX11_shelf_10 : decode cX11_shelf 10 = .ok (.invokevirtual 335, 3) := by decide +kernel
theorem dX11_shelf_13 : decode cX11_shelf 13 = .ok (.ifCond .ne 5, 3) := by decide +kernel
theorem dX11_shelf_16 : decode cX11_shelf 16 = .ok (.iconst (-1), 1) := by decide +kernel
theorem dX11_shelf_17 : decode cX11_shelf 17 = .ok (.ireturn, 1) := by decide +kernel
theorem dX11_shelf_18 : decode cX11_shelf 18 = .ok (.aload_n 0, 1) := by decide +kernel
theorem dX11_shelf_19 : decode cX11_shelf 19 = .ok (.getfield 56, 3) := by decide +kernel
theorem dX11_shelf_22 : decode cX11_shelf 22 = .ok (.iload_n 1, 1) := by decide +kernel
theorem dX11_shelf_23 : decode cX11_shelf 23 = .ok (.iload_n 2, 1) := by decide +kernel
theorem dX11_shelf_24 : decode cX11_shelf 24 = .ok (.iastore, 1) := by decide +kernel
theorem dX11_shelf_25 : decode cX11_shelf 25 = .ok (.aload_n 0, 1) := by decide +kernel
theorem dX11_shelf_26 : decode cX11_shelf 26 = .ok (.getfield 59, 3) := by decide +kernel
theorem dX11_shelf_29 : decode cX11_shelf 29 = .ok (.iload_n 1, 1) := by decide +kernel
theorem dX11_shelf_30 : decode cX11_shelf 30 = .ok (.iload_n 3, 1) := by decide +kernel
theorem dX11_shelf_31 : decode cX11_shelf 31 = .ok (.iastore, 1) := by decide +kernel
theorem dX11_shelf_32 : decode cX11_shelf 32 = .ok (.iload_n 2, 1) := by decide +kernel
theorem dX11_shelf_33 : decode cX11_shelf 33 = .ok (.iconst 4, 1) := by decide +kernel
theorem dX11_shelf_34 : decode cX11_shelf 34 = .ok (.if_icmp .eq 5, 3) := by decide +kernel
theorem dX11_shelf_37 : decode cX11_shelf 37 = .ok (.iconst 1, 1) := by decide +kernel
theorem dX11_shelf_38 : decode cX11_shelf 38 = .ok (.ireturn, 1) := by decide +kernel
theorem dX11_shelf_39 : decode cX11_shelf 39 = .ok (.aload_n 0, 1) := by decide +kernel
theorem dX11_shelf_40 : decode cX11_shelf 40 = .ok (.getfield 49, 3) := by decide +kernel
theorem dX11_shelf_43 : decode cX11_shelf 43 = .ok (.iload_n 3, 1) := by decide +kernel
theorem dX11_shelf_44 : decode cX11_shelf 44 = .ok (.iaload, 1) := by decide +kernel
theorem dX11_shelf_45 : decode cX11_shelf 45 = .ok (.iconst (-1), 1) := by decide +kernel
theorem dX11_shelf_46 : decode cX11_shelf 46 = .ok (.if_icmp .ne 10, 3) := by decide +kernel
theorem dX11_shelf_49 : decode cX11_shelf 49 = .ok (.aload_n 0, 1) := by decide +kernel
theorem dX11_shelf_50 : decode cX11_shelf 50 = .ok (.getfield 56, 3) := by decide +kernel
theorem dX11_shelf_53 : decode cX11_shelf 53 = .ok (.iload_n 1, 1) := by decide +kernel
theorem dX11_shelf_54 : decode cX11_shelf 54 = .ok (.iconst 5, 1) := by decide +kernel
theorem dX11_shelf_55 : decode cX11_shelf 55 = .ok (.iastore, 1) := by decide +kernel
theorem dX11_shelf_56 : decode cX11_shelf 56 = .ok (.aload_n 0, 1) := by decide +kernel
theorem dX11_shelf_57 : decode cX11_shelf 57 = .ok (.getfield 62, 3) := by decide +kernel
theorem dX11_shelf_60 : decode cX11_shelf 60 = .ok (.iload_n 1, 1) := by decide +kernel
theorem dX11_shelf_61 : decode cX11_shelf 61 = .ok (.aload_n 0, 1) := by decide +kernel
theorem dX11_shelf_62 : decode cX11_shelf 62 = .ok (.getfield 49, 3) := by decide +kernel
theorem dX11_shelf_65 : decode cX11_shelf 65 = .ok (.iload_n 3, 1) := by decide +kernel
theorem dX11_shelf_66 : decode cX11_shelf 66 = .ok (.iaload, 1) := by decide +kernel
theorem dX11_shelf_67 : decode cX11_shelf 67 = .ok (.iastore, 1) := by decide +kernel
theorem dX11_shelf_68 : decode cX11_shelf 68 = .ok (.aload_n 0, 1) := by decide +kernel
theorem dX11_shelf_69 : decode cX11_shelf 69 = .ok (.getfield 65, 3) := by decide +kernel
theorem dX11_shelf_72 : decode cX11_shelf 72 = .ok (.iload_n 1, 1) := by decide +kernel
theorem dX11_shelf_73 : decode cX11_shelf 73 = .ok (.aload_n 0, 1) := by decide +kernel
theorem dX11_shelf_74 : decode cX11_shelf 74 = .ok (.getfield 53, 3) := by decide +kernel
theorem dX11_shelf_77 : decode cX11_shelf 77 = .ok (.iload_n 3, 1) := by decide +kernel
theorem dX11_shelf_78 : decode cX11_shelf 78 = .ok (.iaload, 1) := by decide +kernel
theorem dX11_shelf_79 : decode cX11_shelf 79 = .ok (.iastore, 1) := by decide +kernel
theorem dX11_shelf_80 : decode cX11_shelf 80 = .ok (.iconst 1, 1) := by decide +kernel
theorem dX11_shelf_81 : decode cX11_shelf 81 = .ok (.ireturn, 1) := by decide +kernel
theorem dX11_taken_0 : decode cX11_taken 0 = .ok (.iload_n 1, 1) := by decide +kernel
theorem dX11_taken_1 : decode cX11_taken 1 = .ok (.invokestatic 332, 3) := by decide +kernel
theorem dX11_taken_4 : decode cX11_taken 4 = .ok (.ifCond .eq 20, 3) := by decide +kernel
theorem dX11_taken_7 : decode cX11_taken 7 = .ok (.iload_n 2, 1) := by decide +kernel
theorem dX11_taken_8 : decode cX11_taken 8 = .ok (.invokestatic 338, 3) := by decide +kernel
theorem dX11_taken_11 : decode cX11_taken 11 = .ok (.ifCond .ne 15, 3) := by decide +kernel
theorem dX11_taken_14 : decode cX11_taken 14 = .ok (.iload_n 2, 1) := by decide +kernel
theorem dX11_taken_15 : decode cX11_taken 15 = .ok (.bipush 10, 2) := by decide +kernel
theorem dX11_taken_17 : decode cX11_taken 17 = .ok (.isub, 1) := by decide +kernel
theorem dX11_taken_18 : decode cX11_taken 18 = .ok (.invokestatic 323, 3) := by decide +kernel
theorem dX11_taken_21 : decode cX11_taken 21 = .ok (.ifCond .ne 5, 3) := by decide +kernel
theorem dX11_taken_24 : decode cX11_taken 24 = .ok (.iconst (-1), 1) := by decide +kernel
theorem dX11_taken_25 : decode cX11_taken 25 = .ok (.ireturn, 1) := by decide +kernel
theorem dX11_taken_26 : decode cX11_taken 26 = .ok (.aload_n 0, 1) := by decide +kernel
theorem dX11_taken_27 : decode cX11_taken 27 = .ok (.getfield 56, 3) := by decide +kernel
theorem dX11_taken_30 : decode cX11_taken 30 = .ok (.iload_n 1, 1) := by decide +kernel
theorem dX11_taken_31 : decode cX11_taken 31 = .ok (.iaload, 1) := by decide +kernel
theorem dX11_taken_32 : decode cX11_taken 32 = .ok (.iconst 4, 1) := by decide +kernel
theorem dX11_taken_33 : decode cX11_taken 33 = .ok (.if_icmp .ne 28, 3) := by decide +kernel
theorem dX11_taken_36 : decode cX11_taken 36 = .ok (.iload_n 2, 1) := by decide +kernel
theorem dX11_taken_37 : decode cX11_taken 37 = .ok (.bipush 10, 2) := by decide +kernel
theorem dX11_taken_39 : decode cX11_taken 39 = .ok (.isub, 1) := by decide +kernel
theorem dX11_taken_40 : decode cX11_taken 40 = .ok (.aload_n 0, 1) := by decide +kernel
theorem dX11_taken_41 : decode cX11_taken 41 = .ok (.getfield 62, 3) := by decide +kernel
theorem dX11_taken_44 : decode cX11_taken 44 = .ok (.iload_n 1, 1) := by decide +kernel
theorem dX11_taken_45 : decode cX11_taken 45 = .ok (.iaload, 1) := by decide +kernel
theorem dX11_taken_46 : decode cX11_taken 46 = .ok (.if_icmp .ne 12, 3) := by decide +kernel
theorem dX11_taken_49 : decode cX11_taken 49 = .ok (.aload_n 0, 1) := by decide +kernel
theorem dX11_taken_50 : decode cX11_taken 50 = .ok (.getfield 65, 3) := by decide +kernel
theorem dX11_taken_53 : decode cX11_taken 53 = .ok (.iload_n 1, 1) := by decide +kernel
theorem dX11_taken_54 : decode cX11_taken 54 = .ok (.iaload, 1) := by decide +kernel
theorem dX11_taken_55 : decode cX11_taken 55 = .ok (.goto 5, 3) := by decide +kernel
theorem dX11_taken_58 : decode cX11_taken 58 = .ok (.bipush (-13), 2) := by decide +kernel
theorem dX11_taken_60 : decode cX11_taken 60 = .ok (.ireturn, 1) := by decide +kernel
theorem dX11_taken_61 : decode cX11_taken 61 = .ok (.aload_n 0, 1) := by decide +kernel
theorem dX11_taken_62 : decode cX11_taken 62 = .ok (.iload_n 1, 1) := by decide +kernel
theorem dX11_taken_63 : decode cX11_taken 63 = .ok (.invokevirtual 341, 3) := by decide +kernel
theorem dX11_taken_66 : decode cX11_taken 66 = .ok (.astore_n 3, 1) := by decide +kernel
theorem dX11_taken_67 : decode cX11_taken 67 = .ok (.aload_n 3, 1) := by decide +kernel
theorem dX11_taken_68 : decode cX11_taken 68 = .ok (.ifnonnull 6, 3) := by decide +kernel
theorem dX11_taken_71 : decode cX11_taken 71 = .ok (.bipush (-11), 2) := by decide +kernel
theorem dX11_taken_73 : decode cX11_taken 73 = .ok (.ireturn, 1) := by decide +kernel
theorem dX11_taken_74 : decode cX11_taken 74 = .ok (.iload_n 2, 1) := by decide +kernel
theorem dX11_taken_75 : decode cX11_taken 75 = .ok (.invokestatic 338, 3) := by decide +kernel
theorem dX11_taken_78 : decode cX11_taken 78 = .ok (.ifCond .eq 18, 3) := by decide +kernel
theorem dX11_taken_81 : decode cX11_taken 81 = .ok (.aload_n 3, 1) := by decide +kernel
theorem dX11_taken_82 : decode cX11_taken 82 = .ok (.iload_n 2, 1) := by decide +kernel
theorem dX11_taken_83 : decode cX11_taken 83 = .ok (.invokestatic 345, 3) := by decide +kernel
theorem dX11_taken_86 : decode cX11_taken 86 = .ok (.ifCond .eq 10, 3) := by decide +kernel
theorem dX11_taken_89 : decode cX11_taken 89 = .ok (.aload_n 3, 1) := by decide +kernel
theorem dX11_taken_90 : decode cX11_taken 90 = .ok (.getfield 349, 3) := by decide +kernel
theorem dX11_taken_93 : decode cX11_taken 93 = .ok (.goto 5, 3) := by decide +kernel
theorem dX11_taken_96 : decode cX11_taken 96 = .ok (.bipush (-13), 2) := by decide +kernel
theorem dX11_taken_98 : decode cX11_taken 98 = .ok (.ireturn, 1) := by decide +kernel
theorem dX11_act_0 : decode cX11_act 0 = .ok (.aload_n 0, 1) := by decide +kernel
theorem dX11_act_1 : decode cX11_act 1 = .ok (.getfield 40, 3) := by decide +kernel
theorem dX11_act_4 : decode cX11_act 4 = .ok (.invokevirtual 352, 3) := by decide +kernel
theorem dX11_act_7 : decode cX11_act 7 = .ok (.iload_n 1, 1) := by decide +kernel
theorem dX11_act_8 : decode cX11_act 8 = .ok (.invokestatic 332, 3) := by decide +kernel
theorem dX11_act_11 : decode cX11_act 11 = .ok (.ifCond .ne 5, 3) := by decide +kernel
theorem dX11_act_14 : decode cX11_act 14 = .ok (.iconst 0, 1) := by decide +kernel
theorem dX11_act_15 : decode cX11_act 15 = .ok (.ireturn, 1) := by decide +kernel
theorem dX11_act_16 : decode cX11_act 16 = .ok (.aload_n 0, 1) := by decide +kernel
theorem dX11_act_17 : decode cX11_act 17 = .ok (.iload_n 1, 1) := by decide +kernel
theorem dX11_act_18 : decode cX11_act 18 = .ok (.invokevirtual 341, 3) := by decide +kernel
theorem dX11_act_21 : decode cX11_act 21 = .ok (.astore 4, 2) := by decide +kernel
theorem dX11_act_23 : decode cX11_act 23 = .ok (.aload 4, 2) := by decide +kernel
theorem dX11_act_25 : decode cX11_act 25 = .ok (.ifnonnull 5, 3) := by decide +kernel
theorem dX11_act_28 : decode cX11_act 28 = .ok (.iconst 0, 1) := by decide +kernel
theorem dX11_act_29 : decode cX11_act 29 = .ok (.ireturn, 1) := by decide +kernel
theorem dX11_act_30 : decode cX11_act 30 = .ok (.iload_n 2, 1) := by decide +kernel
theorem dX11_act_31 : decode cX11_act 31 = .ok (.tableswitch 89 0 3 #[29, 44, 59, 74], 29) := by decide +kernel
theorem dX11_act_60 : decode cX11_act 60 = .ok (.aload 4, 2) := by decide +kernel
theorem dX11_act_62 : decode cX11_act 62 = .ok (.iload_n 3, 1) := by decide +kernel
theorem dX11_act_63 : decode cX11_act 63 = .ok (.aload_n 0, 1) := by decide +kernel
theorem dX11_act_64 : decode cX11_act 64 = .ok (.getfield 40, 3) := by decide +kernel
theorem dX11_act_67 : decode cX11_act 67 = .ok (.invokevirtual 355, 3) := by decide +kernel
theorem dX11_act_70 : decode cX11_act 70 = .ok (.istore 5, 2) := by decide +kernel
theorem dX11_act_72 : decode cX11_act 72 = .ok (.goto 51, 3) := by decide +kernel
theorem dX11_act_75 : decode cX11_act 75 = .ok (.aload 4, 2) := by decide +kernel
theorem dX11_act_77 : decode cX11_act 77 = .ok (.iload_n 3, 1) := by decide +kernel
theorem dX11_act_78 : decode cX11_act 78 = .ok (.aload_n 0, 1) := by decide +kernel
theorem dX11_act_79 : decode cX11_act 79 = .ok (.getfield 40, 3) := by decide +kernel
theorem dX11_act_82 : decode cX11_act 82 = .ok (.invokevirtual 359, 3) := by decide +kernel
theorem dX11_act_85 : decode cX11_act 85 = .ok (.istore 5, 2) := by decide +kernel
theorem dX11_act_87 : decode cX11_act 87 = .ok (.goto 36, 3) := by decide +kernel
theorem dX11_act_90 : decode cX11_act 90 = .ok (.aload 4, 2) := by decide +kernel
theorem dX11_act_92 : decode cX11_act 92 = .ok (.iload_n 3, 1) := by decide +kernel
theorem dX11_act_93 : decode cX11_act 93 = .ok (.aload_n 0, 1) := by decide +kernel
theorem dX11_act_94 : decode cX11_act 94 = .ok (.getfield 40, 3) := by decide +kernel
theorem dX11_act_97 : decode cX11_act 97 = .ok (.invokevirtual 362, 3) := by decide +kernel
theorem dX11_act_100 : decode cX11_act 100 = .ok (.istore 5, 2) := by decide +kernel
theorem dX11_act_102 : decode cX11_act 102 = .ok (.goto 21, 3) := by decide +kernel
theorem dX11_act_105 : decode cX11_act 105 = .ok (.aload 4, 2) := by decide +kernel
theorem dX11_act_107 : decode cX11_act 107 = .ok (.iload_n 3, 1) := by decide +kernel
theorem dX11_act_108 : decode cX11_act 108 = .ok (.aload_n 0, 1) := by decide +kernel
theorem dX11_act_109 : decode cX11_act 109 = .ok (.getfield 40, 3) := by decide +kernel
theorem dX11_act_112 : decode cX11_act 112 = .ok (.invokevirtual 365, 3) := by decide +kernel
theorem dX11_act_115 : decode cX11_act 115 = .ok (.istore 5, 2) := by decide +kernel
theorem dX11_act_117 : decode cX11_act 117 = .ok (.goto 6, 3) := by decide +kernel
theorem dX11_act_120 : decode cX11_act 120 = .ok (.iconst 0, 1) := by decide +kernel
theorem dX11_act_121 : decode cX11_act 121 = .ok (.istore 5, 2) := by decide +kernel
theorem dX11_act_123 : decode cX11_act 123 = .ok (.aload_n 0, 1) := by decide +kernel
theorem dX11_act_124 : decode cX11_act 124 = .ok (.getfield 40, 3) := by decide +kernel
theorem dX11_act_127 : decode cX11_act 127 = .ok (.getfield 368, 3) := by decide +kernel
theorem dX11_act_130 : decode cX11_act 130 = .ok (.ifCond .eq 8, 3) := by decide +kernel
theorem dX11_act_133 : decode cX11_act 133 = .ok (.bipush (-15), 2) := by decide +kernel
theorem dX11_act_135 : decode cX11_act 135 = .ok (.goto 5, 3) := by decide +kernel
theorem dX11_act_138 : decode cX11_act 138 = .ok (.iload 5, 2) := by decide +kernel
theorem dX11_act_140 : decode cX11_act 140 = .ok (.ireturn, 1) := by decide +kernel
theorem dX11_trace_0 : decode cX11_trace 0 = .ok (.iload_n 1, 1) := by decide +kernel
theorem dX11_trace_1 : decode cX11_trace 1 = .ok (.ifCond .lt 26, 3) := by decide +kernel
theorem dX11_trace_4 : decode cX11_trace 4 = .ok (.iload_n 1, 1) := by decide +kernel
theorem dX11_trace_5 : decode cX11_trace 5 = .ok (.aload_n 0, 1) := by decide +kernel
theorem dX11_trace_6 : decode cX11_trace 6 = .ok (.getfield 40, 3) := by decide +kernel
theorem dX11_trace_9 : decode cX11_trace 9 = .ok (.getfield 371, 3) := by decide +kernel
theorem dX11_trace_12 : decode cX11_trace 12 = .ok (.if_icmp .ge 15, 3) := by decide +kernel
theorem dX11_trace_15 : decode cX11_trace 15 = .ok (.aload_n 0, 1) := by decide +kernel
theorem dX11_trace_16 : decode cX11_trace 16 = .ok (.getfield 40, 3) := by decide +kernel
theorem dX11_trace_19 : decode cX11_trace 19 = .ok (.getfield 372, 3) := by decide +kernel
theorem dX11_trace_22 : decode cX11_trace 22 = .ok (.iload_n 1, 1) := by decide +kernel
theorem dX11_trace_23 : decode cX11_trace 23 = .ok (.iaload, 1) := by decide +kernel
theorem dX11_trace_24 : decode cX11_trace 24 = .ok (.goto 5, 3) := by decide +kernel
theorem dX11_trace_27 : decode cX11_trace 27 = .ok (.bipush (-3), 2) := by decide +kernel
theorem dX11_trace_29 : decode cX11_trace 29 = .ok (.ireturn, 1) := by decide +kernel
theorem dX11_many_0 : decode cX11_many 0 = .ok (.iload_n 1, 1) := by decide +kernel
theorem dX11_many_1 : decode cX11_many 1 = .ok (.tableswitch 154 0 10 #[59, 67, 75, 83, 91, 99, 107, 122, 130, 138, 146], 59) := by decide +kernel
theorem dX11_many_60 : decode cX11_many 60 = .ok (.aload_n 0, 1) := by decide +kernel
theorem dX11_many_61 : decode cX11_many 61 = .ok (.getfield 10, 3) := by decide +kernel
theorem dX11_many_64 : decode cX11_many 64 = .ok (.getfield 80, 3) := by decide +kernel
theorem dX11_many_67 : decode cX11_many 67 = .ok (.ireturn, 1) := by decide +kernel
theorem dX11_many_68 : decode cX11_many 68 = .ok (.aload_n 0, 1) := by decide +kernel
theorem dX11_many_69 : decode cX11_many 69 = .ok (.getfield 10, 3) := by decide +kernel
theorem dX11_many_72 : decode cX11_many 72 = .ok (.getfield 84, 3) := by decide +kernel
theorem dX11_many_75 : decode cX11_many 75 = .ok (.ireturn, 1) := by decide +kernel
theorem dX11_many_76 : decode cX11_many 76 = .ok (.aload_n 0, 1) := by decide +kernel
theorem dX11_many_77 : decode cX11_many 77 = .ok (.getfield 10, 3) := by decide +kernel
theorem dX11_many_80 : decode cX11_many 80 = .ok (.getfield 102, 3) := by decide +kernel
theorem dX11_many_83 : decode cX11_many 83 = .ok (.ireturn, 1) := by decide +kernel
theorem dX11_many_84 : decode cX11_many 84 = .ok (.aload_n 0, 1) := by decide +kernel
theorem dX11_many_85 : decode cX11_many 85 = .ok (.getfield 10, 3) := by decide +kernel
theorem dX11_many_88 : decode cX11_many 88 = .ok (.getfield 115, 3) := by decide +kernel
theorem dX11_many_91 : decode cX11_many 91 = .ok (.ireturn, 1) := by decide +kernel
theorem dX11_many_92 : decode cX11_many 92 = .ok (.aload_n 0, 1) := by decide +kernel
theorem dX11_many_93 : decode cX11_many 93 = .ok (.getfield 10, 3) := by decide +kernel
theorem dX11_many_96 : decode cX11_many 96 = .ok (.getfield 163, 3) := by decide +kernel
theorem dX11_many_99 : decode cX11_many 99 = .ok (.ireturn, 1) := by decide +kernel
theorem dX11_many_100 : decode cX11_many 100 = .ok (.aload_n 0, 1) := by decide +kernel
theorem dX11_many_101 : decode cX11_many 101 = .ok (.getfield 10, 3) := by decide +kernel
theorem dX11_many_104 : decode cX11_many 104 = .ok (.getfield 211, 3) := by decide +kernel
theorem dX11_many_107 : decode cX11_many 107 = .ok (.ireturn, 1) := by decide +kernel
theorem dX11_many_108 : decode cX11_many 108 = .ok (.aload_n 0, 1) := by decide +kernel
theorem dX11_many_109 : decode cX11_many 109 = .ok (.getfield 10, 3) := by decide +kernel
theorem dX11_many_112 : decode cX11_many 112 = .ok (.aload_n 0, 1) := by decide +kernel
theorem dX11_many_113 : decode cX11_many 113 = .ok (.getfield 10, 3) := by decide +kernel
theorem dX11_many_116 : decode cX11_many 116 = .ok (.getfield 80, 3) := by decide +kernel
theorem dX11_many_119 : decode cX11_many 119 = .ok (.invokevirtual 228, 3) := by decide +kernel
theorem dX11_many_122 : decode cX11_many 122 = .ok (.ireturn, 1) := by decide +kernel
theorem dX11_many_123 : decode cX11_many 123 = .ok (.aload_n 0, 1) := by decide +kernel
theorem dX11_many_124 : decode cX11_many 124 = .ok (.getfield 10, 3) := by decide +kernel
theorem dX11_many_127 : decode cX11_many 127 = .ok (.getfield 239, 3) := by decide +kernel
theorem dX11_many_130 : decode cX11_many 130 = .ok (.ireturn, 1) := by decide +kernel
theorem dX11_many_131 : decode cX11_many 131 = .ok (.aload_n 0, 1) := by decide +kernel
theorem dX11_many_132 : decode cX11_many 132 = .ok (.getfield 33, 3) := by decide +kernel
theorem dX11_many_135 : decode cX11_many 135 = .ok (.getfield 261, 3) := by decide +kernel
theorem dX11_many_138 : decode cX11_many 138 = .ok (.ireturn, 1) := by decide +kernel
theorem dX11_many_139 : decode cX11_many 139 = .ok (.aload_n 0, 1) := by decide +kernel
theorem dX11_many_140 : decode cX11_many 140 = .ok (.getfield 26, 3) := by decide +kernel
theorem dX11_many_143 : decode cX11_many 143 = .ok (.getfield 148, 3) := by decide +kernel
theorem dX11_many_146 : decode cX11_many 146 = .ok (.ireturn, 1) := by decide +kernel
theorem dX11_many_147 : decode cX11_many 147 = .ok (.aload_n 0, 1) := by decide +kernel
theorem dX11_many_148 : decode cX11_many 148 = .ok (.getfield 40, 3) := by decide +kernel
theorem dX11_many_151 : decode cX11_many 151 = .ok (.getfield 371, 3) := by decide +kernel
theorem dX11_many_154 : decode cX11_many 154 = .ok (.ireturn, 1) := by decide +kernel
theorem dX11_many_155 : decode cX11_many 155 = .ok (.iconst (-1), 1) := by decide +kernel
theorem dX11_many_156 : decode cX11_many 156 = .ok (.ireturn, 1) := by decide +kernel
theorem dX11_isSheet_0 : decode cX11_isSheet 0 = .ok (.iload_n 0, 1) := by decide +kernel
theorem dX11_isSheet_1 : decode cX11_isSheet 1 = .ok (.ifCond .lt 12, 3) := by decide +kernel
theorem dX11_isSheet_4 : decode cX11_isSheet 4 = .ok (.iload_n 0, 1) := by decide +kernel
theorem dX11_isSheet_5 : decode cX11_isSheet 5 = .ok (.iconst 4, 1) := by decide +kernel
theorem dX11_isSheet_6 : decode cX11_isSheet 6 = .ok (.if_icmp .ge 7, 3) := by decide +kernel
theorem dX11_isSheet_9 : decode cX11_isSheet 9 = .ok (.iconst 1, 1) := by decide +kernel
theorem dX11_isSheet_10 : decode cX11_isSheet 10 = .ok (.goto 4, 3) := by decide +kernel
theorem dX11_isSheet_13 : decode cX11_isSheet 13 = .ok (.iconst 0, 1) := by decide +kernel
theorem dX11_isSheet_14 : decode cX11_isSheet 14 = .ok (.ireturn, 1) := by decide +kernel
theorem dX11_isShelf_0 : decode cX11_isShelf 0 = .ok (.iload_n 0, 1) := by decide +kernel
theorem dX11_isShelf_1 : decode cX11_isShelf 1 = .ok (.ifCond .lt 12, 3) := by decide +kernel
theorem dX11_isShelf_4 : decode cX11_isShelf 4 = .ok (.iload_n 0, 1) := by decide +kernel
theorem dX11_isShelf_5 : decode cX11_isShelf 5 = .ok (.iconst 4, 1) := by decide +kernel
theorem dX11_isShelf_6 : decode cX11_isShelf 6 = .ok (.if_icmp .ge 7, 3) := by decide +kernel
theorem dX11_isShelf_9 : decode cX11_isShelf 9 = .ok (.iconst 1, 1) := by decide +kernel
theorem dX11_isShelf_10 : decode cX11_isShelf 10 = .ok (.goto 4, 3) := by decide +kernel
theorem dX11_isShelf_13 : decode cX11_isShelf 13 = .ok (.iconst 0, 1) := by decide +kernel
theorem dX11_isShelf_14 : decode cX11_isShelf 14 = .ok (.ireturn, 1) := by decide +kernel
theorem dX11_isSort_0 : decode cX11_isSort 0 = .ok (.iload_n 0, 1) := by decide +kernel
theorem dX11_isSort_1 : decode cX11_isSort 1 = .ok (.ifCond .lt 12, 3) := by decide +kernel
theorem dX11_isSort_4 : decode cX11_isSort 4 = .ok (.iload_n 0, 1) := by decide +kernel
theorem dX11_isSort_5 : decode cX11_isSort 5 = .ok (.iconst 3, 1) := by decide +kernel
theorem dX11_isSort_6 : decode cX11_isSort 6 = .ok (.if_icmp .gt 7, 3) := by decide +kernel
theorem dX11_isSort_9 : decode cX11_isSort 9 = .ok (.iconst 1, 1) := by decide +kernel
theorem dX11_isSort_10 : decode cX11_isSort 10 = .ok (.goto 4, 3) := by decide +kernel
theorem dX11_isSort_13 : decode cX11_isSort 13 = .ok (.iconst 0, 1) := by decide +kernel
theorem dX11_isSort_14 : decode cX11_isSort 14 = .ok (.ireturn, 1) := by decide +kernel
theorem dX11_isPaperKind_0 : decode cX11_isPaperKind 0 = .ok (.iload_n 0, 1) := by decide +kernel
theorem dX11_isPaperKind_1 : decode cX11_isPaperKind 1 = .ok (.ifCond .lt 13, 3) := by decide +kernel
theorem dX11_isPaperKind_4 : decode cX11_isPaperKind 4 = .ok (.iload_n 0, 1) := by decide +kernel
theorem dX11_isPaperKind_5 : decode cX11_isPaperKind 5 = .ok (.bipush 6, 2) := by decide +kernel
theorem dX11_isPaperKind_7 : decode cX11_isPaperKind 7 = .ok (.if_icmp .gt 7, 3) := by decide +kernel
theorem dX11_isPaperKind_10 : decode cX11_isPaperKind 10 = .ok (.iconst 1, 1) := by decide +kernel
theorem dX11_isPaperKind_11 : decode cX11_isPaperKind 11 = .ok (.goto 4, 3) := by decide +kernel
theorem dX11_isPaperKind_14 : decode cX11_isPaperKind 14 = .ok (.iconst 0, 1) := by decide +kernel
theorem dX11_isPaperKind_15 : decode cX11_isPaperKind 15 = .ok (.ireturn, 1) := by decide +kernel
theorem dX11_narrowed_0 : decode cX11_narrowed 0 = .ok (.iload_n 1, 1) := by decide +kernel
theorem dX11_narrowed_1 : decode cX11_narrowed 1 = .ok (.tableswitch 47 0 3 #[31, 34, 47, 37], 31) := by decide +kernel
theorem dX11_narrowed_32 : decode cX11_narrowed 32 = .ok (.iload_n 0, 1) := by decide +kernel
theorem dX11_narrowed_33 : decode cX11_narrowed 33 = .ok (.i2b, 1) := by decide +kernel
theorem dX11_narrowed_34 : decode cX11_narrowed 34 = .ok (.ireturn, 1) := by decide +kernel
theorem dX11_narrowed_35 : decode cX11_narrowed 35 = .ok (.iload_n 0, 1) := by decide +kernel
theorem dX11_narrowed_36 : decode cX11_narrowed 36 = .ok (.i2s, 1) := by decide +kernel
theorem dX11_narrowed_37 : decode cX11_narrowed 37 = .ok (.ireturn, 1) := by decide +kernel
theorem dX11_narrowed_38 : decode cX11_narrowed 38 = .ok (.iload_n 0, 1) := by decide +kernel
theorem dX11_narrowed_39 : decode cX11_narrowed 39 = .ok (.ifCond .eq 7, 3) := by decide +kernel
theorem dX11_narrowed_42 : decode cX11_narrowed 42 = .ok (.iconst 1, 1) := by decide +kernel
theorem dX11_narrowed_43 : decode cX11_narrowed 43 = .ok (.goto 4, 3) := by decide +kernel
theorem dX11_narrowed_46 : decode cX11_narrowed 46 = .ok (.iconst 0, 1) := by decide +kernel
theorem dX11_narrowed_47 : decode cX11_narrowed 47 = .ok (.ireturn, 1) := by decide +kernel
theorem dX11_narrowed_48 : decode cX11_narrowed 48 = .ok (.iload_n 0, 1) := by decide +kernel
theorem dX11_narrowed_49 : decode cX11_narrowed 49 = .ok (.ireturn, 1) := by decide +kernel
theorem dX11_refusalAs_0 : decode cX11_refusalAs 0 = .ok (.aload_n 0, 1) := by decide +kernel
theorem dX11_refusalAs_1 : decode cX11_refusalAs 1 = .ok (.getfield 49, 3) := by decide +kernel
theorem dX11_refusalAs_4 : decode cX11_refusalAs 4 = .ok (.iload_n 1, 1) := by decide +kernel
theorem dX11_refusalAs_5 : decode cX11_refusalAs 5 = .ok (.iaload, 1) := by decide +kernel
theorem dX11_refusalAs_6 : decode cX11_refusalAs 6 = .ok (.iconst (-1), 1) := by decide +kernel
theorem dX11_refusalAs_7 : decode cX11_refusalAs 7 = .ok (.if_icmp .ne 6, 3) := by decide +kernel
theorem dX11_refusalAs_10 : decode cX11_refusalAs 10 = .ok (.bipush (-11), 2) := by decide +kernel
theorem dX11_refusalAs_12 : decode cX11_refusalAs 12 = .ok (.ireturn, 1) := by decide +kernel
theorem dX11_refusalAs_13 : decode cX11_refusalAs 13 = .ok (.aload_n 0, 1) := by decide +kernel
theorem dX11_refusalAs_14 : decode cX11_refusalAs 14 = .ok (.getfield 49, 3) := by decide +kernel
theorem dX11_refusalAs_17 : decode cX11_refusalAs 17 = .ok (.iload_n 1, 1) := by decide +kernel
theorem dX11_refusalAs_18 : decode cX11_refusalAs 18 = .ok (.iaload, 1) := by decide +kernel
theorem dX11_refusalAs_19 : decode cX11_refusalAs 19 = .ok (.iload_n 2, 1) := by decide +kernel
theorem dX11_refusalAs_20 : decode cX11_refusalAs 20 = .ok (.if_icmp .ne 7, 3) := by decide +kernel
theorem dX11_refusalAs_23 : decode cX11_refusalAs 23 = .ok (.iconst 0, 1) := by decide +kernel
theorem dX11_refusalAs_24 : decode cX11_refusalAs 24 = .ok (.goto 5, 3) := by decide +kernel
theorem dX11_refusalAs_27 : decode cX11_refusalAs 27 = .ok (.bipush (-13), 2) := by decide +kernel
theorem dX11_refusalAs_29 : decode cX11_refusalAs 29 = .ok (.ireturn, 1) := by decide +kernel
theorem dX11_isThing_0 : decode cX11_isThing 0 = .ok (.iload_n 1, 1) := by decide +kernel
theorem dX11_isThing_1 : decode cX11_isThing 1 = .ok (.tableswitch 76 0 4 #[35, 44, 53, 62, 71], 35) := by decide +kernel
theorem dX11_isThing_36 : decode cX11_isThing 36 = .ok (.aload_n 0, 1) := by decide +kernel
theorem dX11_isThing_37 : decode cX11_isThing 37 = .ok (.getfield 10, 3) := by decide +kernel
theorem dX11_isThing_40 : decode cX11_isThing 40 = .ok (.iload_n 2, 1) := by decide +kernel
theorem dX11_isThing_41 : decode cX11_isThing 41 = .ok (.invokevirtual 109, 3) := by decide +kernel
theorem dX11_isThing_44 : decode cX11_isThing 44 = .ok (.ireturn, 1) := by decide +kernel
theorem dX11_isThing_45 : decode cX11_isThing 45 = .ok (.aload_n 0, 1) := by decide +kernel
theorem dX11_isThing_46 : decode cX11_isThing 46 = .ok (.getfield 10, 3) := by decide +kernel
theorem dX11_isThing_49 : decode cX11_isThing 49 = .ok (.iload_n 2, 1) := by decide +kernel
theorem dX11_isThing_50 : decode cX11_isThing 50 = .ok (.invokevirtual 375, 3) := by decide +kernel
theorem dX11_isThing_53 : decode cX11_isThing 53 = .ok (.ireturn, 1) := by decide +kernel
theorem dX11_isThing_54 : decode cX11_isThing 54 = .ok (.aload_n 0, 1) := by decide +kernel
theorem dX11_isThing_55 : decode cX11_isThing 55 = .ok (.getfield 10, 3) := by decide +kernel
theorem dX11_isThing_58 : decode cX11_isThing 58 = .ok (.iload_n 2, 1) := by decide +kernel
theorem dX11_isThing_59 : decode cX11_isThing 59 = .ok (.invokevirtual 218, 3) := by decide +kernel
theorem dX11_isThing_62 : decode cX11_isThing 62 = .ok (.ireturn, 1) := by decide +kernel
theorem dX11_isThing_63 : decode cX11_isThing 63 = .ok (.aload_n 0, 1) := by decide +kernel
theorem dX11_isThing_64 : decode cX11_isThing 64 = .ok (.getfield 10, 3) := by decide +kernel
theorem dX11_isThing_67 : decode cX11_isThing 67 = .ok (.iload_n 2, 1) := by decide +kernel
theorem dX11_isThing_68 : decode cX11_isThing 68 = .ok (.invokevirtual 170, 3) := by decide +kernel
theorem dX11_isThing_71 : decode cX11_isThing 71 = .ok (.ireturn, 1) := by decide +kernel
theorem dX11_isThing_72 : decode cX11_isThing 72 = .ok (.iload_n 2, 1) := by decide +kernel
theorem dX11_isThing_73 : decode cX11_isThing 73 = .ok (.invokestatic 320, 3) := by decide +kernel
theorem dX11_isThing_76 : decode cX11_isThing 76 = .ok (.ireturn, 1) := by decide +kernel
theorem dX11_isThing_77 : decode cX11_isThing 77 = .ok (.iload_n 1, 1) := by decide +kernel
theorem dX11_isThing_78 : decode cX11_isThing 78 = .ok (.iconst 5, 1) := by decide +kernel
theorem dX11_isThing_79 : decode cX11_isThing 79 = .ok (.if_icmp .ne 7, 3) := by decide +kernel
theorem dX11_isThing_82 : decode cX11_isThing 82 = .ok (.iconst 1, 1) := by decide +kernel
theorem dX11_isThing_83 : decode cX11_isThing 83 = .ok (.goto 4, 3) := by decide +kernel
theorem dX11_isThing_86 : decode cX11_isThing 86 = .ok (.iconst 0, 1) := by decide +kernel
theorem dX11_isThing_87 : decode cX11_isThing 87 = .ok (.ireturn, 1) := by decide +kernel
theorem dX11_paperOn_0 : decode cX11_paperOn 0 = .ok (.aload_n 0, 1) := by decide +kernel
theorem dX11_paperOn_1 : decode cX11_paperOn 1 = .ok (.getfield 59, 3) := by decide +kernel
theorem dX11_paperOn_4 : decode cX11_paperOn 4 = .ok (.iload_n 1, 1) := by decide +kernel
theorem dX11_paperOn_5 : decode cX11_paperOn 5 = .ok (.iaload, 1) := by decide +kernel
theorem dX11_paperOn_6 : decode cX11_paperOn 6 = .ok (.istore_n 2, 1) := by decide +kernel
theorem dX11_paperOn_7 : decode cX11_paperOn 7 = .ok (.aload_n 0, 1) := by decide +kernel
theorem dX11_paperOn_8 : decode cX11_paperOn 8 = .ok (.aload_n 0, 1) := by decide +kernel
theorem dX11_paperOn_9 : decode cX11_paperOn 9 = .ok (.getfield 56, 3) := by decide +kernel
theorem dX11_paperOn_12 : decode cX11_paperOn 12 = .ok (.iload_n 1, 1) := by decide +kernel
theorem dX11_paperOn_13 : decode cX11_paperOn 13 = .ok (.iaload, 1) := by decide +kernel
theorem dX11_paperOn_14 : decode cX11_paperOn 14 = .ok (.iload_n 2, 1) := by decide +kernel
theorem dX11_paperOn_15 : decode cX11_paperOn 15 = .ok (.invokevirtual 335, 3) := by decide +kernel
theorem dX11_paperOn_18 : decode cX11_paperOn 18 = .ok (.ifCond .ne 5, 3) := by decide +kernel
theorem dX11_paperOn_21 : decode cX11_paperOn 21 = .ok (.aconst_null, 1) := by decide +kernel
theorem dX11_paperOn_22 : decode cX11_paperOn 22 = .ok (.areturn, 1) := by decide +kernel
theorem dX11_paperOn_23 : decode cX11_paperOn 23 = .ok (.aload_n 0, 1) := by decide +kernel
theorem dX11_paperOn_24 : decode cX11_paperOn 24 = .ok (.getfield 56, 3) := by decide +kernel
theorem dX11_paperOn_27 : decode cX11_paperOn 27 = .ok (.iload_n 1, 1) := by decide +kernel
theorem dX11_paperOn_28 : decode cX11_paperOn 28 = .ok (.iaload, 1) := by decide +kernel
theorem dX11_paperOn_29 : decode cX11_paperOn 29 = .ok (.tableswitch 71 0 3 #[31, 41, 51, 61], 31) := by decide +kernel
theorem dX11_paperOn_60 : decode cX11_paperOn 60 = .ok (.aload_n 0, 1) := by decide +kernel
theorem dX11_paperOn_61 : decode cX11_paperOn 61 = .ok (.getfield 10, 3) := by decide +kernel
theorem dX11_paperOn_64 : decode cX11_paperOn 64 = .ok (.getfield 122, 3) := by decide +kernel
theorem dX11_paperOn_67 : decode cX11_paperOn 67 = .ok (.iload_n 2, 1) := by decide +kernel
theorem dX11_paperOn_68 : decode cX11_paperOn 68 = .ok (.aaload, 1) := by decide +kernel
theorem dX11_paperOn_69 : decode cX11_paperOn 69 = .ok (.areturn, 1) := by decide +kernel
theorem dX11_paperOn_70 : decode cX11_paperOn 70 = .ok (.aload_n 0, 1) := by decide +kernel
theorem dX11_paperOn_71 : decode cX11_paperOn 71 = .ok (.getfield 10, 3) := by decide +kernel
theorem dX11_paperOn_74 : decode cX11_paperOn 74 = .ok (.getfield 378, 3) := by decide +kernel
theorem dX11_paperOn_77 : decode cX11_paperOn 77 = .ok (.iload_n 2, 1) := by decide +kernel
theorem dX11_paperOn_78 : decode cX11_paperOn 78 = .ok (.aaload, 1) := by decide +kernel
theorem dX11_paperOn_79 : decode cX11_paperOn 79 = .ok (.areturn, 1) := by decide +kernel
theorem dX11_paperOn_80 : decode cX11_paperOn 80 = .ok (.aload_n 0, 1) := by decide +kernel
theorem dX11_paperOn_81 : decode cX11_paperOn 81 = .ok (.getfield 10, 3) := by decide +kernel
theorem dX11_paperOn_84 : decode cX11_paperOn 84 = .ok (.getfield 231, 3) := by decide +kernel
theorem dX11_paperOn_87 : decode cX11_paperOn 87 = .ok (.iload_n 2, 1) := by decide +kernel
theorem dX11_paperOn_88 : decode cX11_paperOn 88 = .ok (.aaload, 1) := by decide +kernel
theorem dX11_paperOn_89 : decode cX11_paperOn 89 = .ok (.areturn, 1) := by decide +kernel
theorem dX11_paperOn_90 : decode cX11_paperOn 90 = .ok (.aload_n 0, 1) := by decide +kernel
theorem dX11_paperOn_91 : decode cX11_paperOn 91 = .ok (.getfield 10, 3) := by decide +kernel
theorem dX11_paperOn_94 : decode cX11_paperOn 94 = .ok (.getfield 173, 3) := by decide +kernel
theorem dX11_paperOn_97 : decode cX11_paperOn 97 = .ok (.iload_n 2, 1) := by decide +kernel
theorem dX11_paperOn_98 : decode cX11_paperOn 98 = .ok (.aaload, 1) := by decide +kernel
theorem dX11_paperOn_99 : decode cX11_paperOn 99 = .ok (.areturn, 1) := by decide +kernel
theorem dX11_paperOn_100 : decode cX11_paperOn 100 = .ok (.aconst_null, 1) := by decide +kernel
theorem dX11_paperOn_101 : decode cX11_paperOn 101 = .ok (.areturn, 1) := by decide +kernel
theorem dX11_isOfKind_0 : decode cX11_isOfKind 0 = .ok (.iload_n 1, 1) := by decide +kernel
theorem dX11_isOfKind_1 : decode cX11_isOfKind 1 = .ok (.tableswitch 69 1 6 #[39, 44, 49, 54, 59, 64], 39) := by decide +kernel
theorem dX11_isOfKind_40 : decode cX11_isOfKind 40 = .ok (.aload_n 0, 1) := by decide +kernel
theorem dX11_isOfKind_41 : decode cX11_isOfKind 41 = .ok (.instanceof 127, 3) := by decide +kernel
theorem dX11_isOfKind_44 : decode cX11_isOfKind 44 = .ok (.ireturn, 1) := by decide +kernel
theorem dX11_isOfKind_45 : decode cX11_isOfKind 45 = .ok (.aload_n 0, 1) := by decide +kernel
theorem dX11_isOfKind_46 : decode cX11_isOfKind 46 = .ok (.instanceof 382, 3) := by decide +kernel
theorem dX11_isOfKind_49 : decode cX11_isOfKind 49 = .ok (.ireturn, 1) := by decide +kernel
theorem dX11_isOfKind_50 : decode cX11_isOfKind 50 = .ok (.aload_n 0, 1) := by decide +kernel
theorem dX11_isOfKind_51 : decode cX11_isOfKind 51 = .ok (.instanceof 384, 3) := by decide +kernel
theorem dX11_isOfKind_54 : decode cX11_isOfKind 54 = .ok (.ireturn, 1) := by decide +kernel
theorem dX11_isOfKind_55 : decode cX11_isOfKind 55 = .ok (.aload_n 0, 1) := by decide +kernel
theorem dX11_isOfKind_56 : decode cX11_isOfKind 56 = .ok (.instanceof 278, 3) := by decide +kernel
theorem dX11_isOfKind_59 : decode cX11_isOfKind 59 = .ok (.ireturn, 1) := by decide +kernel
theorem dX11_isOfKind_60 : decode cX11_isOfKind 60 = .ok (.aload_n 0, 1) := by decide +kernel
theorem dX11_isOfKind_61 : decode cX11_isOfKind 61 = .ok (.instanceof 386, 3) := by decide +kernel
theorem dX11_isOfKind_64 : decode cX11_isOfKind 64 = .ok (.ireturn, 1) := by decide +kernel
theorem dX11_isOfKind_65 : decode cX11_isOfKind 65 = .ok (.aload_n 0, 1) := by decide +kernel
theorem dX11_isOfKind_66 : decode cX11_isOfKind 66 = .ok (.instanceof 178, 3) := by decide +kernel
theorem dX11_isOfKind_69 : decode cX11_isOfKind 69 = .ok (.ireturn, 1) := by decide +kernel
theorem dX11_isOfKind_70 : decode cX11_isOfKind 70 = .ok (.iload_n 1, 1) := by decide +kernel
theorem dX11_isOfKind_71 : decode cX11_isOfKind 71 = .ok (.ifCond .ne 7, 3) := by decide +kernel
theorem dX11_isOfKind_74 : decode cX11_isOfKind 74 = .ok (.iconst 1, 1) := by decide +kernel
theorem dX11_isOfKind_75 : decode cX11_isOfKind 75 = .ok (.goto 4, 3) := by decide +kernel
theorem dX11_isOfKind_78 : decode cX11_isOfKind 78 = .ok (.iconst 0, 1) := by decide +kernel
theorem dX11_isOfKind_79 : decode cX11_isOfKind 79 = .ok (.ireturn, 1) := by decide +kernel
theorem dX11_keep_0 : decode cX11_keep 0 = .ok (.aload_n 0, 1) := by decide +kernel
theorem dX11_keep_1 : decode cX11_keep 1 = .ok (.getfield 16, 3) := by decide +kernel
theorem dX11_keep_4 : decode cX11_keep 4 = .ok (.aload_n 0, 1) := by decide +kernel
theorem dX11_keep_5 : decode cX11_keep 5 = .ok (.getfield 10, 3) := by decide +kernel
theorem dX11_keep_8 : decode cX11_keep 8 = .ok (.invokevirtual 388, 3) := by decide +kernel
theorem dX11_keep_11 : decode cX11_keep 11 = .ok (.aload_n 0, 1) := by decide +kernel
theorem dX11_keep_12 : decode cX11_keep 12 = .ok (.iconst 1, 1) := by decide +kernel
theorem dX11_keep_13 : decode cX11_keep 13 = .ok (.putfield 19, 3) := by decide +kernel
theorem dX11_keep_16 : decode cX11_keep 16 = .ok (.iconst 1, 1) := by decide +kernel
theorem dX11_keep_17 : decode cX11_keep 17 = .ok (.ireturn, 1) := by decide +kernel
theorem dX11_again_0 : decode cX11_again 0 = .ok (.aload_n 0, 1) := by decide +kernel
theorem dX11_again_1 : decode cX11_again 1 = .ok (.getfield 19, 3) := by decide +kernel
theorem dX11_again_4 : decode cX11_again 4 = .ok (.ifCond .ne 6, 3) := by decide +kernel
theorem dX11_again_7 : decode cX11_again 7 = .ok (.bipush (-3), 2) := by decide +kernel
theorem dX11_again_9 : decode cX11_again 9 = .ok (.ireturn, 1) := by decide +kernel
theorem dX11_again_10 : decode cX11_again 10 = .ok (.aload_n 0, 1) := by decide +kernel
theorem dX11_again_11 : decode cX11_again 11 = .ok (.getfield 10, 3) := by decide +kernel
theorem dX11_again_14 : decode cX11_again 14 = .ok (.aload_n 0, 1) := by decide +kernel
theorem dX11_again_15 : decode cX11_again 15 = .ok (.getfield 16, 3) := by decide +kernel
theorem dX11_again_18 : decode cX11_again 18 = .ok (.invokevirtual 388, 3) := by decide +kernel
theorem dX11_again_21 : decode cX11_again 21 = .ok (.iconst 1, 1) := by decide +kernel
theorem dX11_again_22 : decode cX11_again 22 = .ok (.ireturn, 1) := by decide +kernel
theorem dX12_init_0 : decode cX12_init 0 = .ok (.aload_n 0, 1) := by decide +kernel
theorem dX12_init_1 : decode cX12_init 1 = .ok (.invokespecial 1, 3) := by decide +kernel
theorem dX12_init_4 : decode cX12_init 4 = .ok (.aload_n 0, 1) := by decide +kernel
theorem dX12_init_5 : decode cX12_init 5 = .ok (.bipush 7, 2) := by decide +kernel
theorem dX12_init_7 : decode cX12_init 7 = .ok (.newarray .int, 2) := by decide +kernel
theorem dX12_init_9 : decode cX12_init 9 = .ok (.putfield 7, 3) := by decide +kernel
theorem dX12_init_12 : decode cX12_init 12 = .ok (.aload_n 0, 1) := by decide +kernel
theorem dX12_init_13 : decode cX12_init 13 = .ok (.bipush 16, 2) := by decide +kernel
theorem dX12_init_15 : decode cX12_init 15 = .ok (.newarray .int, 2) := by decide +kernel
theorem dX12_init_17 : decode cX12_init 17 = .ok (.putfield 13, 3) := by decide +kernel
theorem dX12_init_20 : decode cX12_init 20 = .ok (.aload_n 0, 1) := by decide +kernel
theorem dX12_init_21 : decode cX12_init 21 = .ok (.bipush 48, 2) := by decide +kernel
theorem dX12_init_23 : decode cX12_init 23 = .ok (.newarray .int, 2) := by decide +kernel
theorem dX12_init_25 : decode cX12_init 25 = .ok (.putfield 16, 3) := by decide +kernel
theorem dX12_init_28 : decode cX12_init 28 = .ok (.aload_n 0, 1) := by decide +kernel
theorem dX12_init_29 : decode cX12_init 29 = .ok (.bipush 96, 2) := by decide +kernel
theorem dX12_init_31 : decode cX12_init 31 = .ok (.newarray .int, 2) := by decide +kernel
theorem dX12_init_33 : decode cX12_init 33 = .ok (.putfield 19, 3) := by decide +kernel
theorem dX12_init_36 : decode cX12_init 36 = .ok (.aload_n 0, 1) := by decide +kernel
theorem dX12_init_37 : decode cX12_init 37 = .ok (.bipush 12, 2) := by decide +kernel
theorem dX12_init_39 : decode cX12_init 39 = .ok (.newarray .int, 2) := by decide +kernel
theorem dX12_init_41 : decode cX12_init 41 = .ok (.putfield 22, 3) := by decide +kernel
theorem dX12_init_44 : decode cX12_init 44 = .ok (.aload_n 0, 1) := by decide +kernel
theorem dX12_init_45 : decode cX12_init 45 = .ok (.sipush 504, 3) := by decide +kernel
theorem dX12_init_48 : decode cX12_init 48 = .ok (.newarray .int, 2) := by decide +kernel
theorem dX12_init_50 : decode cX12_init 50 = .ok (.putfield 25, 3) := by decide +kernel
theorem dX12_init_53 : decode cX12_init 53 = .ok (.aload_n 0, 1) := by decide +kernel
theorem dX12_init_54 : decode cX12_init 54 = .ok (.sipush 1560, 3) := by decide +kernel
theorem dX12_init_57 : decode cX12_init 57 = .ok (.newarray .int, 2) := by decide +kernel
theorem dX12_init_59 : decode cX12_init 59 = .ok (.putfield 28, 3) := by decide +kernel
theorem dX12_init_62 : decode cX12_init 62 = .ok (.aload_n 0, 1) := by decide +kernel
theorem dX12_init_63 : decode cX12_init 63 = .ok (.bipush 112, 2) := by decide +kernel
theorem dX12_init_65 : decode cX12_init 65 = .ok (.newarray .int, 2) := by decide +kernel
theorem dX12_init_67 : decode cX12_init 67 = .ok (.putfield 31, 3) := by decide +kernel
theorem dX12_init_70 : decode cX12_init 70 = .ok (.aload_n 0, 1) := by decide +kernel
theorem dX12_init_71 : decode cX12_init 71 = .ok (.bipush 36, 2) := by decide +kernel
theorem dX12_init_73 : decode cX12_init 73 = .ok (.newarray .int, 2) := by decide +kernel
theorem dX12_init_75 : decode cX12_init 75 = .ok (.putfield 34, 3) := by decide +kernel
theorem dX12_init_78 : decode cX12_init 78 = .ok (.aload_n 0, 1) := by decide +kernel
theorem dX12_init_79 : decode cX12_init 79 = .ok (.sipush 250, 3) := by decide +kernel
theorem dX12_init_82 : decode cX12_init 82 = .ok (.newarray .int, 2) := by decide +kernel
theorem dX12_init_84 : decode cX12_init 84 = .ok (.putfield 37, 3) := by decide +kernel
theorem dX12_init_87 : decode cX12_init 87 = .ok (.aload_n 0, 1) := by decide +kernel
theorem dX12_init_88 : decode cX12_init 88 = .ok (.bipush 84, 2) := by decide +kernel
theorem dX12_init_90 : decode cX12_init 90 = .ok (.newarray .int, 2) := by decide +kernel
theorem dX12_init_92 : decode cX12_init 92 = .ok (.putfield 40, 3) := by decide +kernel
theorem dX12_init_95 : decode cX12_init 95 = .ok (.aload_n 0, 1) := by decide +kernel
theorem dX12_init_96 : decode cX12_init 96 = .ok (.sipush 260, 3) := by decide +kernel
theorem dX12_init_99 : decode cX12_init 99 = .ok (.newarray .int, 2) := by decide +kernel
theorem dX12_init_101 : decode cX12_init 101 = .ok (.putfield 43, 3) := by decide +kernel
theorem dX12_init_104 : decode cX12_init 104 = .ok (.aload_n 0, 1) := by decide +kernel
theorem dX12_init_105 : decode cX12_init 105 = .ok (.sipush 260, 3) := by decide +kernel
theorem dX12_init_108 : decode cX12_init 108 = .ok (.newarray .int, 2) := by decide +kernel
theorem dX12_init_110 : decode cX12_init 110 = .ok (.putfield 46, 3) := by decide +kernel
theorem dX12_init_113 : decode cX12_init 113 = .ok (.aload_n 0, 1) := by decide +kernel
theorem dX12_init_114 : decode cX12_init 114 = .ok (.bipush 7, 2) := by decide +kernel
theorem dX12_init_116 : decode cX12_init 116 = .ok (.newarray .int, 2) := by decide +kernel
theorem dX12_init_118 : decode cX12_init 118 = .ok (.dup, 1) := by decide +kernel
theorem dX12_init_119 : decode cX12_init 119 = .ok (.iconst 0, 1) := by decide +kernel
theorem dX12_init_120 : decode cX12_init 120 = .ok (.bipush 112, 2) := by decide +kernel
theorem dX12_init_122 : decode cX12_init 122 = .ok (.iastore, 1) := by decide +kernel
theorem dX12_init_123 : decode cX12_init 123 = .ok (.dup, 1) := by decide +kernel
theorem dX12_init_124 : decode cX12_init 124 = .ok (.iconst 1, 1) := by decide +kernel
theorem dX12_init_125 : decode cX12_init 125 = .ok (.bipush 108, 2) := by decide +kernel
theorem dX12_init_127 : decode cX12_init 127 = .ok (.iastore, 1) := by decide +kernel
theorem dX12_init_128 : decode cX12_init 128 = .ok (.dup, 1) := by decide +kernel
theorem dX12_init_129 : decode cX12_init 129 = .ok (.iconst 2, 1) := by decide +kernel
theorem dX12_init_130 : decode cX12_init 130 = .ok (.bipush 101, 2) := by decide +kernel
theorem dX12_init_132 : decode cX12_init 132 = .ok (.iastore, 1) := by decide +kernel
theorem dX12_init_133 : decode cX12_init 133 = .ok (.dup, 1) := by decide +kernel
theorem dX12_init_134 : decode cX12_init 134 = .ok (.iconst 3, 1) := by decide +kernel
theorem dX12_init_135 : decode cX12_init 135 = .ok (.bipush 97, 2) := by decide +kernel
theorem dX12_init_137 : decode cX12_init 137 = .ok (.iastore, 1) := by decide +kernel
theorem dX12_init_138 : decode cX12_init 138 = .ok (.dup, 1) := by decide +kernel
theorem dX12_init_139 : decode cX12_init 139 = .ok (.iconst 4, 1) := by decide +kernel
theorem dX12_init_140 : decode cX12_init 140 = .ok (.bipush 100, 2) := by decide +kernel
theorem dX12_init_142 : decode cX12_init 142 = .ok (.iastore, 1) := by decide +kernel
theorem dX12_init_143 : decode cX12_init 143 = .ok (.dup, 1) := by decide +kernel
theorem dX12_init_144 : decode cX12_init 144 = .ok (.iconst 5, 1) := by decide +kernel
theorem dX12_init_145 : decode cX12_init 145 = .ok (.bipush 101, 2) := by decide +kernel
theorem dX12_init_147 : decode cX12_init 147 = .ok (.iastore, 1) := by decide +kernel
theorem dX12_init_148 : decode cX12_init 148 = .ok (.dup, 1) := by decide +kernel
theorem dX12_init_149 : decode cX12_init 149 = .ok (.bipush 6, 2) := by decide +kernel
theorem dX12_init_151 : decode cX12_init 151 = .ok (.bipush 100, 2) := by decide +kernel
theorem dX12_init_153 : decode cX12_init 153 = .ok (.iastore, 1) := by decide +kernel
theorem dX12_init_154 : decode cX12_init 154 = .ok (.putfield 49, 3) := by decide +kernel
theorem dX12_init_157 : decode cX12_init 157 = .ok (.aload_n 0, 1) := by decide +kernel
theorem dX12_init_158 : decode cX12_init 158 = .ok (.sipush 260, 3) := by decide +kernel
theorem dX12_init_161 : decode cX12_init 161 = .ok (.newarray .int, 2) := by decide +kernel
theorem dX12_init_163 : decode cX12_init 163 = .ok (.putfield 52, 3) := by decide +kernel
theorem dX12_init_166 : decode cX12_init 166 = .ok (.aload_n 0, 1) := by decide +kernel
theorem dX12_init_167 : decode cX12_init 167 = .ok (.bipush 16, 2) := by decide +kernel
theorem dX12_init_169 : decode cX12_init 169 = .ok (.newarray .int, 2) := by decide +kernel
theorem dX12_init_171 : decode cX12_init 171 = .ok (.putfield 55, 3) := by decide +kernel
theorem dX12_init_174 : decode cX12_init 174 = .ok (.aload_n 0, 1) := by decide +kernel
theorem dX12_init_175 : decode cX12_init 175 = .ok (.bipush 16, 2) := by decide +kernel
theorem dX12_init_177 : decode cX12_init 177 = .ok (.newarray .int, 2) := by decide +kernel
theorem dX12_init_179 : decode cX12_init 179 = .ok (.putfield 58, 3) := by decide +kernel
theorem dX12_init_182 : decode cX12_init 182 = .ok (.aload_n 0, 1) := by decide +kernel
theorem dX12_init_183 : decode cX12_init 183 = .ok (.bipush 16, 2) := by decide +kernel
theorem dX12_init_185 : decode cX12_init 185 = .ok (.newarray .int, 2) := by decide +kernel
theorem dX12_init_187 : decode cX12_init 187 = .ok (.putfield 61, 3) := by decide +kernel
theorem dX12_init_190 : decode cX12_init 190 = .ok (.aload_n 0, 1) := by decide +kernel
theorem dX12_init_191 : decode cX12_init 191 = .ok (.bipush 48, 2) := by decide +kernel
theorem dX12_init_193 : decode cX12_init 193 = .ok (.newarray .int, 2) := by decide +kernel
theorem dX12_init_195 : decode cX12_init 195 = .ok (.putfield 64, 3) := by decide +kernel
theorem dX12_init_198 : decode cX12_init 198 = .ok (.aload_n 0, 1) := by decide +kernel
theorem dX12_init_199 : decode cX12_init 199 = .ok (.ldc 67, 2) := by decide +kernel
theorem dX12_init_201 : decode cX12_init 201 = .ok (.newarray .int, 2) := by decide +kernel
theorem dX12_init_203 : decode cX12_init 203 = .ok (.putfield 68, 3) := by decide +kernel
theorem dX12_init_206 : decode cX12_init 206 = .ok (.aload_n 0, 1) := by decide +kernel
theorem dX12_init_207 : decode cX12_init 207 = .ok (.iconst 4, 1) := by decide +kernel
theorem dX12_init_208 : decode cX12_init 208 = .ok (.newarray .int, 2) := by decide +kernel
theorem dX12_init_210 : decode cX12_init 210 = .ok (.dup, 1) := by decide +kernel
theorem dX12_init_211 : decode cX12_init 211 = .ok (.iconst 0, 1) := by decide +kernel
theorem dX12_init_212 : decode cX12_init 212 = .ok (.iconst (-1), 1) := by decide +kernel
theorem dX12_init_213 : decode cX12_init 213 = .ok (.iastore, 1) := by decide +kernel
theorem dX12_init_214 : decode cX12_init 214 = .ok (.dup, 1) := by decide +kernel
theorem dX12_init_215 : decode cX12_init 215 = .ok (.iconst 1, 1) := by decide +kernel
theorem dX12_init_216 : decode cX12_init 216 = .ok (.iconst (-1), 1) := by decide +kernel
theorem dX12_init_217 : decode cX12_init 217 = .ok (.iastore, 1) := by decide +kernel
theorem dX12_init_218 : decode cX12_init 218 = .ok (.dup, 1) := by decide +kernel
theorem dX12_init_219 : decode cX12_init 219 = .ok (.iconst 2, 1) := by decide +kernel
theorem dX12_init_220 : decode cX12_init 220 = .ok (.iconst (-1), 1) := by decide +kernel
theorem dX12_init_221 : decode cX12_init 221 = .ok (.iastore, 1) := by decide +kernel
theorem dX12_init_222 : decode cX12_init 222 = .ok (.dup, 1) := by decide +kernel
theorem dX12_init_223 : decode cX12_init 223 = .ok (.iconst 3, 1) := by decide +kernel
theorem dX12_init_224 : decode cX12_init 224 = .ok (.iconst (-1), 1) := by decide +kernel
theorem dX12_init_225 : decode cX12_init 225 = .ok (.iastore, 1) := by decide +kernel
theorem dX12_init_226 : decode cX12_init 226 = .ok (.putfield 71, 3) := by decide +kernel
theorem dX12_init_229 : decode cX12_init 229 = .ok (.aload_n 0, 1) := by decide +kernel
theorem dX12_init_230 : decode cX12_init 230 = .ok (.iconst 4, 1) := by decide +kernel
theorem dX12_init_231 : decode cX12_init 231 = .ok (.newarray .int, 2) := by decide +kernel
theorem dX12_init_233 : decode cX12_init 233 = .ok (.putfield 74, 3) := by decide +kernel
theorem dX12_init_236 : decode cX12_init 236 = .ok (.aload_n 0, 1) := by decide +kernel
theorem dX12_init_237 : decode cX12_init 237 = .ok (.sipush 160, 3) := by decide +kernel
theorem dX12_init_240 : decode cX12_init 240 = .ok (.newarray .int, 2) := by decide +kernel
theorem dX12_init_242 : decode cX12_init 242 = .ok (.putfield 77, 3) := by decide +kernel
theorem dX12_init_245 : decode cX12_init 245 = .ok (.aload_n 0, 1) := by decide +kernel
theorem dX12_init_246 : decode cX12_init 246 = .ok (.iconst 4, 1) := by decide +kernel
theorem dX12_init_247 : decode cX12_init 247 = .ok (.newarray .int, 2) := by decide +kernel
theorem dX12_init_249 : decode cX12_init 249 = .ok (.dup, 1) := by decide +kernel
theorem dX12_init_250 : decode cX12_init 250 = .ok (.iconst 0, 1) := by decide +kernel
theorem dX12_init_251 : decode cX12_init 251 = .ok (.iconst (-1), 1) := by decide +kernel
theorem dX12_init_252 : decode cX12_init 252 = .ok (.iastore, 1) := by decide +kernel
theorem dX12_init_253 : decode cX12_init 253 = .ok (.dup, 1) := by decide +kernel
theorem dX12_init_254 : decode cX12_init 254 = .ok (.iconst 1, 1) := by decide +kernel
theorem dX12_init_255 : decode cX12_init 255 = .ok (.iconst (-1), 1) := by decide +kernel
theorem dX12_init_256 : decode cX12_init 256 = .ok (.iastore, 1) := by decide +kernel
theorem dX12_init_257 : decode cX12_init 257 = .ok (.dup, 1) := by decide +kernel
theorem dX12_init_258 : decode cX12_init 258 = .ok (.iconst 2, 1) := by decide +kernel
theorem dX12_init_259 : decode cX12_init 259 = .ok (.iconst (-1), 1) := by decide +kernel
theorem dX12_init_260 : decode cX12_init 260 = .ok (.iastore, 1) := by decide +kernel
theorem dX12_init_261 : decode cX12_init 261 = .ok (.dup, 1) := by decide +kernel
theorem dX12_init_262 : decode cX12_init 262 = .ok (.iconst 3, 1) := by decide +kernel
theorem dX12_init_263 : decode cX12_init 263 = .ok (.iconst (-1), 1) := by decide +kernel
theorem dX12_init_264 : decode cX12_init 264 = .ok (.iastore, 1) := by decide +kernel
theorem dX12_init_265 : decode cX12_init 265 = .ok (.putfield 80, 3) := by decide +kernel
theorem dX12_init_268 : decode cX12_init 268 = .ok (.aload_n 0, 1) := by decide +kernel
theorem dX12_init_269 : decode cX12_init 269 = .ok (.iconst 4, 1) := by decide +kernel
theorem dX12_init_270 : decode cX12_init 270 = .ok (.newarray .int, 2) := by decide +kernel
theorem dX12_init_272 : decode cX12_init 272 = .ok (.putfield 83, 3) := by decide +kernel
theorem dX12_init_275 : decode cX12_init 275 = .ok (.aload_n 0, 1) := by decide +kernel
theorem dX12_init_276 : decode cX12_init 276 = .ok (.iconst 4, 1) := by decide +kernel
theorem dX12_init_277 : decode cX12_init 277 = .ok (.newarray .int, 2) := by decide +kernel
theorem dX12_init_279 : decode cX12_init 279 = .ok (.putfield 86, 3) := by decide +kernel
theorem dX12_init_282 : decode cX12_init 282 = .ok (.aload_n 0, 1) := by decide +kernel
theorem dX12_init_283 : decode cX12_init 283 = .ok (.bipush 30, 2) := by decide +kernel
theorem dX12_init_285 : decode cX12_init 285 = .ok (.newarray .int, 2) := by decide +kernel
theorem dX12_init_287 : decode cX12_init 287 = .ok (.putfield 89, 3) := by decide +kernel
theorem dX12_init_290 : decode cX12_init 290 = .ok (.aload_n 0, 1) := by decide +kernel
theorem dX12_init_291 : decode cX12_init 291 = .ok (.sipush 2400, 3) := by decide +kernel
theorem dX12_init_294 : decode cX12_init 294 = .ok (.newarray .int, 2) := by decide +kernel
theorem dX12_init_296 : decode cX12_init 296 = .ok (.putfield 92, 3) := by decide +kernel
theorem dX12_init_299 : decode cX12_init 299 = .ok (.return_, 1) := by decide +kernel
theorem dX12_in_0 : decode cX12_in 0 = .ok (.iload_n 0, 1) := by decide +kernel
theorem dX12_in_1 : decode cX12_in 1 = .ok (.iload_n 1, 1) := by decide +kernel
theorem dX12_in_2 : decode cX12_in 2 = .ok (.if_icmp .lt 12, 3) := by decide +kernel
theorem dX12_in_5 : decode cX12_in 5 = .ok (.iload_n 0, 1) := by decide +kernel
theorem dX12_in_6 : decode cX12_in 6 = .ok (.iload_n 2, 1) := by decide +kernel
theorem dX12_in_7 : decode cX12_in 7 = .ok (.if_icmp .gt 7, 3) := by decide +kernel
theorem dX12_in_10 : decode cX12_in 10 = .ok (.iconst 1, 1) := by decide +kernel
theorem dX12_in_11 : decode cX12_in 11 = .ok (.goto 4, 3) := by decide +kernel
theorem dX12_in_14 : decode cX12_in 14 = .ok (.iconst 0, 1) := by decide +kernel
theorem dX12_in_15 : decode cX12_in 15 = .ok (.ireturn, 1) := by decide +kernel
theorem dX12_isDay_0 : decode cX12_isDay 0 = .ok (.iload_n 0, 1) := by decide +kernel
theorem dX12_isDay_1 : decode cX12_isDay 1 = .ok (.iconst 0, 1) := by decide +kernel
theorem dX12_isDay_2 : decode cX12_isDay 2 = .ok (.sipush 9999, 3) := by decide +kernel
theorem dX12_isDay_5 : decode cX12_isDay 5 = .ok (.invokestatic 95, 3) := by decide +kernel
theorem dX12_isDay_8 : decode cX12_isDay 8 = .ok (.ireturn, 1) := by decide +kernel
theorem dX12_isPerson_0 : decode cX12_isPerson 0 = .ok (.iload_n 1, 1) := by decide +kernel
theorem dX12_isPerson_1 : decode cX12_isPerson 1 = .ok (.iconst 0, 1) := by decide +kernel
theorem dX12_isPerson_2 : decode cX12_isPerson 2 = .ok (.aload_n 0, 1) := by decide +kernel
theorem dX12_isPerson_3 : decode cX12_isPerson 3 = .ok (.getfield 7, 3) := by decide +kernel
theorem dX12_isPerson_6 : decode cX12_isPerson 6 = .ok (.iconst 1, 1) := by decide +kernel
theorem dX12_isPerson_7 : decode cX12_isPerson 7 = .ok (.iaload, 1) := by decide +kernel
theorem dX12_isPerson_8 : decode cX12_isPerson 8 = .ok (.iconst 1, 1) := by decide +kernel
theorem dX12_isPerson_9 : decode cX12_isPerson 9 = .ok (.isub, 1) := by decide +kernel
theorem dX12_isPerson_10 : decode cX12_isPerson 10 = .ok (.invokestatic 95, 3) := by decide +kernel
theorem dX12_isPerson_13 : decode cX12_isPerson 13 = .ok (.ireturn, 1) := by decide +kernel
theorem dX12_isDeed_0 : decode cX12_isDeed 0 = .ok (.iload_n 1, 1) := by decide +kernel
theorem dX12_isDeed_1 : decode cX12_isDeed 1 = .ok (.iconst 0, 1) := by decide +kernel
theorem dX12_isDeed_2 : decode cX12_isDeed 2 = .ok (.aload_n 0, 1) := by decide +kernel
theorem dX12_isDeed_3 : decode cX12_isDeed 3 = .ok (.getfield 7, 3) := by decide +kernel
theorem dX12_isDeed_6 : decode cX12_isDeed 6 = .ok (.iconst 2, 1) := by decide +kernel
theorem dX12_isDeed_7 : decode cX12_isDeed 7 = .ok (.iaload, 1) := by decide +kernel
theorem dX12_isDeed_8 : decode cX12_isDeed 8 = .ok (.iconst 1, 1) := by decide +kernel
theorem dX12_isDeed_9 : decode cX12_isDeed 9 = .ok (.isub, 1) := by decide +kernel
theorem dX12_isDeed_10 : decode cX12_isDeed 10 = .ok (.invokestatic 95, 3) := by decide +kernel
theorem dX12_isDeed_13 : decode cX12_isDeed 13 = .ok (.ireturn, 1) := by decide +kernel
theorem dX12_isVersion_0 : decode cX12_isVersion 0 = .ok (.iload_n 1, 1) := by decide +kernel
theorem dX12_isVersion_1 : decode cX12_isVersion 1 = .ok (.iconst 0, 1) := by decide +kernel
theorem dX12_isVersion_2 : decode cX12_isVersion 2 = .ok (.aload_n 0, 1) := by decide +kernel
theorem dX12_isVersion_3 : decode cX12_isVersion 3 = .ok (.getfield 7, 3) := by decide +kernel
theorem dX12_isVersion_6 : decode cX12_isVersion 6 = .ok (.iconst 4, 1) := by decide +kernel
theorem dX12_isVersion_7 : decode cX12_isVersion 7 = .ok (.iaload, 1) := by decide +kernel
theorem dX12_isVersion_8 : decode cX12_isVersion 8 = .ok (.iconst 1, 1) := by decide +kernel
theorem dX12_isVersion_9 : decode cX12_isVersion 9 = .ok (.isub, 1) := by decide +kernel
theorem dX12_isVersion_10 : decode cX12_isVersion 10 = .ok (.invokestatic 95, 3) := by decide +kernel
theorem dX12_isVersion_13 : decode cX12_isVersion 13 = .ok (.ireturn, 1) := by decide +kernel
theorem dX12_isTerm_0 : decode cX12_isTerm 0 = .ok (.iload_n 1, 1) := by decide +kernel
theorem dX12_isTerm_1 : decode cX12_isTerm 1 = .ok (.iconst 0, 1) := by decide +kernel
theorem dX12_isTerm_2 : decode cX12_isTerm 2 = .ok (.aload_n 0, 1) := by decide +kernel
theorem dX12_isTerm_3 : decode cX12_isTerm 3 = .ok (.getfield 7, 3) := by decide +kernel
theorem dX12_isTerm_6 : decode cX12_isTerm 6 = .ok (.iconst 5, 1) := by decide +kernel
theorem dX12_isTerm_7 : decode cX12_isTerm 7 = .ok (.iaload, 1) := by decide +kernel
theorem dX12_isTerm_8 : decode cX12_isTerm 8 = .ok (.iconst 1, 1) := by decide +kernel
theorem dX12_isTerm_9 : decode cX12_isTerm 9 = .ok (.isub, 1) := by decide +kernel
theorem dX12_isTerm_10 : decode cX12_isTerm 10 = .ok (.invokestatic 95, 3) := by decide +kernel
theorem dX12_isTerm_13 : decode cX12_isTerm 13 = .ok (.ireturn, 1) := by decide +kernel
theorem dX12_of_0 : decode cX12_of 0 = .ok (.aload_n 0, 1) := by decide +kernel
theorem dX12_of_1 : decode cX12_of 1 = .ok (.getfield 31, 3) := by decide +kernel
theorem dX12_of_4 : decode cX12_of 4 = .ok (.bipush 7, 2) := by decide +kernel
theorem dX12_of_6 : decode cX12_of 6 = .ok (.iload_n 1, 1) := by decide +kernel
theorem dX12_of_7 : decode cX12_of 7 = .ok (.imul, 1) := by decide +kernel
theorem dX12_of_8 : decode cX12_of 8 = .ok (.iload_n 2, 1) := by decide +kernel
theorem dX12_of_9 : decode cX12_of 9 = .ok (.iadd, 1) := by decide +kernel
theorem dX12_of_10 : decode cX12_of 10 = .ok (.iaload, 1) := by decide +kernel
theorem dX12_of_11 : decode cX12_of 11 = .ok (.ireturn, 1) := by decide +kernel
theorem dX12_whose_0 : decode cX12_whose 0 = .ok (.aload_n 0, 1) := by decide +kernel
theorem dX12_whose_1 : decode cX12_whose 1 = .ok (.getfield 16, 3) := by decide +kernel
theorem dX12_whose_4 : decode cX12_whose 4 = .ok (.iconst 3, 1) := by decide +kernel
theorem dX12_whose_5 : decode cX12_whose 5 = .ok (.aload_n 0, 1) := by decide +kernel
theorem dX12_whose_6 : decode cX12_whose 6 = .ok (.iload_n 1, 1) := by decide +kernel
theorem dX12_whose_7 : decode cX12_whose 7 = .ok (.iconst 0, 1) := by decide +kernel
theorem dX12_whose_8 : decode cX12_whose 8 = .ok (.invokevirtual 99, 3) := by decide +kernel
theorem dX12_whose_11 : decode cX12_whose 11 = .ok (.imul, 1) := by decide +kernel
theorem dX12_whose_12 : decode cX12_whose 12 = .ok (.iaload, 1) := by decide +kernel
theorem dX12_whose_13 : decode cX12_whose 13 = .ok (.ireturn, 1) := by decide +kernel
theorem dX12_orNone_0 : decode cX12_orNone 0 = .ok (.iload_n 0, 1) := by decide +kernel
theorem dX12_orNone_1 : decode cX12_orNone 1 = .ok (.ifCond .ge 8, 3) := by decide +kernel
theorem dX12_orNone_4 : decode cX12_orNone 4 = .ok (.bipush (-3), 2) := by decide +kernel
theorem dX12_orNone_6 : decode cX12_orNone 6 = .ok (.goto 4, 3) := by decide +kernel
theorem dX12_orNone_9 : decode cX12_orNone 9 = .ok (.iload_n 0, 1) := by decide +kernel
theorem dX12_orNone_10 : decode cX12_orNone 10 = .ok (.ireturn, 1) := by decide +kernel
theorem dX12_days_0 : decode cX12_days 0 = .ok (.iload_n 1, 1) := by decide +kernel
theorem dX12_days_1 : decode cX12_days 1 = .ok (.iconst 1, 1) := by decide +kernel
theorem dX12_days_2 : decode cX12_days 2 = .ok (.sipush 2000, 3) := by decide +kernel
theorem dX12_days_5 : decode cX12_days 5 = .ok (.invokestatic 95, 3) := by decide +kernel
theorem dX12_days_8 : decode cX12_days 8 = .ok (.ifCond .ne 5, 3) := by decide +kernel
theorem dX12_days_11 : decode cX12_days 11 = .ok (.iconst (-1), 1) := by decide +kernel
theorem dX12_days_12 : decode cX12_days 12 = .ok (.ireturn, 1) := by decide +kernel
theorem dX12_days_13 : decode cX12_days 13 = .ok (.aload_n 0, 1) := by decide +kernel
theorem dX12_days_14 : decode cX12_days 14 = .ok (.getfield 7, 3) := by decide +kernel
theorem dX12_days_17 : decode cX12_days 17 = .ok (.iconst 0, 1) := by decide +kernel
theorem dX12_days_18 : decode cX12_days 18 = .ok (.iaload, 1) := by decide +kernel
theorem dX12_days_19 : decode cX12_days 19 = .ok (.iload_n 1, 1) := by decide +kernel
theorem dX12_days_20 : decode cX12_days 20 = .ok (.iadd, 1) := by decide +kernel
theorem dX12_days_21 : decode cX12_days 21 = .ok (.sipush 9999, 3) := by decide +kernel
theorem dX12_days_24 : decode cX12_days 24 = .ok (.if_icmp .le 6, 3) := by decide +kernel
theorem dX12_days_27 : decode cX12_days 27 = .ok (.bipush (-4), 2) := by decide +kernel
theorem dX12_days_29 : decode cX12_days 29 = .ok (.ireturn, 1) := by decide +kernel
theorem dX12_days_30 : decode cX12_days 30 = .ok (.aload_n 0, 1) := by decide +kernel
theorem dX12_days_31 : decode cX12_days 31 = .ok (.getfield 7, 3) := by decide +kernel
theorem dX12_days_34 : decode cX12_days 34 = .ok (.iconst 0, 1) := by decide +kernel
theorem dX12_days_35 : decode cX12_days 35 = .ok (.dup2, 1) := by decide +kernel
theorem dX12_days_36 : decode cX12_days 36 = .ok (.iaload, 1) := by decide +kernel
theorem dX12_days_37 : decode cX12_days 37 = .ok (.iload_n 1, 1) := by decide +kernel
theorem dX12_days_38 : decode cX12_days 38 = .ok (.iadd, 1) := by decide +kernel
theorem dX12_days_39 : decode cX12_days 39 = .ok (.iastore, 1) := by decide +kernel
theorem dX12_days_40 : decode cX12_days 40 = .ok (.aload_n 0, 1) := by decide +kernel
theorem dX12_days_41 : decode cX12_days 41 = .ok (.getfield 7, 3) := by decide +kernel
theorem dX12_days_44 : decode cX12_days 44 = .ok (.iconst 0, 1) := by decide +kernel
theorem dX12_days_45 : decode cX12_days 45 = .ok (.iaload, 1) := by decide +kernel
theorem dX12_days_46 : decode cX12_days 46 = .ok (.ireturn, 1) := by decide +kernel
theorem dX12_person_0 : decode cX12_person 0 = .ok (.iload_n 1, 1) := by decide +kernel
theorem dX12_person_1 : decode cX12_person 1 = .ok (.iconst 0, 1) := by decide +kernel
theorem dX12_person_2 : decode cX12_person 2 = .ok (.bipush 90, 2) := by decide +kernel
theorem dX12_person_4 : decode cX12_person 4 = .ok (.invokestatic 95, 3) := by decide +kernel
theorem dX12_person_7 : decode cX12_person 7 = .ok (.ifCond .eq 14, 3) := by decide +kernel
theorem dX12_person_10 : decode cX12_person 10 = .ok (.iload_n 2, 1) := by decide +kernel
theorem dX12_person_11 : decode cX12_person 11 = .ok (.iconst 0, 1) := by decide +kernel
theorem dX12_person_12 : decode cX12_person 12 = .ok (.sipush 359, 3) := by decide +kernel
theorem dX12_person_15 : decode cX12_person 15 = .ok (.invokestatic 95, 3) := by decide +kernel
theorem dX12_person_18 : decode cX12_person 18 = .ok (.ifCond .ne 5, 3) := by decide +kernel
theorem dX12_person_21 : decode cX12_person 21 = .ok (.iconst (-1), 1) := by decide +kernel
theorem dX12_person_22 : decode cX12_person 22 = .ok (.ireturn, 1) := by decide +kernel
theorem dX12_person_23 : decode cX12_person 23 = .ok (.aload_n 0, 1) := by decide +kernel
theorem dX12_person_24 : decode cX12_person 24 = .ok (.getfield 7, 3) := by decide +kernel
theorem dX12_person_27 : decode cX12_person 27 = .ok (.iconst 1, 1) := by decide +kernel
theorem dX12_person_28 : decode cX12_person 28 = .ok (.iaload, 1) := by decide +kernel
theorem dX12_person_29 : decode cX12_person 29 = .ok (.istore_n 3, 1) := by decide +kernel
theorem dX12_person_30 : decode cX12_person 30 = .ok (.iload_n 3, 1) := by decide +kernel
theorem dX12_person_31 : decode cX12_person 31 = .ok (.bipush 8, 2) := by decide +kernel
theorem dX12_person_33 : decode cX12_person 33 = .ok (.if_icmp .ne 6, 3) := by decide +kernel
theorem dX12_person_36 : decode cX12_person 36 = .ok (.bipush (-2), 2) := by decide +kernel
theorem dX12_person_38 : decode cX12_person 38 = .ok (.ireturn, 1) := by decide +kernel
theorem dX12_person_39 : decode cX12_person 39 = .ok (.aload_n 0, 1) := by decide +kernel
theorem dX12_person_40 : decode cX12_person 40 = .ok (.getfield 13, 3) := by decide +kernel
theorem dX12_person_43 : decode cX12_person 43 = .ok (.iconst 2, 1) := by decide +kernel
theorem dX12_person_44 : decode cX12_person 44 = .ok (.iload_n 3, 1) := by decide +kernel
theorem dX12_person_45 : decode cX12_person 45 = .ok (.imul, 1) := by decide +kernel
theorem dX12_person_46 : decode cX12_person 46 = .ok (.sipush 360, 3) := by decide +kernel
theorem dX12_person_49 : decode cX12_person 49 = .ok (.iload_n 1, 1) := by decide +kernel
theorem dX12_person_50 : decode cX12_person 50 = .ok (.imul, 1) := by decide +kernel
theorem dX12_person_51 : decode cX12_person 51 = .ok (.iload_n 2, 1) := by decide +kernel
theorem dX12_person_52 : decode cX12_person 52 = .ok (.iadd, 1) := by decide +kernel
theorem dX12_person_53 : decode cX12_person 53 = .ok (.iastore, 1) := by decide +kernel
theorem dX12_person_54 : decode cX12_person 54 = .ok (.aload_n 0, 1) := by decide +kernel
theorem dX12_person_55 : decode cX12_person 55 = .ok (.getfield 13, 3) := by decide +kernel
theorem dX12_person_58 : decode cX12_person 58 = .ok (.iconst 2, 1) := by decide +kernel
theorem dX12_person_59 : decode cX12_person 59 = .ok (.iload_n 3, 1) := by decide +kernel
theorem dX12_person_60 : decode cX12_person 60 = .ok (.imul, 1) := by decide +kernel
theorem dX12_person_61 : decode cX12_person 61 = .ok (.iconst 1, 1) := by decide +kernel
theorem dX12_person_62 : decode cX12_person 62 = .ok (.iadd, 1) := by decide +kernel
theorem dX12_person_63 : decode cX12_person 63 = .ok (.iconst 0, 1) := by decide +kernel
theorem dX12_person_64 : decode cX12_person 64 = .ok (.iastore, 1) := by decide +kernel
theorem dX12_person_65 : decode cX12_person 65 = .ok (.aload_n 0, 1) := by decide +kernel
theorem dX12_person_66 : decode cX12_person 66 = .ok (.getfield 7, 3) := by decide +kernel
theorem dX12_person_69 : decode cX12_person 69 = .ok (.iconst 1, 1) := by decide +kernel
theorem dX12_person_70 : decode cX12_person 70 = .ok (.dup2, 1) := by decide +kernel
theorem dX12_person_71 : decode cX12_person 71 = .ok (.iaload, 1) := by decide +kernel
theorem dX12_person_72 : decode cX12_person 72 = .ok (.iconst 1, 1) := by decide +kernel
theorem dX12_person_73 : decode cX12_person 73 = .ok (.iadd, 1) := by decide +kernel
theorem dX12_person_74 : decode cX12_person 74 = .ok (.iastore, 1) := by decide +kernel
theorem dX12_person_75 : decode cX12_person 75 = .ok (.iload_n 3, 1) := by decide +kernel
theorem dX12_person_76 : decode cX12_person 76 = .ok (.ireturn, 1) := by decide +kernel
theorem dX12_ageOn_0 : decode cX12_ageOn 0 = .ok (.aload_n 0, 1) := by decide +kernel
theorem dX12_ageOn_1 : decode cX12_ageOn 1 = .ok (.getfield 13, 3) := by decide +kernel
theorem dX12_ageOn_4 : decode cX12_ageOn 4 = .ok (.iconst 2, 1) := by decide +kernel
theorem dX12_ageOn_5 : decode cX12_ageOn 5 = .ok (.iload_n 1, 1) := by decide +kernel
theorem dX12_ageOn_6 : decode cX12_ageOn 6 = .ok (.imul, 1) := by decide +kernel
theorem dX12_ageOn_7 : decode cX12_ageOn 7 = .ok (.iaload, 1) := by decide +kernel
theorem dX12_ageOn_8 : decode cX12_ageOn 8 = .ok (.iload_n 2, 1) := by decide +kernel
theorem dX12_ageOn_9 : decode cX12_ageOn 9 = .ok (.iadd, 1) := by decide +kernel
theorem dX12_ageOn_10 : decode cX12_ageOn 10 = .ok (.sipush 360, 3) := by decide +kernel
theorem dX12_ageOn_13 : decode cX12_ageOn 13 = .ok (.idiv, 1) := by decide +kernel
theorem dX12_ageOn_14 : decode cX12_ageOn 14 = .ok (.ireturn, 1) := by decide +kernel
theorem dX12_age_0 : decode cX12_age 0 = .ok (.aload_n 0, 1) := by decide +kernel
theorem dX12_age_1 : decode cX12_age 1 = .ok (.iload_n 1, 1) := by decide +kernel
theorem dX12_age_2 : decode cX12_age 2 = .ok (.invokevirtual 103, 3) := by decide +kernel
theorem dX12_age_5 : decode cX12_age 5 = .ok (.ifCond .eq 19, 3) := by decide +kernel
theorem dX12_age_8 : decode cX12_age 8 = .ok (.iload_n 2, 1) := by decide +kernel
theorem dX12_age_9 : decode cX12_age 9 = .ok (.invokestatic 107, 3) := by decide +kernel
theorem dX12_age_12 : decode cX12_age 12 = .ok (.ifCond .eq 12, 3) := by decide +kernel
theorem dX12_age_15 : decode cX12_age 15 = .ok (.aload_n 0, 1) := by decide +kernel
theorem dX12_age_16 : decode cX12_age 16 = .ok (.iload_n 1, 1) := by decide +kernel
theorem dX12_age_17 : decode cX12_age 17 = .ok (.iload_n 2, 1) := by decide +kernel
theorem dX12_age_18 : decode cX12_age 18 = .ok (.invokevirtual 110, 3) := by decide +kernel
theorem dX12_age_21 : decode cX12_age 21 = .ok (.goto 4, 3) := by decide +kernel
theorem dX12_age_24 : decode cX12_age 24 = .ok (.iconst (-1), 1) := by decide +kernel
theorem dX12_age_25 : decode cX12_age 25 = .ok (.ireturn, 1) := by decide +kernel
theorem dX12_deed_0 : decode cX12_deed 0 = .ok (.aload_n 0, 1) := by decide +kernel
theorem dX12_deed_1 : decode cX12_deed 1 = .ok (.iload_n 1, 1) := by decide +kernel
theorem dX12_deed_2 : decode cX12_deed 2 = .ok (.invokevirtual 103, 3) := by decide +kernel
theorem dX12_deed_5 : decode cX12_deed 5 = .ok (.ifCond .eq 26, 3) := by decide +kernel
theorem dX12_deed_8 : decode cX12_deed 8 = .ok (.iload_n 2, 1) := by decide +kernel
theorem dX12_deed_9 : decode cX12_deed 9 = .ok (.iconst 0, 1) := by decide +kernel
theorem dX12_deed_10 : decode cX12_deed 10 = .ok (.iconst 5, 1) := by decide +kernel
theorem dX12_deed_11 : decode cX12_deed 11 = .ok (.invokestatic 95, 3) := by decide +kernel
theorem dX12_deed_14 : decode cX12_deed 14 = .ok (.ifCond .eq 17, 3) := by decide +kernel
theorem dX12_deed_17 : decode cX12_deed 17 = .ok (.iload_n 3, 1) := by decide +kernel
theorem dX12_deed_18 : decode cX12_deed 18 = .ok (.iconst 0, 1) := by decide +kernel
theorem dX12_deed_19 : decode cX12_deed 19 = .ok (.aload_n 0, 1) := by decide +kernel
theorem dX12_deed_20 : decode cX12_deed 20 = .ok (.getfield 7, 3) := by decide +kernel
theorem dX12_deed_23 : decode cX12_deed 23 = .ok (.iconst 0, 1) := by decide +kernel
theorem dX12_deed_24 : decode cX12_deed 24 = .ok (.iaload, 1) := by decide +kernel
theorem dX12_deed_25 : decode cX12_deed 25 = .ok (.invokestatic 95, 3) := by decide +kernel
theorem dX12_deed_28 : decode cX12_deed 28 = .ok (.ifCond .ne 5, 3) := by decide +kernel
theorem dX12_deed_31 : decode cX12_deed 31 = .ok (.iconst (-1), 1) := by decide +kernel
theorem dX12_deed_32 : decode cX12_deed 32 = .ok (.ireturn, 1) := by decide +kernel
theorem dX12_deed_33 : decode cX12_deed 33 = .ok (.aload_n 0, 1) := by decide +kernel
theorem dX12_deed_34 : decode cX12_deed 34 = .ok (.getfield 7, 3) := by decide +kernel
theorem dX12_deed_37 : decode cX12_deed 37 = .ok (.iconst 2, 1) := by decide +kernel
theorem dX12_deed_38 : decode cX12_deed 38 = .ok (.iaload, 1) := by decide +kernel
theorem dX12_deed_39 : decode cX12_deed 39 = .ok (.istore 4, 2) := by decide +kernel
theorem dX12_deed_41 : decode cX12_deed 41 = .ok (.iload 4, 2) := by decide +kernel
theorem dX12_deed_43 : decode cX12_deed 43 = .ok (.bipush 16, 2) := by decide +kernel
theorem dX12_deed_45 : decode cX12_deed 45 = .ok (.if_icmp .ne 6, 3) := by decide +kernel
theorem dX12_deed_48 : decode cX12_deed 48 = .ok (.bipush (-2), 2) := by decide +kernel
theorem dX12_deed_50 : decode cX12_deed 50 = .ok (.ireturn, 1) := by decide +kernel
theorem dX12_deed_51 : decode cX12_deed 51 = .ok (.aload_n 0, 1) := by decide +kernel
theorem dX12_deed_52 : decode cX12_deed 52 = .ok (.getfield 16, 3) := by decide +kernel
theorem dX12_deed_55 : decode cX12_deed 55 = .ok (.iconst 3, 1) := by decide +kernel
theorem dX12_deed_56 : decode cX12_deed 56 = .ok (.iload 4, 2) := by decide +kernel
theorem dX12_deed_58 : decode cX12_deed 58 = .ok (.imul, 1) := by decide +kernel
theorem dX12_deed_59 : decode cX12_deed 59 = .ok (.iload_n 1, 1) := by decide +kernel
theorem dX12_deed_60 : decode cX12_deed 60 = .ok (.iastore, 1) := by decide +kernel
theorem dX12_deed_61 : decode cX12_deed 61 = .ok (.aload_n 0, 1) := by decide +kernel
theorem dX12_deed_62 : decode cX12_deed 62 = .ok (.getfield 16, 3) := by decide +kernel
theorem dX12_deed_65 : decode cX12_deed 65 = .ok (.iconst 3, 1) := by decide +kernel
theorem dX12_deed_66 : decode cX12_deed 66 = .ok (.iload 4, 2) := by decide +kernel
theorem dX12_deed_68 : decode cX12_deed 68 = .ok (.imul, 1) := by decide +kernel
theorem dX12_deed_69 : decode cX12_deed 69 = .ok (.iconst 1, 1) := by decide +kernel
theorem dX12_deed_70 : decode cX12_deed 70 = .ok (.iadd, 1) := by decide +kernel
theorem dX12_deed_71 : decode cX12_deed 71 = .ok (.iload_n 2, 1) := by decide +kernel
theorem dX12_deed_72 : decode cX12_deed 72 = .ok (.iastore, 1) := by decide +kernel
theorem dX12_deed_73 : decode cX12_deed 73 = .ok (.aload_n 0, 1) := by decide +kernel
theorem dX12_deed_74 : decode cX12_deed 74 = .ok (.getfield 16, 3) := by decide +kernel
theorem dX12_deed_77 : decode cX12_deed 77 = .ok (.iconst 3, 1) := by decide +kernel
theorem dX12_deed_78 : decode cX12_deed 78 = .ok (.iload 4, 2) := by decide +kernel
theorem dX12_deed_80 : decode cX12_deed 80 = .ok (.imul, 1) := by decide +kernel
theorem dX12_deed_81 : decode cX12_deed 81 = .ok (.iconst 2, 1) := by decide +kernel
theorem dX12_deed_82 : decode cX12_deed 82 = .ok (.iadd, 1) := by decide +kernel
theorem dX12_deed_83 : decode cX12_deed 83 = .ok (.iload_n 3, 1) := by decide +kernel
theorem dX12_deed_84 : decode cX12_deed 84 = .ok (.iastore, 1) := by decide +kernel
theorem dX12_deed_85 : decode cX12_deed 85 = .ok (.aload_n 0, 1) := by decide +kernel
theorem dX12_deed_86 : decode cX12_deed 86 = .ok (.getfield 7, 3) := by decide +kernel
theorem dX12_deed_89 : decode cX12_deed 89 = .ok (.iconst 2, 1) := by decide +kernel
theorem dX12_deed_90 : decode cX12_deed 90 = .ok (.dup2, 1) := by decide +kernel
theorem dX12_deed_91 : decode cX12_deed 91 = .ok (.iaload, 1) := by decide +kernel
theorem dX12_deed_92 : decode cX12_deed 92 = .ok (.iconst 1, 1) := by decide +kernel
theorem dX12_deed_93 : decode cX12_deed 93 = .ok (.iadd, 1) := by decide +kernel
theorem dX12_deed_94 : decode cX12_deed 94 = .ok (.iastore, 1) := by decide +kernel
theorem dX12_deed_95 : decode cX12_deed 95 = .ok (.iload 4, 2) := by decide +kernel
theorem dX12_deed_97 : decode cX12_deed 97 = .ok (.ireturn, 1) := by decide +kernel
theorem dX12_dayOf_0 : decode cX12_dayOf 0 = .ok (.aload_n 0, 1) := by decide +kernel
theorem dX12_dayOf_1 : decode cX12_dayOf 1 = .ok (.getfield 16, 3) := by decide +kernel
theorem dX12_dayOf_4 : decode cX12_dayOf 4 = .ok (.iconst 3, 1) := by decide +kernel
theorem dX12_dayOf_5 : decode cX12_dayOf 5 = .ok (.iload_n 1, 1) := by decide +kernel
theorem dX12_dayOf_6 : decode cX12_dayOf 6 = .ok (.imul, 1) := by decide +kernel
theorem dX12_dayOf_7 : decode cX12_dayOf 7 = .ok (.iconst 2, 1) := by decide +kernel
theorem dX12_dayOf_8 : decode cX12_dayOf 8 = .ok (.iadd, 1) := by decide +kernel
theorem dX12_dayOf_9 : decode cX12_dayOf 9 = .ok (.iaload, 1) := by decide +kernel
theorem dX12_dayOf_10 : decode cX12_dayOf 10 = .ok (.ireturn, 1) := by decide +kernel
theorem dX12_ageAt_0 : decode cX12_ageAt 0 = .ok (.aload_n 0, 1) := by decide +kernel
theorem dX12_ageAt_1 : decode cX12_ageAt 1 = .ok (.aload_n 0, 1) := by decide +kernel
theorem dX12_ageAt_2 : decode cX12_ageAt 2 = .ok (.getfield 16, 3) := by decide +kernel
theorem dX12_ageAt_5 : decode cX12_ageAt 5 = .ok (.iconst 3, 1) := by decide +kernel
theorem dX12_ageAt_6 : decode cX12_ageAt 6 = .ok (.iload_n 1, 1) := by decide +kernel
theorem dX12_ageAt_7 : decode cX12_ageAt 7 = .ok (.imul, 1) := by decide +kernel
theorem dX12_ageAt_8 : decode cX12_ageAt 8 = .ok (.iaload, 1) := by decide +kernel
theorem dX12_ageAt_9 : decode cX12_ageAt 9 = .ok (.aload_n 0, 1) := by decide +kernel
theorem dX12_ageAt_10 : decode cX12_ageAt 10 = .ok (.iload_n 1, 1) := by decide +kernel
theorem dX12_ageAt_11 : decode cX12_ageAt 11 = .ok (.invokevirtual 113, 3) := by decide +kernel
theorem dX12_ageAt_14 : decode cX12_ageAt 14 = .ok (.invokevirtual 110, 3) := by decide +kernel
theorem dX12_ageAt_17 : decode cX12_ageAt 17 = .ok (.ireturn, 1) := by decide +kernel
theorem dX12_isYoung_0 : decode cX12_isYoung 0 = .ok (.aload_n 0, 1) := by decide +kernel
theorem dX12_isYoung_1 : decode cX12_isYoung 1 = .ok (.iload_n 1, 1) := by decide +kernel
theorem dX12_isYoung_2 : decode cX12_isYoung 2 = .ok (.invokevirtual 117, 3) := by decide +kernel
theorem dX12_isYoung_5 : decode cX12_isYoung 5 = .ok (.bipush 18, 2) := by decide +kernel
theorem dX12_isYoung_7 : decode cX12_isYoung 7 = .ok (.if_icmp .ge 7, 3) := by decide +kernel
theorem dX12_isYoung_10 : decode cX12_isYoung 10 = .ok (.iconst 1, 1) := by decide +kernel
theorem dX12_isYoung_11 : decode cX12_isYoung 11 = .ok (.goto 4, 3) := by decide +kernel
theorem dX12_isYoung_14 : decode cX12_isYoung 14 = .ok (.iconst 0, 1) := by decide +kernel
theorem dX12_isYoung_15 : decode cX12_isYoung 15 = .ok (.ireturn, 1) := by decide +kernel
theorem dX12_finding_0 : decode cX12_finding 0 = .ok (.aload_n 0, 1) := by decide +kernel
theorem dX12_finding_1 : decode cX12_finding 1 = .ok (.iload_n 1, 1) := by decide +kernel
theorem dX12_finding_2 : decode cX12_finding 2 = .ok (.invokevirtual 120, 3) := by decide +kernel
theorem dX12_finding_5 : decode cX12_finding 5 = .ok (.ifCond .eq 13, 3) := by decide +kernel
theorem dX12_finding_8 : decode cX12_finding 8 = .ok (.iload_n 2, 1) := by decide +kernel
theorem dX12_finding_9 : decode cX12_finding 9 = .ok (.iconst 0, 1) := by decide +kernel
theorem dX12_finding_10 : decode cX12_finding 10 = .ok (.bipush 15, 2) := by decide +kernel
theorem dX12_finding_12 : decode cX12_finding 12 = .ok (.invokestatic 95, 3) := by decide +kernel
theorem dX12_finding_15 : decode cX12_finding 15 = .ok (.ifCond .ne 5, 3) := by decide +kernel
theorem dX12_finding_18 : decode cX12_finding 18 = .ok (.iconst (-1), 1) := by decide +kernel
theorem dX12_finding_19 : decode cX12_finding 19 = .ok (.ireturn, 1) := by decide +kernel
theorem dX12_finding_20 : decode cX12_finding 20 = .ok (.aload_n 0, 1) := by decide +kernel
theorem dX12_finding_21 : decode cX12_finding 21 = .ok (.getfield 7, 3) := by decide +kernel
theorem dX12_finding_24 : decode cX12_finding 24 = .ok (.iconst 3, 1) := by decide +kernel
theorem dX12_finding_25 : decode cX12_finding 25 = .ok (.iaload, 1) := by decide +kernel
theorem dX12_finding_26 : decode cX12_finding 26 = .ok (.istore 4, 2) := by decide +kernel
theorem dX12_finding_28 : decode cX12_finding 28 = .ok (.iload 4, 2) := by decide +kernel
theorem dX12_finding_30 : decode cX12_finding 30 = .ok (.bipush 24, 2) := by decide +kernel
theorem dX12_finding_32 : decode cX12_finding 32 = .ok (.if_icmp .ne 6, 3) := by decide +kernel
theorem dX12_finding_35 : decode cX12_finding 35 = .ok (.bipush (-2), 2) := by decide +kernel
theorem dX12_finding_37 : decode cX12_finding 37 = .ok (.ireturn, 1) := by decide +kernel
theorem dX12_finding_38 : decode cX12_finding 38 = .ok (.aload_n 0, 1) := by decide +kernel
theorem dX12_finding_39 : decode cX12_finding 39 = .ok (.getfield 19, 3) := by decide +kernel
theorem dX12_finding_42 : decode cX12_finding 42 = .ok (.iconst 4, 1) := by decide +kernel
theorem dX12_finding_43 : decode cX12_finding 43 = .ok (.iload 4, 2) := by decide +kernel
theorem dX12_finding_45 : decode cX12_finding 45 = .ok (.imul, 1) := by decide +kernel
theorem dX12_finding_46 : decode cX12_finding 46 = .ok (.iload_n 1, 1) := by decide +kernel
theorem dX12_finding_47 : decode cX12_finding 47 = .ok (.iastore, 1) := by decide +kernel
theorem dX12_finding_48 : decode cX12_finding 48 = .ok (.aload_n 0, 1) := by decide +kernel
theorem dX12_finding_49 : decode cX12_finding 49 = .ok (.getfield 19, 3) := by decide +kernel
theorem dX12_finding_52 : decode cX12_finding 52 = .ok (.iconst 4, 1) := by decide +kernel
theorem dX12_finding_53 : decode cX12_finding 53 = .ok (.iload 4, 2) := by decide +kernel
theorem dX12_finding_55 : decode cX12_finding 55 = .ok (.imul, 1) := by decide +kernel
theorem dX12_finding_56 : decode cX12_finding 56 = .ok (.iconst 1, 1) := by decide +kernel
theorem dX12_finding_57 : decode cX12_finding 57 = .ok (.iadd, 1) := by decide +kernel
theorem dX12_finding_58 : decode cX12_finding 58 = .ok (.iload_n 2, 1) := by decide +kernel
theorem dX12_finding_59 : decode cX12_finding 59 = .ok (.iastore, 1) := by decide +kernel
theorem dX12_finding_60 : decode cX12_finding 60 = .ok (.aload_n 0, 1) := by decide +kernel
theorem dX12_finding_61 : decode cX12_finding 61 = .ok (.getfield 19, 3) := by decide +kernel
theorem dX12_finding_64 : decode cX12_finding 64 = .ok (.iconst 4, 1) := by decide +kernel
theorem dX12_finding_65 : decode cX12_finding 65 = .ok (.iload 4, 2) := by decide +kernel
theorem dX12_finding_67 : decode cX12_finding 67 = .ok (.imul, 1) := by decide +kernel
theorem dX12_finding_68 : decode cX12_finding 68 = .ok (.iconst 2, 1) := by decide +kernel
theorem dX12_finding_69 : decode cX12_finding 69 = .ok (.iadd, 1) := by decide +kernel
theorem dX12_finding_70 : decode cX12_finding 70 = .ok (.iload_n 3, 1) := by decide +kernel
theorem dX12_finding_71 : decode cX12_finding 71 = .ok (.ifCond .eq 7, 3) := by decide +kernel
theorem dX12_finding_74 : decode cX12_finding 74 = .ok (.iconst 1, 1) := by decide +kernel
theorem dX12_finding_75 : decode cX12_finding 75 = .ok (.goto 4, 3) := by decide +kernel
theorem dX12_finding_78 : decode cX12_finding 78 = .ok (.iconst 0, 1) := by decide +kernel
theorem dX12_finding_79 : decode cX12_finding 79 = .ok (.iastore, 1) := by decide +kernel
theorem dX12_finding_80 : decode cX12_finding 80 = .ok (.aload_n 0, 1) := by decide +kernel
theorem dX12_finding_81 : decode cX12_finding 81 = .ok (.getfield 19, 3) := by decide +kernel
theorem dX12_finding_84 : decode cX12_finding 84 = .ok (.iconst 4, 1) := by decide +kernel
theorem dX12_finding_85 : decode cX12_finding 85 = .ok (.iload 4, 2) := by decide +kernel
theorem dX12_finding_87 : decode cX12_finding 87 = .ok (.imul, 1) := by decide +kernel
theorem dX12_finding_88 : decode cX12_finding 88 = .ok (.iconst 3, 1) := by decide +kernel
theorem dX12_finding_89 : decode cX12_finding 89 = .ok (.iadd, 1) := by decide +kernel
theorem dX12_finding_90 : decode cX12_finding 90 = .ok (.aload_n 0, 1) := by decide +kernel
theorem dX12_finding_91 : decode cX12_finding 91 = .ok (.getfield 7, 3) := by decide +kernel
theorem dX12_finding_94 : decode cX12_finding 94 = .ok (.iconst 0, 1) := by decide +kernel
theorem dX12_finding_95 : decode cX12_finding 95 = .ok (.iaload, 1) := by decide +kernel
theorem dX12_finding_96 : decode cX12_finding 96 = .ok (.iastore, 1) := by decide +kernel
theorem dX12_finding_97 : decode cX12_finding 97 = .ok (.aload_n 0, 1) := by decide +kernel
theorem dX12_finding_98 : decode cX12_finding 98 = .ok (.getfield 7, 3) := by decide +kernel
theorem dX12_finding_101 : decode cX12_finding 101 = .ok (.iconst 3, 1) := by decide +kernel
theorem dX12_finding_102 : decode cX12_finding 102 = .ok (.dup2, 1) := by decide +kernel
theorem dX12_finding_103 : decode cX12_finding 103 = .ok (.iaload, 1) := by decide +kernel
theorem dX12_finding_104 : decode cX12_finding 104 = .ok (.iconst 1, 1) := by decide +kernel
theorem dX12_finding_105 : decode cX12_finding 105 = .ok (.iadd, 1) := by decide +kernel
theorem dX12_finding_106 : decode cX12_finding 106 = .ok (.iastore, 1) := by decide +kernel
theorem dX12_finding_107 : decode cX12_finding 107 = .ok (.iload 4, 2) := by decide +kernel
theorem dX12_finding_109 : decode cX12_finding 109 = .ok (.ireturn, 1) := by decide +kernel
theorem dX12_foundOf_0 : decode cX12_foundOf 0 = .ok (.iconst (-1), 1) := by decide +kernel
theorem dX12_foundOf_1 : decode cX12_foundOf 1 = .ok (.istore_n 3, 1) := by decide +kernel
theorem dX12_foundOf_2 : decode cX12_foundOf 2 = .ok (.iconst 0, 1) := by decide +kernel
theorem dX12_foundOf_3 : decode cX12_foundOf 3 = .ok (.istore 4, 2) := by decide +kernel
theorem dX12_foundOf_5 : decode cX12_foundOf 5 = .ok (.iload 4, 2) := by decide +kernel
theorem dX12_foundOf_7 : decode cX12_foundOf 7 = .ok (.aload_n 0, 1) := by decide +kernel
theorem dX12_foundOf_8 : decode cX12_foundOf 8 = .ok (.getfield 7, 3) := by decide +kernel
theorem dX12_foundOf_11 : decode cX12_foundOf 11 = .ok (.iconst 3, 1) := by decide +kernel
theorem dX12_foundOf_12 : decode cX12_foundOf 12 = .ok (.iaload, 1) := by decide +kernel
theorem dX12_foundOf_13 : decode cX12_foundOf 13 = .ok (.if_icmp .ge 44, 3) := by decide +kernel
theorem dX12_foundOf_16 : decode cX12_foundOf 16 = .ok (.aload_n 0, 1) := by decide +kernel
theorem dX12_foundOf_17 : decode cX12_foundOf 17 = .ok (.getfield 19, 3) := by decide +kernel
theorem dX12_foundOf_20 : decode cX12_foundOf 20 = .ok (.iconst 4, 1) := by decide +kernel
theorem dX12_foundOf_21 : decode cX12_foundOf 21 = .ok (.iload 4, 2) := by decide +kernel
theorem dX12_foundOf_23 : decode cX12_foundOf 23 = .ok (.imul, 1) := by decide +kernel
theorem dX12_foundOf_24 : decode cX12_foundOf 24 = .ok (.iaload, 1) := by decide +kernel
theorem dX12_foundOf_25 : decode cX12_foundOf 25 = .ok (.iload_n 1, 1) := by decide +kernel
theorem dX12_foundOf_26 : decode cX12_foundOf 26 = .ok (.if_icmp .ne 23, 3) := by decide +kernel
theorem dX12_foundOf_29 : decode cX12_foundOf 29 = .ok (.aload_n 0, 1) := by decide +kernel
theorem dX12_foundOf_30 : decode cX12_foundOf 30 = .ok (.getfield 19, 3) := by decide +kernel
theorem dX12_foundOf_33 : decode cX12_foundOf 33 = .ok (.iconst 4, 1) := by decide +kernel
theorem dX12_foundOf_34 : decode cX12_foundOf 34 = .ok (.iload 4, 2) := by decide +kernel
theorem dX12_foundOf_36 : decode cX12_foundOf 36 = .ok (.imul, 1) := by decide +kernel
theorem dX12_foundOf_37 : decode cX12_foundOf 37 = .ok (.iconst 3, 1) := by decide +kernel
theorem dX12_foundOf_38 : decode cX12_foundOf 38 = .ok (.iadd, 1) := by decide +kernel
theorem dX12_foundOf_39 : decode cX12_foundOf 39 = .ok (.iaload, 1) := by decide +kernel
theorem dX12_foundOf_40 : decode cX12_foundOf 40 = .ok (.iload_n 2, 1) := by decide +kernel
theorem dX12_foundOf_41 : decode cX12_foundOf 41 = .ok (.if_icmp .gt 8, 3) := by decide +kernel
theorem dX12_foundOf_44 : decode cX12_foundOf 44 = .ok (.iload 4, 2) := by decide +kernel
theorem dX12_foundOf_46 : decode cX12_foundOf 46 = .ok (.goto 4, 3) := by decide +kernel
theorem dX12_foundOf_49 : decode cX12_foundOf 49 = .ok (.iload_n 3, 1) := by decide +kernel
theorem dX12_foundOf_50 : decode cX12_foundOf 50 = .ok (.istore_n 3, 1) := by decide +kernel
theorem dX12_foundOf_51 : decode cX12_foundOf 51 = .ok (.iinc 4 1, 3) := by decide +kernel
theorem dX12_foundOf_54 : decode cX12_foundOf 54 = .ok (.goto (-49), 3) := by decide +kernel
theorem dX12_foundOf_57 : decode cX12_foundOf 57 = .ok (.iload_n 3, 1) := by decide +kernel
theorem dX12_foundOf_58 : decode cX12_foundOf 58 = .ok (.ireturn, 1) := by decide +kernel
theorem dX12_factsOf_0 : decode cX12_factsOf 0 = .ok (.aload_n 0, 1) := by decide +kernel
theorem dX12_factsOf_1 : decode cX12_factsOf 1 = .ok (.iload_n 1, 1) := by decide +kernel
theorem dX12_factsOf_2 : decode cX12_factsOf 2 = .ok (.iload_n 2, 1) := by decide +kernel
theorem dX12_factsOf_3 : decode cX12_factsOf 3 = .ok (.invokevirtual 123, 3) := by decide +kernel
theorem dX12_factsOf_6 : decode cX12_factsOf 6 = .ok (.istore_n 3, 1) := by decide +kernel
theorem dX12_factsOf_7 : decode cX12_factsOf 7 = .ok (.iload_n 3, 1) := by decide +kernel
theorem dX12_factsOf_8 : decode cX12_factsOf 8 = .ok (.ifCond .ge 7, 3) := by decide +kernel
theorem dX12_factsOf_11 : decode cX12_factsOf 11 = .ok (.iconst 0, 1) := by decide +kernel
theorem dX12_factsOf_12 : decode cX12_factsOf 12 = .ok (.goto 13, 3) := by decide +kernel
theorem dX12_factsOf_15 : decode cX12_factsOf 15 = .ok (.aload_n 0, 1) := by decide +kernel
theorem dX12_factsOf_16 : decode cX12_factsOf 16 = .ok (.getfield 19, 3) := by decide +kernel
theorem dX12_factsOf_19 : decode cX12_factsOf 19 = .ok (.iconst 4, 1) := by decide +kernel
theorem dX12_factsOf_20 : decode cX12_factsOf 20 = .ok (.iload_n 3, 1) := by decide +kernel
theorem dX12_factsOf_21 : decode cX12_factsOf 21 = .ok (.imul, 1) := by decide +kernel
theorem dX12_factsOf_22 : decode cX12_factsOf 22 = .ok (.iconst 1, 1) := by decide +kernel
theorem dX12_factsOf_23 : decode cX12_factsOf 23 = .ok (.iadd, 1) := by decide +kernel
theorem dX12_factsOf_24 : decode cX12_factsOf 24 = .ok (.iaload, 1) := by decide +kernel
theorem dX12_factsOf_25 : decode cX12_factsOf 25 = .ok (.ireturn, 1) := by decide +kernel
theorem dX12_isPleaded_0 : decode cX12_isPleaded 0 = .ok (.aload_n 0, 1) := by decide +kernel
theorem dX12_isPleaded_1 : decode cX12_isPleaded 1 = .ok (.iload_n 1, 1) := by decide +kernel
theorem dX12_isPleaded_2 : decode cX12_isPleaded 2 = .ok (.iload_n 2, 1) := by decide +kernel
theorem dX12_isPleaded_3 : decode cX12_isPleaded 3 = .ok (.invokevirtual 123, 3) := by decide +kernel
theorem dX12_isPleaded_6 : decode cX12_isPleaded 6 = .ok (.istore_n 3, 1) := by decide +kernel
theorem dX12_isPleaded_7 : decode cX12_isPleaded 7 = .ok (.iload_n 3, 1) := by decide +kernel
theorem dX12_isPleaded_8 : decode cX12_isPleaded 8 = .ok (.ifCond .lt 21, 3) := by decide +kernel
theorem dX12_isPleaded_11 : decode cX12_isPleaded 11 = .ok (.aload_n 0, 1) := by decide +kernel
theorem dX12_isPleaded_12 : decode cX12_isPleaded 12 = .ok (.getfield 19, 3) := by decide +kernel
theorem dX12_isPleaded_15 : decode cX12_isPleaded 15 = .ok (.iconst 4, 1) := by decide +kernel
theorem dX12_isPleaded_16 : decode cX12_isPleaded 16 = .ok (.iload_n 3, 1) := by decide +kernel
theorem dX12_isPleaded_17 : decode cX12_isPleaded 17 = .ok (.imul, 1) := by decide +kernel
theorem dX12_isPleaded_18 : decode cX12_isPleaded 18 = .ok (.iconst 2, 1) := by decide +kernel
theorem dX12_isPleaded_19 : decode cX12_isPleaded 19 = .ok (.iadd, 1) := by decide +kernel
theorem dX12_isPleaded_20 : decode cX12_isPleaded 20 = .ok (.iaload, 1) := by decide +kernel
theorem dX12_isPleaded_21 : decode cX12_isPleaded 21 = .ok (.iconst 1, 1) := by decide +kernel
theorem dX12_isPleaded_22 : decode cX12_isPleaded 22 = .ok (.if_icmp .ne 7, 3) := by decide +kernel
theorem dX12_isPleaded_25 : decode cX12_isPleaded 25 = .ok (.iconst 1, 1) := by decide +kernel
theorem dX12_isPleaded_26 : decode cX12_isPleaded 26 = .ok (.goto 4, 3) := by decide +kernel
theorem dX12_isPleaded_29 : decode cX12_isPleaded 29 = .ok (.iconst 0, 1) := by decide +kernel
theorem dX12_isPleaded_30 : decode cX12_isPleaded 30 = .ok (.ireturn, 1) := by decide +kernel
theorem dX12_stands_0 : decode cX12_stands 0 = .ok (.aload_n 0, 1) := by decide +kernel
theorem dX12_stands_1 : decode cX12_stands 1 = .ok (.iload_n 1, 1) := by decide +kernel
theorem dX12_stands_2 : decode cX12_stands 2 = .ok (.iconst 5, 1) := by decide +kernel
theorem dX12_stands_3 : decode cX12_stands 3 = .ok (.invokevirtual 99, 3) := by decide +kernel
theorem dX12_stands_6 : decode cX12_stands 6 = .ok (.iload_n 2, 1) := by decide +kernel
theorem dX12_stands_7 : decode cX12_stands 7 = .ok (.if_icmp .gt 18, 3) := by decide +kernel
theorem dX12_stands_10 : decode cX12_stands 10 = .ok (.aload_n 0, 1) := by decide +kernel
theorem dX12_stands_11 : decode cX12_stands 11 = .ok (.iload_n 1, 1) := by decide +kernel
theorem dX12_stands_12 : decode cX12_stands 12 = .ok (.bipush 6, 2) := by decide +kernel
theorem dX12_stands_14 : decode cX12_stands 14 = .ok (.invokevirtual 99, 3) := by decide +kernel
theorem dX12_stands_17 : decode cX12_stands 17 = .ok (.iload_n 2, 1) := by decide +kernel
theorem dX12_stands_18 : decode cX12_stands 18 = .ok (.if_icmp .le 7, 3) := by decide +kernel
theorem dX12_stands_21 : decode cX12_stands 21 = .ok (.iconst 1, 1) := by decide +kernel
theorem dX12_stands_22 : decode cX12_stands 22 = .ok (.goto 4, 3) := by decide +kernel
theorem dX12_stands_25 : decode cX12_stands 25 = .ok (.iconst 0, 1) := by decide +kernel
theorem dX12_stands_26 : decode cX12_stands 26 = .ok (.ireturn, 1) := by decide +kernel
theorem dX12_termOf_0 : decode cX12_termOf 0 = .ok (.iconst (-1), 1) := by decide +kernel
theorem dX12_termOf_1 : decode cX12_termOf 1 = .ok (.istore_n 3, 1) := by decide +kernel
theorem dX12_termOf_2 : decode cX12_termOf 2 = .ok (.iconst 0, 1) := by decide +kernel
theorem dX12_termOf_3 : decode cX12_termOf 3 = .ok (.istore 4, 2) := by decide +kernel
theorem dX12_termOf_5 : decode cX12_termOf 5 = .ok (.iload 4, 2) := by decide +kernel
theorem dX12_termOf_7 : decode cX12_termOf 7 = .ok (.aload_n 0, 1) := by decide +kernel
theorem dX12_termOf_8 : decode cX12_termOf 8 = .ok (.getfield 7, 3) := by decide +kernel
theorem dX12_termOf_11 : decode cX12_termOf 11 = .ok (.iconst 5, 1) := by decide +kernel
theorem dX12_termOf_12 : decode cX12_termOf 12 = .ok (.iaload, 1) := by decide +kernel
theorem dX12_termOf_13 : decode cX12_termOf 13 = .ok (.if_icmp .ge 37, 3) := by decide +kernel
theorem dX12_termOf_16 : decode cX12_termOf 16 = .ok (.aload_n 0, 1) := by decide +kernel
theorem dX12_termOf_17 : decode cX12_termOf 17 = .ok (.iload 4, 2) := by decide +kernel
theorem dX12_termOf_19 : decode cX12_termOf 19 = .ok (.iconst 0, 1) := by decide +kernel
theorem dX12_termOf_20 : decode cX12_termOf 20 = .ok (.invokevirtual 99, 3) := by decide +kernel
theorem dX12_termOf_23 : decode cX12_termOf 23 = .ok (.iload_n 1, 1) := by decide +kernel
theorem dX12_termOf_24 : decode cX12_termOf 24 = .ok (.if_icmp .ne 18, 3) := by decide +kernel
theorem dX12_termOf_27 : decode cX12_termOf 27 = .ok (.aload_n 0, 1) := by decide +kernel
theorem dX12_termOf_28 : decode cX12_termOf 28 = .ok (.iload 4, 2) := by decide +kernel
theorem dX12_termOf_30 : decode cX12_termOf 30 = .ok (.iload_n 2, 1) := by decide +kernel
theorem dX12_termOf_31 : decode cX12_termOf 31 = .ok (.invokevirtual 126, 3) := by decide +kernel
theorem dX12_termOf_34 : decode cX12_termOf 34 = .ok (.ifCond .eq 8, 3) := by decide +kernel
theorem dX12_termOf_37 : decode cX12_termOf 37 = .ok (.iload 4, 2) := by decide +kernel
theorem dX12_termOf_39 : decode cX12_termOf 39 = .ok (.goto 4, 3) := by decide +kernel
theorem dX12_termOf_42 : decode cX12_termOf 42 = .ok (.iload_n 3, 1) := by decide +kernel
theorem dX12_termOf_43 : decode cX12_termOf 43 = .ok (.istore_n 3, 1) := by decide +kernel
theorem dX12_termOf_44 : decode cX12_termOf 44 = .ok (.iinc 4 1, 3) := by decide +kernel
theorem dX12_termOf_47 : decode cX12_termOf 47 = .ok (.goto (-42), 3) := by decide +kernel
theorem dX12_termOf_50 : decode cX12_termOf 50 = .ok (.iload_n 3, 1) := by decide +kernel
theorem dX12_termOf_51 : decode cX12_termOf 51 = .ok (.ireturn, 1) := by decide +kernel
theorem dX12_deedOf_0 : decode cX12_deedOf 0 = .ok (.aload_n 0, 1) := by decide +kernel
theorem dX12_deedOf_1 : decode cX12_deedOf 1 = .ok (.iload_n 1, 1) := by decide +kernel
theorem dX12_deedOf_2 : decode cX12_deedOf 2 = .ok (.invokevirtual 120, 3) := by decide +kernel
theorem dX12_deedOf_5 : decode cX12_deedOf 5 = .ok (.ifCond .eq 19, 3) := by decide +kernel
theorem dX12_deedOf_8 : decode cX12_deedOf 8 = .ok (.iload_n 2, 1) := by decide +kernel
theorem dX12_deedOf_9 : decode cX12_deedOf 9 = .ok (.invokestatic 107, 3) := by decide +kernel
theorem dX12_deedOf_12 : decode cX12_deedOf 12 = .ok (.ifCond .eq 12, 3) := by decide +kernel
theorem dX12_deedOf_15 : decode cX12_deedOf 15 = .ok (.iload_n 3, 1) := by decide +kernel
theorem dX12_deedOf_16 : decode cX12_deedOf 16 = .ok (.iconst 0, 1) := by decide +kernel
theorem dX12_deedOf_17 : decode cX12_deedOf 17 = .ok (.iconst 5, 1) := by decide +kernel
theorem dX12_deedOf_18 : decode cX12_deedOf 18 = .ok (.invokestatic 95, 3) := by decide +kernel
theorem dX12_deedOf_21 : decode cX12_deedOf 21 = .ok (.ifCond .ne 5, 3) := by decide +kernel
theorem dX12_deedOf_24 : decode cX12_deedOf 24 = .ok (.iconst (-1), 1) := by decide +kernel
theorem dX12_deedOf_25 : decode cX12_deedOf 25 = .ok (.ireturn, 1) := by decide +kernel
theorem dX12_deedOf_26 : decode cX12_deedOf 26 = .ok (.iload_n 3, 1) := by decide +kernel
theorem dX12_deedOf_27 : decode cX12_deedOf 27 = .ok (.iconst 3, 1) := by decide +kernel
theorem dX12_deedOf_28 : decode cX12_deedOf 28 = .ok (.if_icmp .ge 14, 3) := by decide +kernel
theorem dX12_deedOf_31 : decode cX12_deedOf 31 = .ok (.aload_n 0, 1) := by decide +kernel
theorem dX12_deedOf_32 : decode cX12_deedOf 32 = .ok (.getfield 16, 3) := by decide +kernel
theorem dX12_deedOf_35 : decode cX12_deedOf 35 = .ok (.iconst 3, 1) := by decide +kernel
theorem dX12_deedOf_36 : decode cX12_deedOf 36 = .ok (.iload_n 1, 1) := by decide +kernel
theorem dX12_deedOf_37 : decode cX12_deedOf 37 = .ok (.imul, 1) := by decide +kernel
theorem dX12_deedOf_38 : decode cX12_deedOf 38 = .ok (.iload_n 3, 1) := by decide +kernel
theorem dX12_deedOf_39 : decode cX12_deedOf 39 = .ok (.iadd, 1) := by decide +kernel
theorem dX12_deedOf_40 : decode cX12_deedOf 40 = .ok (.iaload, 1) := by decide +kernel
theorem dX12_deedOf_41 : decode cX12_deedOf 41 = .ok (.ireturn, 1) := by decide +kernel
theorem dX12_deedOf_42 : decode cX12_deedOf 42 = .ok (.iload_n 3, 1) := by decide +kernel
theorem dX12_deedOf_43 : decode cX12_deedOf 43 = .ok (.iconst 3, 1) := by decide +kernel
theorem dX12_deedOf_44 : decode cX12_deedOf 44 = .ok (.if_icmp .ne 12, 3) := by decide +kernel
theorem dX12_deedOf_47 : decode cX12_deedOf 47 = .ok (.aload_n 0, 1) := by decide +kernel
theorem dX12_deedOf_48 : decode cX12_deedOf 48 = .ok (.iload_n 1, 1) := by decide +kernel
theorem dX12_deedOf_49 : decode cX12_deedOf 49 = .ok (.iload_n 2, 1) := by decide +kernel
theorem dX12_deedOf_50 : decode cX12_deedOf 50 = .ok (.invokevirtual 130, 3) := by decide +kernel
theorem dX12_deedOf_53 : decode cX12_deedOf 53 = .ok (.goto 34, 3) := by decide +kernel
theorem dX12_deedOf_56 : decode cX12_deedOf 56 = .ok (.iload_n 3, 1) := by decide +kernel
theorem dX12_deedOf_57 : decode cX12_deedOf 57 = .ok (.iconst 4, 1) := by decide +kernel
theorem dX12_deedOf_58 : decode cX12_deedOf 58 = .ok (.if_icmp .ne 20, 3) := by decide +kernel
theorem dX12_deedOf_61 : decode cX12_deedOf 61 = .ok (.aload_n 0, 1) := by decide +kernel
theorem dX12_deedOf_62 : decode cX12_deedOf 62 = .ok (.iload_n 1, 1) := by decide +kernel
theorem dX12_deedOf_63 : decode cX12_deedOf 63 = .ok (.iload_n 2, 1) := by decide +kernel
theorem dX12_deedOf_64 : decode cX12_deedOf 64 = .ok (.invokevirtual 133, 3) := by decide +kernel
theorem dX12_deedOf_67 : decode cX12_deedOf 67 = .ok (.ifCond .eq 7, 3) := by decide +kernel
theorem dX12_deedOf_70 : decode cX12_deedOf 70 = .ok (.iconst 1, 1) := by decide +kernel
theorem dX12_deedOf_71 : decode cX12_deedOf 71 = .ok (.goto 16, 3) := by decide +kernel
theorem dX12_deedOf_74 : decode cX12_deedOf 74 = .ok (.iconst 0, 1) := by decide +kernel
theorem dX12_deedOf_75 : decode cX12_deedOf 75 = .ok (.goto 12, 3) := by decide +kernel
theorem dX12_deedOf_78 : decode cX12_deedOf 78 = .ok (.aload_n 0, 1) := by decide +kernel
theorem dX12_deedOf_79 : decode cX12_deedOf 79 = .ok (.iload_n 1, 1) := by decide +kernel
theorem dX12_deedOf_80 : decode cX12_deedOf 80 = .ok (.iload_n 2, 1) := by decide +kernel
theorem dX12_deedOf_81 : decode cX12_deedOf 81 = .ok (.invokevirtual 136, 3) := by decide +kernel
theorem dX12_deedOf_84 : decode cX12_deedOf 84 = .ok (.invokestatic 139, 3) := by decide +kernel
theorem dX12_deedOf_87 : decode cX12_deedOf 87 = .ok (.ireturn, 1) := by decide +kernel
theorem dX12_feed_0 : decode cX12_feed 0 = .ok (.iload_n 3, 1) := by decide +kernel
theorem dX12_feed_1 : decode cX12_feed 1 = .ok (.iconst 1, 1) := by decide +kernel
theorem dX12_feed_2 : decode cX12_feed 2 = .ok (.bipush 8, 2) := by decide +kernel
theorem dX12_feed_4 : decode cX12_feed 4 = .ok (.invokestatic 95, 3) := by decide +kernel
theorem dX12_feed_7 : decode cX12_feed 7 = .ok (.ifCond .ne 5, 3) := by decide +kernel
theorem dX12_feed_10 : decode cX12_feed 10 = .ok (.iconst (-1), 1) := by decide +kernel
theorem dX12_feed_11 : decode cX12_feed 11 = .ok (.ireturn, 1) := by decide +kernel
theorem dX12_feed_12 : decode cX12_feed 12 = .ok (.aload_n 0, 1) := by decide +kernel
theorem dX12_feed_13 : decode cX12_feed 13 = .ok (.getfield 142, 3) := by decide +kernel
theorem dX12_feed_16 : decode cX12_feed 16 = .ok (.iload_n 3, 1) := by decide +kernel
theorem dX12_feed_17 : decode cX12_feed 17 = .ok (.iadd, 1) := by decide +kernel
theorem dX12_feed_18 : decode cX12_feed 18 = .ok (.sipush 250, 3) := by decide +kernel
theorem dX12_feed_21 : decode cX12_feed 21 = .ok (.if_icmp .le 6, 3) := by decide +kernel
theorem dX12_feed_24 : decode cX12_feed 24 = .ok (.bipush (-2), 2) := by decide +kernel
theorem dX12_feed_26 : decode cX12_feed 26 = .ok (.ireturn, 1) := by decide +kernel
theorem dX12_feed_27 : decode cX12_feed 27 = .ok (.iconst 0, 1) := by decide +kernel
theorem dX12_feed_28 : decode cX12_feed 28 = .ok (.istore 4, 2) := by decide +kernel
theorem dX12_feed_30 : decode cX12_feed 30 = .ok (.iload 4, 2) := by decide +kernel
theorem dX12_feed_32 : decode cX12_feed 32 = .ok (.iload_n 3, 1) := by decide +kernel
theorem dX12_feed_33 : decode cX12_feed 33 = .ok (.if_icmp .ge 40, 3) := by decide +kernel
theorem dX12_feed_36 : decode cX12_feed 36 = .ok (.aload_n 0, 1) := by decide +kernel
theorem dX12_feed_37 : decode cX12_feed 37 = .ok (.getfield 37, 3) := by decide +kernel
theorem dX12_feed_40 : decode cX12_feed 40 = .ok (.aload_n 0, 1) := by decide +kernel
theorem dX12_feed_41 : decode cX12_feed 41 = .ok (.getfield 142, 3) := by decide +kernel
theorem dX12_feed_44 : decode cX12_feed 44 = .ok (.lload_n 1, 1) := by decide +kernel
theorem dX12_feed_45 : decode cX12_feed 45 = .ok (.bipush 8, 2) := by decide +kernel
theorem dX12_feed_47 : decode cX12_feed 47 = .ok (.iload 4, 2) := by decide +kernel
theorem dX12_feed_49 : decode cX12_feed 49 = .ok (.imul, 1) := by decide +kernel
theorem dX12_feed_50 : decode cX12_feed 50 = .ok (.lushr, 1) := by decide +kernel
theorem dX12_feed_51 : decode cX12_feed 51 = .ok (.ldc2_w 146, 3) := by decide +kernel
theorem dX12_feed_54 : decode cX12_feed 54 = .ok (.land, 1) := by decide +kernel
theorem dX12_feed_55 : decode cX12_feed 55 = .ok (.l2i, 1) := by decide +kernel
theorem dX12_feed_56 : decode cX12_feed 56 = .ok (.iastore, 1) := by decide +kernel
theorem dX12_feed_57 : decode cX12_feed 57 = .ok (.aload_n 0, 1) := by decide +kernel
theorem dX12_feed_58 : decode cX12_feed 58 = .ok (.dup, 1) := by decide +kernel
theorem dX12_feed_59 : decode cX12_feed 59 = .ok (.getfield 142, 3) := by decide +kernel
theorem dX12_feed_62 : decode cX12_feed 62 = .ok (.iconst 1, 1) := by decide +kernel
theorem dX12_feed_63 : decode cX12_feed 63 = .ok (.iadd, 1) := by decide +kernel
theorem dX12_feed_64 : decode cX12_feed 64 = .ok (.putfield 142, 3) := by decide +kernel
theorem dX12_feed_67 : decode cX12_feed 67 = .ok (.iinc 4 1, 3) := by decide +kernel
theorem dX12_feed_70 : decode cX12_feed 70 = .ok (.goto (-40), 3) := by decide +kernel
theorem dX12_feed_73 : decode cX12_feed 73 = .ok (.aload_n 0, 1) := by decide +kernel
theorem dX12_feed_74 : decode cX12_feed 74 = .ok (.getfield 142, 3) := by decide +kernel
theorem dX12_feed_77 : decode cX12_feed 77 = .ok (.ireturn, 1) := by decide +kernel
theorem dX12_isLetter_0 : decode cX12_isLetter 0 = .ok (.iload_n 0, 1) := by decide +kernel
theorem dX12_isLetter_1 : decode cX12_isLetter 1 = .ok (.bipush 97, 2) := by decide +kernel
theorem dX12_isLetter_3 : decode cX12_isLetter 3 = .ok (.if_icmp .lt 13, 3) := by decide +kernel
theorem dX12_isLetter_6 : decode cX12_isLetter 6 = .ok (.iload_n 0, 1) := by decide +kernel
theorem dX12_isLetter_7 : decode cX12_isLetter 7 = .ok (.bipush 122, 2) := by decide +kernel
theorem dX12_isLetter_9 : decode cX12_isLetter 9 = .ok (.if_icmp .gt 7, 3) := by decide +kernel
theorem dX12_isLetter_12 : decode cX12_isLetter 12 = .ok (.iconst 1, 1) := by decide +kernel
theorem dX12_isLetter_13 : decode cX12_isLetter 13 = .ok (.goto 4, 3) := by decide +kernel
theorem dX12_isLetter_16 : decode cX12_isLetter 16 = .ok (.iconst 0, 1) := by decide +kernel
theorem dX12_isLetter_17 : decode cX12_isLetter 17 = .ok (.ireturn, 1) := by decide +kernel
theorem dX12_isDigit_0 : decode cX12_isDigit 0 = .ok (.iload_n 0, 1) := by decide +kernel
theorem dX12_isDigit_1 : decode cX12_isDigit 1 = .ok (.bipush 48, 2) := by decide +kernel
theorem dX12_isDigit_3 : decode cX12_isDigit 3 = .ok (.if_icmp .lt 13, 3) := by decide +kernel
theorem dX12_isDigit_6 : decode cX12_isDigit 6 = .ok (.iload_n 0, 1) := by decide +kernel
theorem dX12_isDigit_7 : decode cX12_isDigit 7 = .ok (.bipush 57, 2) := by decide +kernel
theorem dX12_isDigit_9 : decode cX12_isDigit 9 = .ok (.if_icmp .gt 7, 3) := by decide +kernel
theorem dX12_isDigit_12 : decode cX12_isDigit 12 = .ok (.iconst 1, 1) := by decide +kernel
theorem dX12_isDigit_13 : decode cX12_isDigit 13 = .ok (.goto 4, 3) := by decide +kernel
theorem dX12_isDigit_16 : decode cX12_isDigit 16 = .ok (.iconst 0, 1) := by decide +kernel
theorem dX12_isDigit_17 : decode cX12_isDigit 17 = .ok (.ireturn, 1) := by decide +kernel
theorem dX12_isSeven_0 : decode cX12_isSeven 0 = .ok (.aload_n 0, 1) := by decide +kernel
theorem dX12_isSeven_1 : decode cX12_isSeven 1 = .ok (.getfield 148, 3) := by decide +kernel
theorem dX12_isSeven_4 : decode cX12_isSeven 4 = .ok (.aload_n 0, 1) := by decide +kernel
theorem dX12_isSeven_5 : decode cX12_isSeven 5 = .ok (.getfield 151, 3) := by decide +kernel
theorem dX12_isSeven_8 : decode cX12_isSeven 8 = .ok (.isub, 1) := by decide +kernel
theorem dX12_isSeven_9 : decode cX12_isSeven 9 = .ok (.bipush 7, 2) := by decide +kernel
theorem dX12_isSeven_11 : decode cX12_isSeven 11 = .ok (.if_icmp .ne 7, 3) := by decide +kernel
theorem dX12_isSeven_14 : decode cX12_isSeven 14 = .ok (.iconst 1, 1) := by decide +kernel
theorem dX12_isSeven_15 : decode cX12_isSeven 15 = .ok (.goto 4, 3) := by decide +kernel
theorem dX12_isSeven_18 : decode cX12_isSeven 18 = .ok (.iconst 0, 1) := by decide +kernel
theorem dX12_isSeven_19 : decode cX12_isSeven 19 = .ok (.istore_n 1, 1) := by decide +kernel
theorem dX12_isSeven_20 : decode cX12_isSeven 20 = .ok (.iconst 0, 1) := by decide +kernel
theorem dX12_isSeven_21 : decode cX12_isSeven 21 = .ok (.istore_n 2, 1) := by decide +kernel
theorem dX12_isSeven_22 : decode cX12_isSeven 22 = .ok (.iload_n 2, 1) := by decide +kernel
theorem dX12_isSeven_23 : decode cX12_isSeven 23 = .ok (.bipush 7, 2) := by decide +kernel
theorem dX12_isSeven_25 : decode cX12_isSeven 25 = .ok (.if_icmp .ge 39, 3) := by decide +kernel
theorem dX12_isSeven_28 : decode cX12_isSeven 28 = .ok (.iload_n 1, 1) := by decide +kernel
theorem dX12_isSeven_29 : decode cX12_isSeven 29 = .ok (.ifCond .eq 35, 3) := by decide +kernel
theorem dX12_isSeven_32 : decode cX12_isSeven 32 = .ok (.aload_n 0, 1) := by decide +kernel
theorem dX12_isSeven_33 : decode cX12_isSeven 33 = .ok (.getfield 37, 3) := by decide +kernel
theorem dX12_isSeven_36 : decode cX12_isSeven 36 = .ok (.aload_n 0, 1) := by decide +kernel

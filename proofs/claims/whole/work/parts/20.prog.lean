theorem dX0_init_0 : decode cX0_init 0 = .ok (.aload_n 0, 1) := by decide +kernel
theorem dX0_init_1 : decode cX0_init 1 = .ok (.invokespecial 3, 3) := by decide +kernel
theorem dX0_init_4 : decode cX0_init 4 = .ok (.aload_n 0, 1) := by decide +kernel
theorem dX0_init_5 : decode cX0_init 5 = .ok (.bipush 50, 2) := by decide +kernel
theorem dX0_init_7 : decode cX0_init 7 = .ok (.newarray .int, 2) := by decide +kernel
theorem dX0_init_9 : decode cX0_init 9 = .ok (.putfield 11, 3) := by decide +kernel
theorem dX0_init_12 : decode cX0_init 12 = .ok (.aload_n 0, 1) := by decide +kernel
theorem dX0_init_13 : decode cX0_init 13 = .ok (.bipush 24, 2) := by decide +kernel
theorem dX0_init_15 : decode cX0_init 15 = .ok (.newarray .int, 2) := by decide +kernel
theorem dX0_init_17 : decode cX0_init 17 = .ok (.putfield 15, 3) := by decide +kernel
theorem dX0_init_20 : decode cX0_init 20 = .ok (.return_, 1) := by decide +kernel
theorem dX0_isKind_0 : decode cX0_isKind 0 = .ok (.iload_n 0, 1) := by decide +kernel
theorem dX0_isKind_1 : decode cX0_isKind 1 = .ok (.ifCond .lt 13, 3) := by decide +kernel
theorem dX0_isKind_4 : decode cX0_isKind 4 = .ok (.iload_n 0, 1) := by decide +kernel
theorem dX0_isKind_5 : decode cX0_isKind 5 = .ok (.bipush 8, 2) := by decide +kernel
theorem dX0_isKind_7 : decode cX0_isKind 7 = .ok (.if_icmp .ge 7, 3) := by decide +kernel
theorem dX0_isKind_10 : decode cX0_isKind 10 = .ok (.iconst 1, 1) := by decide +kernel
theorem dX0_isKind_11 : decode cX0_isKind 11 = .ok (.goto 4, 3) := by decide +kernel
theorem dX0_isKind_14 : decode cX0_isKind 14 = .ok (.iconst 0, 1) := by decide +kernel
theorem dX0_isKind_15 : decode cX0_isKind 15 = .ok (.ireturn, 1) := by decide +kernel
theorem dX0_isUnder_0 : decode cX0_isUnder 0 = .ok (.iload_n 0, 1) := by decide +kernel
theorem dX0_isUnder_1 : decode cX0_isUnder 1 = .ok (.istore_n 2, 1) := by decide +kernel
theorem dX0_isUnder_2 : decode cX0_isUnder 2 = .ok (.iconst 0, 1) := by decide +kernel
theorem dX0_isUnder_3 : decode cX0_isUnder 3 = .ok (.istore_n 3, 1) := by decide +kernel
theorem dX0_isUnder_4 : decode cX0_isUnder 4 = .ok (.iload_n 3, 1) := by decide +kernel
theorem dX0_isUnder_5 : decode cX0_isUnder 5 = .ok (.bipush 8, 2) := by decide +kernel
theorem dX0_isUnder_7 : decode cX0_isUnder 7 = .ok (.if_icmp .ge 29, 3) := by decide +kernel
theorem dX0_isUnder_10 : decode cX0_isUnder 10 = .ok (.iload_n 2, 1) := by decide +kernel
theorem dX0_isUnder_11 : decode cX0_isUnder 11 = .ok (.invokestatic 18, 3) := by decide +kernel
theorem dX0_isUnder_14 : decode cX0_isUnder 14 = .ok (.ifCond .eq 22, 3) := by decide +kernel
theorem dX0_isUnder_17 : decode cX0_isUnder 17 = .ok (.iload_n 2, 1) := by decide +kernel
theorem dX0_isUnder_18 : decode cX0_isUnder 18 = .ok (.iload_n 1, 1) := by decide +kernel
theorem dX0_isUnder_19 : decode cX0_isUnder 19 = .ok (.if_icmp .ne 5, 3) := by decide +kernel
theorem dX0_isUnder_22 : decode cX0_isUnder 22 = .ok (.iconst 1, 1) := by decide +kernel
theorem dX0_isUnder_23 : decode cX0_isUnder 23 = .ok (.ireturn, 1) := by decide +kernel
theorem dX0_isUnder_24 : decode cX0_isUnder 24 = .ok (.getstatic 22, 3) := by decide +kernel
theorem dX0_isUnder_27 : decode cX0_isUnder 27 = .ok (.iload_n 2, 1) := by decide +kernel
theorem dX0_isUnder_28 : decode cX0_isUnder 28 = .ok (.iaload, 1) := by decide +kernel
theorem dX0_isUnder_29 : decode cX0_isUnder 29 = .ok (.istore_n 2, 1) := by decide +kernel
theorem dX0_isUnder_30 : decode cX0_isUnder 30 = .ok (.iinc 3 1, 3) := by decide +kernel
theorem dX0_isUnder_33 : decode cX0_isUnder 33 = .ok (.goto (-29), 3) := by decide +kernel
theorem dX0_isUnder_36 : decode cX0_isUnder 36 = .ok (.iconst 0, 1) := by decide +kernel
theorem dX0_isUnder_37 : decode cX0_isUnder 37 = .ok (.ireturn, 1) := by decide +kernel
theorem dX0_size_0 : decode cX0_size 0 = .ok (.aload_n 0, 1) := by decide +kernel
theorem dX0_size_1 : decode cX0_size 1 = .ok (.getfield 25, 3) := by decide +kernel
theorem dX0_size_4 : decode cX0_size 4 = .ok (.ireturn, 1) := by decide +kernel
theorem dX0_ran_0 : decode cX0_ran 0 = .ok (.aload_n 0, 1) := by decide +kernel
theorem dX0_ran_1 : decode cX0_ran 1 = .ok (.getfield 29, 3) := by decide +kernel
theorem dX0_ran_4 : decode cX0_ran 4 = .ok (.ireturn, 1) := by decide +kernel
theorem dX0_has_0 : decode cX0_has 0 = .ok (.iload_n 1, 1) := by decide +kernel
theorem dX0_has_1 : decode cX0_has 1 = .ok (.ifCond .lt 15, 3) := by decide +kernel
theorem dX0_has_4 : decode cX0_has 4 = .ok (.iload_n 1, 1) := by decide +kernel
theorem dX0_has_5 : decode cX0_has 5 = .ok (.aload_n 0, 1) := by decide +kernel
theorem dX0_has_6 : decode cX0_has 6 = .ok (.getfield 25, 3) := by decide +kernel
theorem dX0_has_9 : decode cX0_has 9 = .ok (.if_icmp .ge 7, 3) := by decide +kernel
theorem dX0_has_12 : decode cX0_has 12 = .ok (.iconst 1, 1) := by decide +kernel
theorem dX0_has_13 : decode cX0_has 13 = .ok (.goto 4, 3) := by decide +kernel
theorem dX0_has_16 : decode cX0_has 16 = .ok (.iconst 0, 1) := by decide +kernel
theorem dX0_has_17 : decode cX0_has 17 = .ok (.ireturn, 1) := by decide +kernel
theorem dX0_kindOf_0 : decode cX0_kindOf 0 = .ok (.aload_n 0, 1) := by decide +kernel
theorem dX0_kindOf_1 : decode cX0_kindOf 1 = .ok (.iload_n 1, 1) := by decide +kernel
theorem dX0_kindOf_2 : decode cX0_kindOf 2 = .ok (.invokevirtual 32, 3) := by decide +kernel
theorem dX0_kindOf_5 : decode cX0_kindOf 5 = .ok (.ifCond .eq 12, 3) := by decide +kernel
theorem dX0_kindOf_8 : decode cX0_kindOf 8 = .ok (.aload_n 0, 1) := by decide +kernel
theorem dX0_kindOf_9 : decode cX0_kindOf 9 = .ok (.getfield 11, 3) := by decide +kernel
theorem dX0_kindOf_12 : decode cX0_kindOf 12 = .ok (.iload_n 1, 1) := by decide +kernel
theorem dX0_kindOf_13 : decode cX0_kindOf 13 = .ok (.iaload, 1) := by decide +kernel
theorem dX0_kindOf_14 : decode cX0_kindOf 14 = .ok (.goto 4, 3) := by decide +kernel
theorem dX0_kindOf_17 : decode cX0_kindOf 17 = .ok (.iconst (-1), 1) := by decide +kernel
theorem dX0_kindOf_18 : decode cX0_kindOf 18 = .ok (.ireturn, 1) := by decide +kernel
theorem dX0_admit_0 : decode cX0_admit 0 = .ok (.aload_n 0, 1) := by decide +kernel
theorem dX0_admit_1 : decode cX0_admit 1 = .ok (.getfield 25, 3) := by decide +kernel
theorem dX0_admit_4 : decode cX0_admit 4 = .ok (.bipush 50, 2) := by decide +kernel
theorem dX0_admit_6 : decode cX0_admit 6 = .ok (.if_icmp .lt 6, 3) := by decide +kernel
theorem dX0_admit_9 : decode cX0_admit 9 = .ok (.bipush (-3), 2) := by decide +kernel
theorem dX0_admit_11 : decode cX0_admit 11 = .ok (.ireturn, 1) := by decide +kernel
theorem dX0_admit_12 : decode cX0_admit 12 = .ok (.aload_n 0, 1) := by decide +kernel
theorem dX0_admit_13 : decode cX0_admit 13 = .ok (.getfield 11, 3) := by decide +kernel
theorem dX0_admit_16 : decode cX0_admit 16 = .ok (.aload_n 0, 1) := by decide +kernel
theorem dX0_admit_17 : decode cX0_admit 17 = .ok (.getfield 25, 3) := by decide +kernel
theorem dX0_admit_20 : decode cX0_admit 20 = .ok (.iload_n 1, 1) := by decide +kernel
theorem dX0_admit_21 : decode cX0_admit 21 = .ok (.iastore, 1) := by decide +kernel
theorem dX0_admit_22 : decode cX0_admit 22 = .ok (.aload_n 0, 1) := by decide +kernel
theorem dX0_admit_23 : decode cX0_admit 23 = .ok (.dup, 1) := by decide +kernel
theorem dX0_admit_24 : decode cX0_admit 24 = .ok (.getfield 25, 3) := by decide +kernel
theorem dX0_admit_27 : decode cX0_admit 27 = .ok (.iconst 1, 1) := by decide +kernel
theorem dX0_admit_28 : decode cX0_admit 28 = .ok (.iadd, 1) := by decide +kernel
theorem dX0_admit_29 : decode cX0_admit 29 = .ok (.putfield 25, 3) := by decide +kernel
theorem dX0_admit_32 : decode cX0_admit 32 = .ok (.aload_n 0, 1) := by decide +kernel
theorem dX0_admit_33 : decode cX0_admit 33 = .ok (.getfield 25, 3) := by decide +kernel
theorem dX0_admit_36 : decode cX0_admit 36 = .ok (.iconst 1, 1) := by decide +kernel
theorem dX0_admit_37 : decode cX0_admit 37 = .ok (.isub, 1) := by decide +kernel
theorem dX0_admit_38 : decode cX0_admit 38 = .ok (.ireturn, 1) := by decide +kernel
theorem dX0_traced_0 : decode cX0_traced 0 = .ok (.iload_n 1, 1) := by decide +kernel
theorem dX0_traced_1 : decode cX0_traced 1 = .ok (.ifCond .lt 26, 3) := by decide +kernel
theorem dX0_traced_4 : decode cX0_traced 4 = .ok (.iload_n 1, 1) := by decide +kernel
theorem dX0_traced_5 : decode cX0_traced 5 = .ok (.aload_n 0, 1) := by decide +kernel
theorem dX0_traced_6 : decode cX0_traced 6 = .ok (.getfield 29, 3) := by decide +kernel
theorem dX0_traced_9 : decode cX0_traced 9 = .ok (.if_icmp .ge 18, 3) := by decide +kernel
theorem dX0_traced_12 : decode cX0_traced 12 = .ok (.iload_n 1, 1) := by decide +kernel
theorem dX0_traced_13 : decode cX0_traced 13 = .ok (.bipush 24, 2) := by decide +kernel
theorem dX0_traced_15 : decode cX0_traced 15 = .ok (.if_icmp .ge 12, 3) := by decide +kernel
theorem dX0_traced_18 : decode cX0_traced 18 = .ok (.aload_n 0, 1) := by decide +kernel
theorem dX0_traced_19 : decode cX0_traced 19 = .ok (.getfield 15, 3) := by decide +kernel
theorem dX0_traced_22 : decode cX0_traced 22 = .ok (.iload_n 1, 1) := by decide +kernel
theorem dX0_traced_23 : decode cX0_traced 23 = .ok (.iaload, 1) := by decide +kernel
theorem dX0_traced_24 : decode cX0_traced 24 = .ok (.goto 4, 3) := by decide +kernel
theorem dX0_traced_27 : decode cX0_traced 27 = .ok (.iconst (-1), 1) := by decide +kernel
theorem dX0_traced_28 : decode cX0_traced 28 = .ok (.ireturn, 1) := by decide +kernel
theorem dX0_note_0 : decode cX0_note 0 = .ok (.aload_n 0, 1) := by decide +kernel
theorem dX0_note_1 : decode cX0_note 1 = .ok (.getfield 29, 3) := by decide +kernel
theorem dX0_note_4 : decode cX0_note 4 = .ok (.bipush 24, 2) := by decide +kernel
theorem dX0_note_6 : decode cX0_note 6 = .ok (.if_icmp .ge 13, 3) := by decide +kernel
theorem dX0_note_9 : decode cX0_note 9 = .ok (.aload_n 0, 1) := by decide +kernel
theorem dX0_note_10 : decode cX0_note 10 = .ok (.getfield 15, 3) := by decide +kernel
theorem dX0_note_13 : decode cX0_note 13 = .ok (.aload_n 0, 1) := by decide +kernel
theorem dX0_note_14 : decode cX0_note 14 = .ok (.getfield 29, 3) := by decide +kernel
theorem dX0_note_17 : decode cX0_note 17 = .ok (.iload_n 1, 1) := by decide +kernel
theorem dX0_note_18 : decode cX0_note 18 = .ok (.iastore, 1) := by decide +kernel
theorem dX0_note_19 : decode cX0_note 19 = .ok (.aload_n 0, 1) := by decide +kernel
theorem dX0_note_20 : decode cX0_note 20 = .ok (.dup, 1) := by decide +kernel
theorem dX0_note_21 : decode cX0_note 21 = .ok (.getfield 29, 3) := by decide +kernel
theorem dX0_note_24 : decode cX0_note 24 = .ok (.iconst 1, 1) := by decide +kernel
theorem dX0_note_25 : decode cX0_note 25 = .ok (.iadd, 1) := by decide +kernel
theorem dX0_note_26 : decode cX0_note 26 = .ok (.putfield 29, 3) := by decide +kernel
theorem dX0_note_29 : decode cX0_note 29 = .ok (.return_, 1) := by decide +kernel
theorem dX0_own_0 : decode cX0_own 0 = .ok (.aload_n 0, 1) := by decide +kernel
theorem dX0_own_1 : decode cX0_own 1 = .ok (.aload_n 0, 1) := by decide +kernel
theorem dX0_own_2 : decode cX0_own 2 = .ok (.aload_n 0, 1) := by decide +kernel
theorem dX0_own_3 : decode cX0_own 3 = .ok (.getfield 35, 3) := by decide +kernel
theorem dX0_own_6 : decode cX0_own 6 = .ok (.invokevirtual 42, 3) := by decide +kernel
theorem dX0_own_9 : decode cX0_own 9 = .ok (.iload_n 1, 1) := by decide +kernel
theorem dX0_own_10 : decode cX0_own 10 = .ok (.iload_n 2, 1) := by decide +kernel
theorem dX0_own_11 : decode cX0_own 11 = .ok (.iload_n 3, 1) := by decide +kernel
theorem dX0_own_12 : decode cX0_own 12 = .ok (.invokevirtual 46, 3) := by decide +kernel
theorem dX0_own_15 : decode cX0_own 15 = .ok (.ireturn, 1) := by decide +kernel
theorem dX0_from_0 : decode cX0_from 0 = .ok (.iload_n 1, 1) := by decide +kernel
theorem dX0_from_1 : decode cX0_from 1 = .ok (.istore 5, 2) := by decide +kernel
theorem dX0_from_3 : decode cX0_from 3 = .ok (.iconst 0, 1) := by decide +kernel
theorem dX0_from_4 : decode cX0_from 4 = .ok (.istore 6, 2) := by decide +kernel
theorem dX0_from_6 : decode cX0_from 6 = .ok (.iload 6, 2) := by decide +kernel
theorem dX0_from_8 : decode cX0_from 8 = .ok (.bipush 8, 2) := by decide +kernel
theorem dX0_from_10 : decode cX0_from 10 = .ok (.if_icmp .ge 71, 3) := by decide +kernel
theorem dX0_from_13 : decode cX0_from 13 = .ok (.iload 5, 2) := by decide +kernel
theorem dX0_from_15 : decode cX0_from 15 = .ok (.invokestatic 18, 3) := by decide +kernel
theorem dX0_from_18 : decode cX0_from 18 = .ok (.ifCond .eq 63, 3) := by decide +kernel
theorem dX0_from_21 : decode cX0_from 21 = .ok (.getstatic 50, 3) := by decide +kernel
theorem dX0_from_24 : decode cX0_from 24 = .ok (.iconst 4, 1) := by decide +kernel
theorem dX0_from_25 : decode cX0_from 25 = .ok (.iload 5, 2) := by decide +kernel
theorem dX0_from_27 : decode cX0_from 27 = .ok (.imul, 1) := by decide +kernel
theorem dX0_from_28 : decode cX0_from 28 = .ok (.iload_n 2, 1) := by decide +kernel
theorem dX0_from_29 : decode cX0_from 29 = .ok (.iadd, 1) := by decide +kernel
theorem dX0_from_30 : decode cX0_from 30 = .ok (.iaload, 1) := by decide +kernel
theorem dX0_from_31 : decode cX0_from 31 = .ok (.istore 7, 2) := by decide +kernel
theorem dX0_from_33 : decode cX0_from 33 = .ok (.iload 7, 2) := by decide +kernel
theorem dX0_from_35 : decode cX0_from 35 = .ok (.ifCond .eq 32, 3) := by decide +kernel
theorem dX0_from_38 : decode cX0_from 38 = .ok (.iload 4, 2) := by decide +kernel
theorem dX0_from_40 : decode cX0_from 40 = .ok (.bipush 40, 2) := by decide +kernel
theorem dX0_from_42 : decode cX0_from 42 = .ok (.if_icmp .ge 23, 3) := by decide +kernel
theorem dX0_from_45 : decode cX0_from 45 = .ok (.aload_n 0, 1) := by decide +kernel
theorem dX0_from_46 : decode cX0_from 46 = .ok (.iload 7, 2) := by decide +kernel
theorem dX0_from_48 : decode cX0_from 48 = .ok (.getstatic 22, 3) := by decide +kernel
theorem dX0_from_51 : decode cX0_from 51 = .ok (.iload 5, 2) := by decide +kernel
theorem dX0_from_53 : decode cX0_from 53 = .ok (.iaload, 1) := by decide +kernel
theorem dX0_from_54 : decode cX0_from 54 = .ok (.iload_n 3, 1) := by decide +kernel
theorem dX0_from_55 : decode cX0_from 55 = .ok (.iload 4, 2) := by decide +kernel
theorem dX0_from_57 : decode cX0_from 57 = .ok (.iconst 1, 1) := by decide +kernel
theorem dX0_from_58 : decode cX0_from 58 = .ok (.iadd, 1) := by decide +kernel
theorem dX0_from_59 : decode cX0_from 59 = .ok (.invokevirtual 53, 3) := by decide +kernel
theorem dX0_from_62 : decode cX0_from 62 = .ok (.goto 4, 3) := by decide +kernel
theorem dX0_from_65 : decode cX0_from 65 = .ok (.iconst 0, 1) := by decide +kernel
theorem dX0_from_66 : decode cX0_from 66 = .ok (.ireturn, 1) := by decide +kernel
theorem dX0_from_67 : decode cX0_from 67 = .ok (.getstatic 22, 3) := by decide +kernel
theorem dX0_from_70 : decode cX0_from 70 = .ok (.iload 5, 2) := by decide +kernel
theorem dX0_from_72 : decode cX0_from 72 = .ok (.iaload, 1) := by decide +kernel
theorem dX0_from_73 : decode cX0_from 73 = .ok (.istore 5, 2) := by decide +kernel
theorem dX0_from_75 : decode cX0_from 75 = .ok (.iinc 6 1, 3) := by decide +kernel
theorem dX0_from_78 : decode cX0_from 78 = .ok (.goto (-72), 3) := by decide +kernel
theorem dX0_from_81 : decode cX0_from 81 = .ok (.iconst 0, 1) := by decide +kernel
theorem dX0_from_82 : decode cX0_from 82 = .ok (.ireturn, 1) := by decide +kernel
theorem dX0_run_0 : decode cX0_run 0 = .ok (.aload_n 0, 1) := by decide +kernel
theorem dX0_run_1 : decode cX0_run 1 = .ok (.iload_n 1, 1) := by decide +kernel
theorem dX0_run_2 : decode cX0_run 2 = .ok (.invokevirtual 56, 3) := by decide +kernel
theorem dX0_run_5 : decode cX0_run 5 = .ok (.iload_n 1, 1) := by decide +kernel
theorem dX0_run_6 : decode cX0_run 6 = .ok (.lookupswitch 298 #[(1, 122), (2, 129), (10, 147), (11, 158), (20, 165), (30, 177), (40, 188), (41, 200), (50, 212), (60, 224), (61, 243), (70, 255), (80, 267), (81, 286)], 122) := by decide +kernel
theorem dX0_run_128 : decode cX0_run 128 = .ok (.iload_n 3, 1) := by decide +kernel
theorem dX0_run_129 : decode cX0_run 129 = .ok (.aload_n 0, 1) := by decide +kernel
theorem dX0_run_130 : decode cX0_run 130 = .ok (.getfield 35, 3) := by decide +kernel
theorem dX0_run_133 : decode cX0_run 133 = .ok (.iadd, 1) := by decide +kernel
theorem dX0_run_134 : decode cX0_run 134 = .ok (.ireturn, 1) := by decide +kernel
theorem dX0_run_135 : decode cX0_run 135 = .ok (.aload_n 0, 1) := by decide +kernel
theorem dX0_run_136 : decode cX0_run 136 = .ok (.iconst 1, 1) := by decide +kernel
theorem dX0_run_137 : decode cX0_run 137 = .ok (.iload_n 3, 1) := by decide +kernel
theorem dX0_run_138 : decode cX0_run 138 = .ok (.iload 4, 2) := by decide +kernel
theorem dX0_run_140 : decode cX0_run 140 = .ok (.invokevirtual 38, 3) := by decide +kernel
theorem dX0_run_143 : decode cX0_run 143 = .ok (.aload_n 0, 1) := by decide +kernel
theorem dX0_run_144 : decode cX0_run 144 = .ok (.iconst 2, 1) := by decide +kernel
theorem dX0_run_145 : decode cX0_run 145 = .ok (.iconst 1, 1) := by decide +kernel
theorem dX0_run_146 : decode cX0_run 146 = .ok (.iload 4, 2) := by decide +kernel
theorem dX0_run_148 : decode cX0_run 148 = .ok (.invokevirtual 38, 3) := by decide +kernel
theorem dX0_run_151 : decode cX0_run 151 = .ok (.isub, 1) := by decide +kernel
theorem dX0_run_152 : decode cX0_run 152 = .ok (.ireturn, 1) := by decide +kernel
theorem dX0_run_153 : decode cX0_run 153 = .ok (.aload_n 0, 1) := by decide +kernel
theorem dX0_run_154 : decode cX0_run 154 = .ok (.iconst 0, 1) := by decide +kernel
theorem dX0_run_155 : decode cX0_run 155 = .ok (.iload_n 3, 1) := by decide +kernel
theorem dX0_run_156 : decode cX0_run 156 = .ok (.iload 4, 2) := by decide +kernel
theorem dX0_run_158 : decode cX0_run 158 = .ok (.invokevirtual 38, 3) := by decide +kernel
theorem dX0_run_161 : decode cX0_run 161 = .ok (.iconst 2, 1) := by decide +kernel
theorem dX0_run_162 : decode cX0_run 162 = .ok (.imul, 1) := by decide +kernel
theorem dX0_run_163 : decode cX0_run 163 = .ok (.ireturn, 1) := by decide +kernel
theorem dX0_run_164 : decode cX0_run 164 = .ok (.iload_n 3, 1) := by decide +kernel
theorem dX0_run_165 : decode cX0_run 165 = .ok (.aload_n 0, 1) := by decide +kernel
theorem dX0_run_166 : decode cX0_run 166 = .ok (.getfield 35, 3) := by decide +kernel
theorem dX0_run_169 : decode cX0_run 169 = .ok (.ixor, 1) := by decide +kernel
theorem dX0_run_170 : decode cX0_run 170 = .ok (.ireturn, 1) := by decide +kernel
theorem dX0_run_171 : decode cX0_run 171 = .ok (.aload_n 0, 1) := by decide +kernel
theorem dX0_run_172 : decode cX0_run 172 = .ok (.iload_n 2, 1) := by decide +kernel
theorem dX0_run_173 : decode cX0_run 173 = .ok (.iconst 0, 1) := by decide +kernel
theorem dX0_run_174 : decode cX0_run 174 = .ok (.iload_n 3, 1) := by decide +kernel
theorem dX0_run_175 : decode cX0_run 175 = .ok (.iload 4, 2) := by decide +kernel
theorem dX0_run_177 : decode cX0_run 177 = .ok (.invokevirtual 46, 3) := by decide +kernel
theorem dX0_run_180 : decode cX0_run 180 = .ok (.iconst 3, 1) := by decide +kernel
theorem dX0_run_181 : decode cX0_run 181 = .ok (.iadd, 1) := by decide +kernel
theorem dX0_run_182 : decode cX0_run 182 = .ok (.ireturn, 1) := by decide +kernel
theorem dX0_run_183 : decode cX0_run 183 = .ok (.aload_n 0, 1) := by decide +kernel
theorem dX0_run_184 : decode cX0_run 184 = .ok (.iload_n 2, 1) := by decide +kernel
theorem dX0_run_185 : decode cX0_run 185 = .ok (.iconst 1, 1) := by decide +kernel
theorem dX0_run_186 : decode cX0_run 186 = .ok (.iload_n 3, 1) := by decide +kernel
theorem dX0_run_187 : decode cX0_run 187 = .ok (.iload 4, 2) := by decide +kernel
theorem dX0_run_189 : decode cX0_run 189 = .ok (.invokevirtual 46, 3) := by decide +kernel
theorem dX0_run_192 : decode cX0_run 192 = .ok (.ineg, 1) := by decide +kernel
theorem dX0_run_193 : decode cX0_run 193 = .ok (.ireturn, 1) := by decide +kernel
theorem dX0_run_194 : decode cX0_run 194 = .ok (.aload_n 0, 1) := by decide +kernel
theorem dX0_run_195 : decode cX0_run 195 = .ok (.iload_n 2, 1) := by decide +kernel
theorem dX0_run_196 : decode cX0_run 196 = .ok (.iconst 2, 1) := by decide +kernel
theorem dX0_run_197 : decode cX0_run 197 = .ok (.iload_n 3, 1) := by decide +kernel
theorem dX0_run_198 : decode cX0_run 198 = .ok (.iload 4, 2) := by decide +kernel
theorem dX0_run_200 : decode cX0_run 200 = .ok (.invokevirtual 46, 3) := by decide +kernel
theorem dX0_run_203 : decode cX0_run 203 = .ok (.iconst 3, 1) := by decide +kernel
theorem dX0_run_204 : decode cX0_run 204 = .ok (.imul, 1) := by decide +kernel
theorem dX0_run_205 : decode cX0_run 205 = .ok (.ireturn, 1) := by decide +kernel
theorem dX0_run_206 : decode cX0_run 206 = .ok (.aload_n 0, 1) := by decide +kernel
theorem dX0_run_207 : decode cX0_run 207 = .ok (.iload_n 2, 1) := by decide +kernel
theorem dX0_run_208 : decode cX0_run 208 = .ok (.iconst 1, 1) := by decide +kernel
theorem dX0_run_209 : decode cX0_run 209 = .ok (.iload_n 3, 1) := by decide +kernel
theorem dX0_run_210 : decode cX0_run 210 = .ok (.iconst 1, 1) := by decide +kernel
theorem dX0_run_211 : decode cX0_run 211 = .ok (.iadd, 1) := by decide +kernel
theorem dX0_run_212 : decode cX0_run 212 = .ok (.iload 4, 2) := by decide +kernel
theorem dX0_run_214 : decode cX0_run 214 = .ok (.invokevirtual 46, 3) := by decide +kernel
theorem dX0_run_217 : decode cX0_run 217 = .ok (.ireturn, 1) := by decide +kernel
theorem dX0_run_218 : decode cX0_run 218 = .ok (.aload_n 0, 1) := by decide +kernel
theorem dX0_run_219 : decode cX0_run 219 = .ok (.iload_n 2, 1) := by decide +kernel
theorem dX0_run_220 : decode cX0_run 220 = .ok (.iconst 3, 1) := by decide +kernel
theorem dX0_run_221 : decode cX0_run 221 = .ok (.iload_n 3, 1) := by decide +kernel
theorem dX0_run_222 : decode cX0_run 222 = .ok (.iload 4, 2) := by decide +kernel
theorem dX0_run_224 : decode cX0_run 224 = .ok (.invokevirtual 46, 3) := by decide +kernel
theorem dX0_run_227 : decode cX0_run 227 = .ok (.iconst 5, 1) := by decide +kernel
theorem dX0_run_228 : decode cX0_run 228 = .ok (.ixor, 1) := by decide +kernel
theorem dX0_run_229 : decode cX0_run 229 = .ok (.ireturn, 1) := by decide +kernel
theorem dX0_run_230 : decode cX0_run 230 = .ok (.aload_n 0, 1) := by decide +kernel
theorem dX0_run_231 : decode cX0_run 231 = .ok (.iload_n 2, 1) := by decide +kernel
theorem dX0_run_232 : decode cX0_run 232 = .ok (.iconst 2, 1) := by decide +kernel
theorem dX0_run_233 : decode cX0_run 233 = .ok (.iload_n 3, 1) := by decide +kernel
theorem dX0_run_234 : decode cX0_run 234 = .ok (.iload 4, 2) := by decide +kernel
theorem dX0_run_236 : decode cX0_run 236 = .ok (.invokevirtual 46, 3) := by decide +kernel
theorem dX0_run_239 : decode cX0_run 239 = .ok (.aload_n 0, 1) := by decide +kernel
theorem dX0_run_240 : decode cX0_run 240 = .ok (.iconst 0, 1) := by decide +kernel
theorem dX0_run_241 : decode cX0_run 241 = .ok (.iconst 2, 1) := by decide +kernel
theorem dX0_run_242 : decode cX0_run 242 = .ok (.iload 4, 2) := by decide +kernel
theorem dX0_run_244 : decode cX0_run 244 = .ok (.invokevirtual 38, 3) := by decide +kernel
theorem dX0_run_247 : decode cX0_run 247 = .ok (.isub, 1) := by decide +kernel
theorem dX0_run_248 : decode cX0_run 248 = .ok (.ireturn, 1) := by decide +kernel
theorem dX0_run_249 : decode cX0_run 249 = .ok (.aload_n 0, 1) := by decide +kernel
theorem dX0_run_250 : decode cX0_run 250 = .ok (.iload_n 2, 1) := by decide +kernel
theorem dX0_run_251 : decode cX0_run 251 = .ok (.iconst 3, 1) := by decide +kernel
theorem dX0_run_252 : decode cX0_run 252 = .ok (.iload_n 3, 1) := by decide +kernel
theorem dX0_run_253 : decode cX0_run 253 = .ok (.iload 4, 2) := by decide +kernel
theorem dX0_run_255 : decode cX0_run 255 = .ok (.invokevirtual 46, 3) := by decide +kernel
theorem dX0_run_258 : decode cX0_run 258 = .ok (.iconst 1, 1) := by decide +kernel
theorem dX0_run_259 : decode cX0_run 259 = .ok (.iadd, 1) := by decide +kernel
theorem dX0_run_260 : decode cX0_run 260 = .ok (.ireturn, 1) := by decide +kernel
theorem dX0_run_261 : decode cX0_run 261 = .ok (.aload_n 0, 1) := by decide +kernel
theorem dX0_run_262 : decode cX0_run 262 = .ok (.iload_n 2, 1) := by decide +kernel
theorem dX0_run_263 : decode cX0_run 263 = .ok (.iconst 0, 1) := by decide +kernel
theorem dX0_run_264 : decode cX0_run 264 = .ok (.iload_n 3, 1) := by decide +kernel
theorem dX0_run_265 : decode cX0_run 265 = .ok (.iload 4, 2) := by decide +kernel
theorem dX0_run_267 : decode cX0_run 267 = .ok (.invokevirtual 46, 3) := by decide +kernel
theorem dX0_run_270 : decode cX0_run 270 = .ok (.iconst 2, 1) := by decide +kernel
theorem dX0_run_271 : decode cX0_run 271 = .ok (.imul, 1) := by decide +kernel
theorem dX0_run_272 : decode cX0_run 272 = .ok (.ireturn, 1) := by decide +kernel
theorem dX0_run_273 : decode cX0_run 273 = .ok (.aload_n 0, 1) := by decide +kernel
theorem dX0_run_274 : decode cX0_run 274 = .ok (.iload_n 2, 1) := by decide +kernel
theorem dX0_run_275 : decode cX0_run 275 = .ok (.iconst 1, 1) := by decide +kernel
theorem dX0_run_276 : decode cX0_run 276 = .ok (.iload_n 3, 1) := by decide +kernel
theorem dX0_run_277 : decode cX0_run 277 = .ok (.iload 4, 2) := by decide +kernel
theorem dX0_run_279 : decode cX0_run 279 = .ok (.invokevirtual 46, 3) := by decide +kernel
theorem dX0_run_282 : decode cX0_run 282 = .ok (.aload_n 0, 1) := by decide +kernel
theorem dX0_run_283 : decode cX0_run 283 = .ok (.iconst 2, 1) := by decide +kernel
theorem dX0_run_284 : decode cX0_run 284 = .ok (.iconst 2, 1) := by decide +kernel
theorem dX0_run_285 : decode cX0_run 285 = .ok (.iload 4, 2) := by decide +kernel
theorem dX0_run_287 : decode cX0_run 287 = .ok (.invokevirtual 38, 3) := by decide +kernel
theorem dX0_run_290 : decode cX0_run 290 = .ok (.iadd, 1) := by decide +kernel
theorem dX0_run_291 : decode cX0_run 291 = .ok (.ireturn, 1) := by decide +kernel
theorem dX0_run_292 : decode cX0_run 292 = .ok (.aload_n 0, 1) := by decide +kernel
theorem dX0_run_293 : decode cX0_run 293 = .ok (.iload_n 2, 1) := by decide +kernel
theorem dX0_run_294 : decode cX0_run 294 = .ok (.iconst 3, 1) := by decide +kernel
theorem dX0_run_295 : decode cX0_run 295 = .ok (.iload_n 3, 1) := by decide +kernel
theorem dX0_run_296 : decode cX0_run 296 = .ok (.iload 4, 2) := by decide +kernel
theorem dX0_run_298 : decode cX0_run 298 = .ok (.invokevirtual 46, 3) := by decide +kernel
theorem dX0_run_301 : decode cX0_run 301 = .ok (.iconst 1, 1) := by decide +kernel
theorem dX0_run_302 : decode cX0_run 302 = .ok (.isub, 1) := by decide +kernel
theorem dX0_run_303 : decode cX0_run 303 = .ok (.ireturn, 1) := by decide +kernel
theorem dX0_run_304 : decode cX0_run 304 = .ok (.iconst 0, 1) := by decide +kernel
theorem dX0_run_305 : decode cX0_run 305 = .ok (.ireturn, 1) := by decide +kernel
theorem dX0_begin_0 : decode cX0_begin 0 = .ok (.aload_n 0, 1) := by decide +kernel
theorem dX0_begin_1 : decode cX0_begin 1 = .ok (.iconst 0, 1) := by decide +kernel
theorem dX0_begin_2 : decode cX0_begin 2 = .ok (.putfield 29, 3) := by decide +kernel
theorem dX0_begin_5 : decode cX0_begin 5 = .ok (.aload_n 0, 1) := by decide +kernel
theorem dX0_begin_6 : decode cX0_begin 6 = .ok (.iload_n 1, 1) := by decide +kernel
theorem dX0_begin_7 : decode cX0_begin 7 = .ok (.invokevirtual 32, 3) := by decide +kernel
theorem dX0_begin_10 : decode cX0_begin 10 = .ok (.ifCond .eq 12, 3) := by decide +kernel
theorem dX0_begin_13 : decode cX0_begin 13 = .ok (.iload_n 2, 1) := by decide +kernel
theorem dX0_begin_14 : decode cX0_begin 14 = .ok (.ifCond .lt 8, 3) := by decide +kernel
theorem dX0_begin_17 : decode cX0_begin 17 = .ok (.iload_n 2, 1) := by decide +kernel
theorem dX0_begin_18 : decode cX0_begin 18 = .ok (.iconst 3, 1) := by decide +kernel
theorem dX0_begin_19 : decode cX0_begin 19 = .ok (.if_icmp .le 5, 3) := by decide +kernel
theorem dX0_begin_22 : decode cX0_begin 22 = .ok (.iconst 0, 1) := by decide +kernel
theorem dX0_begin_23 : decode cX0_begin 23 = .ok (.ireturn, 1) := by decide +kernel
theorem dX0_begin_24 : decode cX0_begin 24 = .ok (.aload_n 0, 1) := by decide +kernel
theorem dX0_begin_25 : decode cX0_begin 25 = .ok (.iload_n 1, 1) := by decide +kernel
theorem dX0_begin_26 : decode cX0_begin 26 = .ok (.putfield 35, 3) := by decide +kernel
theorem dX0_begin_29 : decode cX0_begin 29 = .ok (.aload_n 0, 1) := by decide +kernel
theorem dX0_begin_30 : decode cX0_begin 30 = .ok (.iload_n 2, 1) := by decide +kernel
theorem dX0_begin_31 : decode cX0_begin 31 = .ok (.iload_n 3, 1) := by decide +kernel
theorem dX0_begin_32 : decode cX0_begin 32 = .ok (.iconst 0, 1) := by decide +kernel
theorem dX0_begin_33 : decode cX0_begin 33 = .ok (.invokevirtual 38, 3) := by decide +kernel
theorem dX0_begin_36 : decode cX0_begin 36 = .ok (.ireturn, 1) := by decide +kernel
theorem dJ6_bitCount_0f7a4_0 : decode cJ6_bitCount_0f7a4 0 = .ok (.iload_n 0, 1) := by decide +kernel
theorem dJ6_bitCount_0f7a4_1 : decode cJ6_bitCount_0f7a4 1 = .ok (.iload_n 0, 1) := by decide +kernel
theorem dJ6_bitCount_0f7a4_2 : decode cJ6_bitCount_0f7a4 2 = .ok (.iconst 1, 1) := by decide +kernel
theorem dJ6_bitCount_0f7a4_3 : decode cJ6_bitCount_0f7a4 3 = .ok (.iushr, 1) := by decide +kernel
theorem dJ6_bitCount_0f7a4_4 : decode cJ6_bitCount_0f7a4 4 = .ok (.ldc_w 265, 3) := by decide +kernel
theorem dJ6_bitCount_0f7a4_7 : decode cJ6_bitCount_0f7a4 7 = .ok (.iand, 1) := by decide +kernel
theorem dJ6_bitCount_0f7a4_8 : decode cJ6_bitCount_0f7a4 8 = .ok (.isub, 1) := by decide +kernel
theorem dJ6_bitCount_0f7a4_9 : decode cJ6_bitCount_0f7a4 9 = .ok (.istore_n 0, 1) := by decide +kernel
theorem dJ6_bitCount_0f7a4_10 : decode cJ6_bitCount_0f7a4 10 = .ok (.iload_n 0, 1) := by decide +kernel
theorem dJ6_bitCount_0f7a4_11 : decode cJ6_bitCount_0f7a4 11 = .ok (.ldc_w 266, 3) := by decide +kernel
theorem dJ6_bitCount_0f7a4_14 : decode cJ6_bitCount_0f7a4 14 = .ok (.iand, 1) := by decide +kernel
theorem dJ6_bitCount_0f7a4_15 : decode cJ6_bitCount_0f7a4 15 = .ok (.iload_n 0, 1) := by decide +kernel
theorem dJ6_bitCount_0f7a4_16 : decode cJ6_bitCount_0f7a4 16 = .ok (.iconst 2, 1) := by decide +kernel
theorem dJ6_bitCount_0f7a4_17 : decode cJ6_bitCount_0f7a4 17 = .ok (.iushr, 1) := by decide +kernel
theorem dJ6_bitCount_0f7a4_18 : decode cJ6_bitCount_0f7a4 18 = .ok (.ldc_w 266, 3) := by decide +kernel
theorem dJ6_bitCount_0f7a4_21 : decode cJ6_bitCount_0f7a4 21 = .ok (.iand, 1) := by decide +kernel
theorem dJ6_bitCount_0f7a4_22 : decode cJ6_bitCount_0f7a4 22 = .ok (.iadd, 1) := by decide +kernel
theorem dJ6_bitCount_0f7a4_23 : decode cJ6_bitCount_0f7a4 23 = .ok (.istore_n 0, 1) := by decide +kernel
theorem dJ6_bitCount_0f7a4_24 : decode cJ6_bitCount_0f7a4 24 = .ok (.iload_n 0, 1) := by decide +kernel
theorem dJ6_bitCount_0f7a4_25 : decode cJ6_bitCount_0f7a4 25 = .ok (.iload_n 0, 1) := by decide +kernel
theorem dJ6_bitCount_0f7a4_26 : decode cJ6_bitCount_0f7a4 26 = .ok (.iconst 4, 1) := by decide +kernel
theorem dJ6_bitCount_0f7a4_27 : decode cJ6_bitCount_0f7a4 27 = .ok (.iushr, 1) := by decide +kernel
theorem dJ6_bitCount_0f7a4_28 : decode cJ6_bitCount_0f7a4 28 = .ok (.iadd, 1) := by decide +kernel
theorem dJ6_bitCount_0f7a4_29 : decode cJ6_bitCount_0f7a4 29 = .ok (.ldc_w 267, 3) := by decide +kernel
theorem dJ6_bitCount_0f7a4_32 : decode cJ6_bitCount_0f7a4 32 = .ok (.iand, 1) := by decide +kernel
theorem dJ6_bitCount_0f7a4_33 : decode cJ6_bitCount_0f7a4 33 = .ok (.istore_n 0, 1) := by decide +kernel
theorem dJ6_bitCount_0f7a4_34 : decode cJ6_bitCount_0f7a4 34 = .ok (.iload_n 0, 1) := by decide +kernel
theorem dJ6_bitCount_0f7a4_35 : decode cJ6_bitCount_0f7a4 35 = .ok (.iload_n 0, 1) := by decide +kernel
theorem dJ6_bitCount_0f7a4_36 : decode cJ6_bitCount_0f7a4 36 = .ok (.bipush 8, 2) := by decide +kernel
theorem dJ6_bitCount_0f7a4_38 : decode cJ6_bitCount_0f7a4 38 = .ok (.iushr, 1) := by decide +kernel
theorem dJ6_bitCount_0f7a4_39 : decode cJ6_bitCount_0f7a4 39 = .ok (.iadd, 1) := by decide +kernel
theorem dJ6_bitCount_0f7a4_40 : decode cJ6_bitCount_0f7a4 40 = .ok (.istore_n 0, 1) := by decide +kernel
theorem dJ6_bitCount_0f7a4_41 : decode cJ6_bitCount_0f7a4 41 = .ok (.iload_n 0, 1) := by decide +kernel
theorem dJ6_bitCount_0f7a4_42 : decode cJ6_bitCount_0f7a4 42 = .ok (.iload_n 0, 1) := by decide +kernel
theorem dJ6_bitCount_0f7a4_43 : decode cJ6_bitCount_0f7a4 43 = .ok (.bipush 16, 2) := by decide +kernel
theorem dJ6_bitCount_0f7a4_45 : decode cJ6_bitCount_0f7a4 45 = .ok (.iushr, 1) := by decide +kernel
theorem dJ6_bitCount_0f7a4_46 : decode cJ6_bitCount_0f7a4 46 = .ok (.iadd, 1) := by decide +kernel
theorem dJ6_bitCount_0f7a4_47 : decode cJ6_bitCount_0f7a4 47 = .ok (.istore_n 0, 1) := by decide +kernel
theorem dJ6_bitCount_0f7a4_48 : decode cJ6_bitCount_0f7a4 48 = .ok (.iload_n 0, 1) := by decide +kernel
theorem dJ6_bitCount_0f7a4_49 : decode cJ6_bitCount_0f7a4 49 = .ok (.bipush 63, 2) := by decide +kernel
theorem dJ6_bitCount_0f7a4_51 : decode cJ6_bitCount_0f7a4 51 = .ok (.iand, 1) := by decide +kernel
theorem dJ6_bitCount_0f7a4_52 : decode cJ6_bitCount_0f7a4 52 = .ok (.ireturn, 1) := by decide +kernel
theorem dX5_size_0 : decode cX5_size 0 = .ok (.aload_n 0, 1) := by decide +kernel
theorem dX5_size_1 : decode cX5_size 1 = .ok (.getfield 23, 3) := by decide +kernel
theorem dX5_size_4 : decode cX5_size 4 = .ok (.ireturn, 1) := by decide +kernel
theorem dX5_part_0 : decode cX5_part 0 = .ok (.iload_n 1, 1) := by decide +kernel
theorem dX5_part_1 : decode cX5_part 1 = .ok (.ifCond .lt 31, 3) := by decide +kernel
theorem dX5_part_4 : decode cX5_part 4 = .ok (.iload_n 1, 1) := by decide +kernel
theorem dX5_part_5 : decode cX5_part 5 = .ok (.aload_n 0, 1) := by decide +kernel
theorem dX5_part_6 : decode cX5_part 6 = .ok (.getfield 23, 3) := by decide +kernel
theorem dX5_part_9 : decode cX5_part 9 = .ok (.if_icmp .ge 23, 3) := by decide +kernel
theorem dX5_part_12 : decode cX5_part 12 = .ok (.iload_n 2, 1) := by decide +kernel
theorem dX5_part_13 : decode cX5_part 13 = .ok (.ifCond .lt 19, 3) := by decide +kernel
theorem dX5_part_16 : decode cX5_part 16 = .ok (.iload_n 2, 1) := by decide +kernel
theorem dX5_part_17 : decode cX5_part 17 = .ok (.iconst 3, 1) := by decide +kernel
theorem dX5_part_18 : decode cX5_part 18 = .ok (.if_icmp .gt 14, 3) := by decide +kernel
theorem dX5_part_21 : decode cX5_part 21 = .ok (.aload_n 0, 1) := by decide +kernel
theorem dX5_part_22 : decode cX5_part 22 = .ok (.getfield 13, 3) := by decide +kernel
theorem dX5_part_25 : decode cX5_part 25 = .ok (.iload_n 2, 1) := by decide +kernel
theorem dX5_part_26 : decode cX5_part 26 = .ok (.aaload, 1) := by decide +kernel
theorem dX5_part_27 : decode cX5_part 27 = .ok (.iload_n 1, 1) := by decide +kernel
theorem dX5_part_28 : decode cX5_part 28 = .ok (.iaload, 1) := by decide +kernel
theorem dX5_part_29 : decode cX5_part 29 = .ok (.goto 4, 3) := by decide +kernel
theorem dX5_part_32 : decode cX5_part 32 = .ok (.iconst 0, 1) := by decide +kernel
theorem dX5_part_33 : decode cX5_part 33 = .ok (.ireturn, 1) := by decide +kernel
theorem dX5_minute_0 : decode cX5_minute 0 = .ok (.iconst 0, 1) := by decide +kernel
theorem dX5_minute_1 : decode cX5_minute 1 = .ok (.istore_n 2, 1) := by decide +kernel
theorem dX5_minute_2 : decode cX5_minute 2 = .ok (.iconst 0, 1) := by decide +kernel
theorem dX5_minute_3 : decode cX5_minute 3 = .ok (.istore_n 3, 1) := by decide +kernel
theorem dX5_minute_4 : decode cX5_minute 4 = .ok (.iload_n 3, 1) := by decide +kernel
theorem dX5_minute_5 : decode cX5_minute 5 = .ok (.iload_n 1, 1) := by decide +kernel
theorem dX5_minute_6 : decode cX5_minute 6 = .ok (.if_icmp .ge 28, 3) := by decide +kernel
theorem dX5_minute_9 : decode cX5_minute 9 = .ok (.iload_n 3, 1) := by decide +kernel
theorem dX5_minute_10 : decode cX5_minute 10 = .ok (.aload_n 0, 1) := by decide +kernel
theorem dX5_minute_11 : decode cX5_minute 11 = .ok (.getfield 23, 3) := by decide +kernel
theorem dX5_minute_14 : decode cX5_minute 14 = .ok (.if_icmp .ge 20, 3) := by decide +kernel
theorem dX5_minute_17 : decode cX5_minute 17 = .ok (.iload_n 2, 1) := by decide +kernel
theorem dX5_minute_18 : decode cX5_minute 18 = .ok (.aload_n 0, 1) := by decide +kernel
theorem dX5_minute_19 : decode cX5_minute 19 = .ok (.getfield 13, 3) := by decide +kernel
theorem dX5_minute_22 : decode cX5_minute 22 = .ok (.iconst 3, 1) := by decide +kernel
theorem dX5_minute_23 : decode cX5_minute 23 = .ok (.aaload, 1) := by decide +kernel
theorem dX5_minute_24 : decode cX5_minute 24 = .ok (.iload_n 3, 1) := by decide +kernel
theorem dX5_minute_25 : decode cX5_minute 25 = .ok (.iaload, 1) := by decide +kernel
theorem dX5_minute_26 : decode cX5_minute 26 = .ok (.iadd, 1) := by decide +kernel
theorem dX5_minute_27 : decode cX5_minute 27 = .ok (.istore_n 2, 1) := by decide +kernel
theorem dX5_minute_28 : decode cX5_minute 28 = .ok (.iinc 3 1, 3) := by decide +kernel
theorem dX5_minute_31 : decode cX5_minute 31 = .ok (.goto (-27), 3) := by decide +kernel
theorem dX5_minute_34 : decode cX5_minute 34 = .ok (.iload_n 2, 1) := by decide +kernel
theorem dX5_minute_35 : decode cX5_minute 35 = .ok (.ireturn, 1) := by decide +kernel
theorem dX5_aheadOnSame_0 : decode cX5_aheadOnSame 0 = .ok (.iconst 0, 1) := by decide +kernel
theorem dX5_aheadOnSame_1 : decode cX5_aheadOnSame 1 = .ok (.istore_n 2, 1) := by decide +kernel
theorem dX5_aheadOnSame_2 : decode cX5_aheadOnSame 2 = .ok (.iconst 0, 1) := by decide +kernel
theorem dX5_aheadOnSame_3 : decode cX5_aheadOnSame 3 = .ok (.istore_n 3, 1) := by decide +kernel
theorem dX5_aheadOnSame_4 : decode cX5_aheadOnSame 4 = .ok (.iload_n 3, 1) := by decide +kernel
theorem dX5_aheadOnSame_5 : decode cX5_aheadOnSame 5 = .ok (.iload_n 1, 1) := by decide +kernel
theorem dX5_aheadOnSame_6 : decode cX5_aheadOnSame 6 = .ok (.if_icmp .ge 39, 3) := by decide +kernel
theorem dX5_aheadOnSame_9 : decode cX5_aheadOnSame 9 = .ok (.iload_n 1, 1) := by decide +kernel
theorem dX5_aheadOnSame_10 : decode cX5_aheadOnSame 10 = .ok (.aload_n 0, 1) := by decide +kernel
theorem dX5_aheadOnSame_11 : decode cX5_aheadOnSame 11 = .ok (.getfield 23, 3) := by decide +kernel
theorem dX5_aheadOnSame_14 : decode cX5_aheadOnSame 14 = .ok (.if_icmp .ge 31, 3) := by decide +kernel
theorem dX5_aheadOnSame_17 : decode cX5_aheadOnSame 17 = .ok (.aload_n 0, 1) := by decide +kernel
theorem dX5_aheadOnSame_18 : decode cX5_aheadOnSame 18 = .ok (.getfield 13, 3) := by decide +kernel
theorem dX5_aheadOnSame_21 : decode cX5_aheadOnSame 21 = .ok (.iconst 2, 1) := by decide +kernel
theorem dX5_aheadOnSame_22 : decode cX5_aheadOnSame 22 = .ok (.aaload, 1) := by decide +kernel
theorem dX5_aheadOnSame_23 : decode cX5_aheadOnSame 23 = .ok (.iload_n 3, 1) := by decide +kernel
theorem dX5_aheadOnSame_24 : decode cX5_aheadOnSame 24 = .ok (.iaload, 1) := by decide +kernel
theorem dX5_aheadOnSame_25 : decode cX5_aheadOnSame 25 = .ok (.aload_n 0, 1) := by decide +kernel
theorem dX5_aheadOnSame_26 : decode cX5_aheadOnSame 26 = .ok (.getfield 13, 3) := by decide +kernel
theorem dX5_aheadOnSame_29 : decode cX5_aheadOnSame 29 = .ok (.iconst 2, 1) := by decide +kernel
theorem dX5_aheadOnSame_30 : decode cX5_aheadOnSame 30 = .ok (.aaload, 1) := by decide +kernel
theorem dX5_aheadOnSame_31 : decode cX5_aheadOnSame 31 = .ok (.iload_n 1, 1) := by decide +kernel
theorem dX5_aheadOnSame_32 : decode cX5_aheadOnSame 32 = .ok (.iaload, 1) := by decide +kernel
theorem dX5_aheadOnSame_33 : decode cX5_aheadOnSame 33 = .ok (.if_icmp .ne 6, 3) := by decide +kernel
theorem dX5_aheadOnSame_36 : decode cX5_aheadOnSame 36 = .ok (.iinc 2 1, 3) := by decide +kernel
theorem dX5_aheadOnSame_39 : decode cX5_aheadOnSame 39 = .ok (.iinc 3 1, 3) := by decide +kernel
theorem dX5_aheadOnSame_42 : decode cX5_aheadOnSame 42 = .ok (.goto (-38), 3) := by decide +kernel
theorem dX5_aheadOnSame_45 : decode cX5_aheadOnSame 45 = .ok (.iload_n 2, 1) := by decide +kernel
theorem dX5_aheadOnSame_46 : decode cX5_aheadOnSame 46 = .ok (.ireturn, 1) := by decide +kernel
theorem dX2_init_0 : decode cX2_init 0 = .ok (.aload_n 0, 1) := by decide +kernel
theorem dX2_init_1 : decode cX2_init 1 = .ok (.invokespecial 1, 3) := by decide +kernel
theorem dX2_init_4 : decode cX2_init 4 = .ok (.aload_n 0, 1) := by decide +kernel
theorem dX2_init_5 : decode cX2_init 5 = .ok (.iconst 4, 1) := by decide +kernel
theorem dX2_init_6 : decode cX2_init 6 = .ok (.bipush 40, 2) := by decide +kernel
theorem dX2_init_8 : decode cX2_init 8 = .ok (.multianewarray 9 2, 4) := by decide +kernel
theorem dX2_init_12 : decode cX2_init 12 = .ok (.putfield 11, 3) := by decide +kernel
theorem dX2_init_15 : decode cX2_init 15 = .ok (.return_, 1) := by decide +kernel
theorem dX2_done_0 : decode cX2_done 0 = .ok (.aload_n 0, 1) := by decide +kernel
theorem dX2_done_1 : decode cX2_done 1 = .ok (.getfield 14, 3) := by decide +kernel
theorem dX2_done_4 : decode cX2_done 4 = .ok (.ireturn, 1) := by decide +kernel
theorem dX2_undone_0 : decode cX2_undone 0 = .ok (.aload_n 0, 1) := by decide +kernel
theorem dX2_undone_1 : decode cX2_undone 1 = .ok (.getfield 18, 3) := by decide +kernel
theorem dX2_undone_4 : decode cX2_undone 4 = .ok (.aload_n 0, 1) := by decide +kernel
theorem dX2_undone_5 : decode cX2_undone 5 = .ok (.getfield 14, 3) := by decide +kernel
theorem dX2_undone_8 : decode cX2_undone 8 = .ok (.isub, 1) := by decide +kernel
theorem dX2_undone_9 : decode cX2_undone 9 = .ok (.ireturn, 1) := by decide +kernel
theorem dX2_dropFirst_0 : decode cX2_dropFirst 0 = .ok (.aload_n 0, 1) := by decide +kernel
theorem dX2_dropFirst_1 : decode cX2_dropFirst 1 = .ok (.getfield 11, 3) := by decide +kernel
theorem dX2_dropFirst_4 : decode cX2_dropFirst 4 = .ok (.astore_n 1, 1) := by decide +kernel
theorem dX2_dropFirst_5 : decode cX2_dropFirst 5 = .ok (.aload_n 1, 1) := by decide +kernel
theorem dX2_dropFirst_6 : decode cX2_dropFirst 6 = .ok (.arraylength, 1) := by decide +kernel
theorem dX2_dropFirst_7 : decode cX2_dropFirst 7 = .ok (.istore_n 2, 1) := by decide +kernel
theorem dX2_dropFirst_8 : decode cX2_dropFirst 8 = .ok (.iconst 0, 1) := by decide +kernel
theorem dX2_dropFirst_9 : decode cX2_dropFirst 9 = .ok (.istore_n 3, 1) := by decide +kernel
theorem dX2_dropFirst_10 : decode cX2_dropFirst 10 = .ok (.iload_n 3, 1) := by decide +kernel
theorem dX2_dropFirst_11 : decode cX2_dropFirst 11 = .ok (.iload_n 2, 1) := by decide +kernel
theorem dX2_dropFirst_12 : decode cX2_dropFirst 12 = .ok (.if_icmp .ge 25, 3) := by decide +kernel
theorem dX2_dropFirst_15 : decode cX2_dropFirst 15 = .ok (.aload_n 1, 1) := by decide +kernel
theorem dX2_dropFirst_16 : decode cX2_dropFirst 16 = .ok (.iload_n 3, 1) := by decide +kernel
theorem dX2_dropFirst_17 : decode cX2_dropFirst 17 = .ok (.aaload, 1) := by decide +kernel
theorem dX2_dropFirst_18 : decode cX2_dropFirst 18 = .ok (.astore 4, 2) := by decide +kernel
theorem dX2_dropFirst_20 : decode cX2_dropFirst 20 = .ok (.aload 4, 2) := by decide +kernel
theorem dX2_dropFirst_22 : decode cX2_dropFirst 22 = .ok (.iconst 1, 1) := by decide +kernel
theorem dX2_dropFirst_23 : decode cX2_dropFirst 23 = .ok (.aload 4, 2) := by decide +kernel
theorem dX2_dropFirst_25 : decode cX2_dropFirst 25 = .ok (.iconst 0, 1) := by decide +kernel
theorem dX2_dropFirst_26 : decode cX2_dropFirst 26 = .ok (.bipush 39, 2) := by decide +kernel
theorem dX2_dropFirst_28 : decode cX2_dropFirst 28 = .ok (.invokestatic 30, 3) := by decide +kernel
theorem dX2_dropFirst_31 : decode cX2_dropFirst 31 = .ok (.iinc 3 1, 3) := by decide +kernel
theorem dX2_dropFirst_34 : decode cX2_dropFirst 34 = .ok (.goto (-24), 3) := by decide +kernel
theorem dX2_dropFirst_37 : decode cX2_dropFirst 37 = .ok (.aload_n 0, 1) := by decide +kernel
theorem dX2_dropFirst_38 : decode cX2_dropFirst 38 = .ok (.bipush 39, 2) := by decide +kernel
theorem dX2_dropFirst_40 : decode cX2_dropFirst 40 = .ok (.putfield 14, 3) := by decide +kernel
theorem dX2_dropFirst_43 : decode cX2_dropFirst 43 = .ok (.return_, 1) := by decide +kernel
theorem dX2_note_0 : decode cX2_note 0 = .ok (.aload_n 0, 1) := by decide +kernel
theorem dX2_note_1 : decode cX2_note 1 = .ok (.getfield 14, 3) := by decide +kernel
theorem dX2_note_4 : decode cX2_note 4 = .ok (.bipush 40, 2) := by decide +kernel
theorem dX2_note_6 : decode cX2_note 6 = .ok (.if_icmp .lt 7, 3) := by decide +kernel
theorem dX2_note_9 : decode cX2_note 9 = .ok (.aload_n 0, 1) := by decide +kernel
theorem dX2_note_10 : decode cX2_note 10 = .ok (.invokevirtual 21, 3) := by decide +kernel
theorem dX2_note_13 : decode cX2_note 13 = .ok (.aload_n 0, 1) := by decide +kernel
theorem dX2_note_14 : decode cX2_note 14 = .ok (.getfield 11, 3) := by decide +kernel
theorem dX2_note_17 : decode cX2_note 17 = .ok (.iconst 0, 1) := by decide +kernel
theorem dX2_note_18 : decode cX2_note 18 = .ok (.aaload, 1) := by decide +kernel
theorem dX2_note_19 : decode cX2_note 19 = .ok (.aload_n 0, 1) := by decide +kernel
theorem dX2_note_20 : decode cX2_note 20 = .ok (.getfield 14, 3) := by decide +kernel
theorem dX2_note_23 : decode cX2_note 23 = .ok (.iload_n 1, 1) := by decide +kernel
theorem dX2_note_24 : decode cX2_note 24 = .ok (.iastore, 1) := by decide +kernel
theorem dX2_note_25 : decode cX2_note 25 = .ok (.aload_n 0, 1) := by decide +kernel
theorem dX2_note_26 : decode cX2_note 26 = .ok (.getfield 11, 3) := by decide +kernel
theorem dX2_note_29 : decode cX2_note 29 = .ok (.iconst 1, 1) := by decide +kernel
theorem dX2_note_30 : decode cX2_note 30 = .ok (.aaload, 1) := by decide +kernel
theorem dX2_note_31 : decode cX2_note 31 = .ok (.aload_n 0, 1) := by decide +kernel
theorem dX2_note_32 : decode cX2_note 32 = .ok (.getfield 14, 3) := by decide +kernel
theorem dX2_note_35 : decode cX2_note 35 = .ok (.iload_n 2, 1) := by decide +kernel
theorem dX2_note_36 : decode cX2_note 36 = .ok (.iastore, 1) := by decide +kernel
theorem dX2_note_37 : decode cX2_note 37 = .ok (.aload_n 0, 1) := by decide +kernel
theorem dX2_note_38 : decode cX2_note 38 = .ok (.getfield 11, 3) := by decide +kernel
theorem dX2_note_41 : decode cX2_note 41 = .ok (.iconst 2, 1) := by decide +kernel
theorem dX2_note_42 : decode cX2_note 42 = .ok (.aaload, 1) := by decide +kernel
theorem dX2_note_43 : decode cX2_note 43 = .ok (.aload_n 0, 1) := by decide +kernel
theorem dX2_note_44 : decode cX2_note 44 = .ok (.getfield 14, 3) := by decide +kernel
theorem dX2_note_47 : decode cX2_note 47 = .ok (.iload_n 3, 1) := by decide +kernel
theorem dX2_note_48 : decode cX2_note 48 = .ok (.iastore, 1) := by decide +kernel
theorem dX2_note_49 : decode cX2_note 49 = .ok (.aload_n 0, 1) := by decide +kernel
theorem dX2_note_50 : decode cX2_note 50 = .ok (.getfield 11, 3) := by decide +kernel
theorem dX2_note_53 : decode cX2_note 53 = .ok (.iconst 3, 1) := by decide +kernel
theorem dX2_note_54 : decode cX2_note 54 = .ok (.aaload, 1) := by decide +kernel
theorem dX2_note_55 : decode cX2_note 55 = .ok (.aload_n 0, 1) := by decide +kernel
theorem dX2_note_56 : decode cX2_note 56 = .ok (.getfield 14, 3) := by decide +kernel
theorem dX2_note_59 : decode cX2_note 59 = .ok (.iload 4, 2) := by decide +kernel
theorem dX2_note_61 : decode cX2_note 61 = .ok (.iastore, 1) := by decide +kernel
theorem dX2_note_62 : decode cX2_note 62 = .ok (.aload_n 0, 1) := by decide +kernel
theorem dX2_note_63 : decode cX2_note 63 = .ok (.dup, 1) := by decide +kernel
theorem dX2_note_64 : decode cX2_note 64 = .ok (.getfield 14, 3) := by decide +kernel
theorem dX2_note_67 : decode cX2_note 67 = .ok (.iconst 1, 1) := by decide +kernel
theorem dX2_note_68 : decode cX2_note 68 = .ok (.iadd, 1) := by decide +kernel
theorem dX2_note_69 : decode cX2_note 69 = .ok (.putfield 14, 3) := by decide +kernel
theorem dX2_note_72 : decode cX2_note 72 = .ok (.aload_n 0, 1) := by decide +kernel
theorem dX2_note_73 : decode cX2_note 73 = .ok (.aload_n 0, 1) := by decide +kernel
theorem dX2_note_74 : decode cX2_note 74 = .ok (.getfield 14, 3) := by decide +kernel
theorem dX2_note_77 : decode cX2_note 77 = .ok (.putfield 18, 3) := by decide +kernel
theorem dX2_note_80 : decode cX2_note 80 = .ok (.return_, 1) := by decide +kernel
theorem dX5_has_0 : decode cX5_has 0 = .ok (.iload_n 1, 1) := by decide +kernel
theorem dX5_has_1 : decode cX5_has 1 = .ok (.ifCond .lt 15, 3) := by decide +kernel
theorem dX5_has_4 : decode cX5_has 4 = .ok (.iload_n 1, 1) := by decide +kernel
theorem dX5_has_5 : decode cX5_has 5 = .ok (.aload_n 0, 1) := by decide +kernel
theorem dX5_has_6 : decode cX5_has 6 = .ok (.getfield 23, 3) := by decide +kernel
theorem dX5_has_9 : decode cX5_has 9 = .ok (.if_icmp .ge 7, 3) := by decide +kernel
theorem dX5_has_12 : decode cX5_has 12 = .ok (.iconst 1, 1) := by decide +kernel
theorem dX5_has_13 : decode cX5_has 13 = .ok (.goto 4, 3) := by decide +kernel
theorem dX5_has_16 : decode cX5_has 16 = .ok (.iconst 0, 1) := by decide +kernel
theorem dX5_has_17 : decode cX5_has 17 = .ok (.ireturn, 1) := by decide +kernel
theorem dX5_fits_0 : decode cX5_fits 0 = .ok (.iload_n 0, 1) := by decide +kernel
theorem dX5_fits_1 : decode cX5_fits 1 = .ok (.ifCond .lt 30, 3) := by decide +kernel
theorem dX5_fits_4 : decode cX5_fits 4 = .ok (.iload_n 0, 1) := by decide +kernel
theorem dX5_fits_5 : decode cX5_fits 5 = .ok (.iconst 3, 1) := by decide +kernel
theorem dX5_fits_6 : decode cX5_fits 6 = .ok (.if_icmp .gt 25, 3) := by decide +kernel
theorem dX5_fits_9 : decode cX5_fits 9 = .ok (.iload_n 1, 1) := by decide +kernel
theorem dX5_fits_10 : decode cX5_fits 10 = .ok (.getstatic 16, 3) := by decide +kernel
theorem dX5_fits_13 : decode cX5_fits 13 = .ok (.iload_n 0, 1) := by decide +kernel
theorem dX5_fits_14 : decode cX5_fits 14 = .ok (.iaload, 1) := by decide +kernel
theorem dX5_fits_15 : decode cX5_fits 15 = .ok (.if_icmp .lt 16, 3) := by decide +kernel
theorem dX5_fits_18 : decode cX5_fits 18 = .ok (.iload_n 1, 1) := by decide +kernel
theorem dX5_fits_19 : decode cX5_fits 19 = .ok (.getstatic 20, 3) := by decide +kernel
theorem dX5_fits_22 : decode cX5_fits 22 = .ok (.iload_n 0, 1) := by decide +kernel
theorem dX5_fits_23 : decode cX5_fits 23 = .ok (.iaload, 1) := by decide +kernel
theorem dX5_fits_24 : decode cX5_fits 24 = .ok (.if_icmp .gt 7, 3) := by decide +kernel
theorem dX5_fits_27 : decode cX5_fits 27 = .ok (.iconst 1, 1) := by decide +kernel
theorem dX5_fits_28 : decode cX5_fits 28 = .ok (.goto 4, 3) := by decide +kernel
theorem dX5_fits_31 : decode cX5_fits 31 = .ok (.iconst 0, 1) := by decide +kernel
theorem dX5_fits_32 : decode cX5_fits 32 = .ok (.ireturn, 1) := by decide +kernel
theorem dX5_change_0 : decode cX5_change 0 = .ok (.aload_n 0, 1) := by decide +kernel
theorem dX5_change_1 : decode cX5_change 1 = .ok (.iload_n 1, 1) := by decide +kernel
theorem dX5_change_2 : decode cX5_change 2 = .ok (.invokevirtual 31, 3) := by decide +kernel
theorem dX5_change_5 : decode cX5_change 5 = .ok (.ifCond .eq 20, 3) := by decide +kernel
theorem dX5_change_8 : decode cX5_change 8 = .ok (.iload_n 2, 1) := by decide +kernel
theorem dX5_change_9 : decode cX5_change 9 = .ok (.iload_n 3, 1) := by decide +kernel
theorem dX5_change_10 : decode cX5_change 10 = .ok (.invokestatic 27, 3) := by decide +kernel
theorem dX5_change_13 : decode cX5_change 13 = .ok (.ifCond .eq 12, 3) := by decide +kernel
theorem dX5_change_16 : decode cX5_change 16 = .ok (.aload_n 0, 1) := by decide +kernel
theorem dX5_change_17 : decode cX5_change 17 = .ok (.getfield 13, 3) := by decide +kernel
theorem dX5_change_20 : decode cX5_change 20 = .ok (.iload_n 2, 1) := by decide +kernel
theorem dX5_change_21 : decode cX5_change 21 = .ok (.aaload, 1) := by decide +kernel
theorem dX5_change_22 : decode cX5_change 22 = .ok (.iload_n 1, 1) := by decide +kernel
theorem dX5_change_23 : decode cX5_change 23 = .ok (.iload_n 3, 1) := by decide +kernel
theorem dX5_change_24 : decode cX5_change 24 = .ok (.iastore, 1) := by decide +kernel
theorem dX5_change_25 : decode cX5_change 25 = .ok (.return_, 1) := by decide +kernel
theorem dX2_stepBack_0 : decode cX2_stepBack 0 = .ok (.aload_n 0, 1) := by decide +kernel
theorem dX2_stepBack_1 : decode cX2_stepBack 1 = .ok (.getfield 14, 3) := by decide +kernel
theorem dX2_stepBack_4 : decode cX2_stepBack 4 = .ok (.ifCond .gt 5, 3) := by decide +kernel
theorem dX2_stepBack_7 : decode cX2_stepBack 7 = .ok (.iconst 0, 1) := by decide +kernel
theorem dX2_stepBack_8 : decode cX2_stepBack 8 = .ok (.ireturn, 1) := by decide +kernel
theorem dX2_stepBack_9 : decode cX2_stepBack 9 = .ok (.aload_n 0, 1) := by decide +kernel
theorem dX2_stepBack_10 : decode cX2_stepBack 10 = .ok (.dup, 1) := by decide +kernel
theorem dX2_stepBack_11 : decode cX2_stepBack 11 = .ok (.getfield 14, 3) := by decide +kernel
theorem dX2_stepBack_14 : decode cX2_stepBack 14 = .ok (.iconst 1, 1) := by decide +kernel
theorem dX2_stepBack_15 : decode cX2_stepBack 15 = .ok (.isub, 1) := by decide +kernel
theorem dX2_stepBack_16 : decode cX2_stepBack 16 = .ok (.putfield 14, 3) := by decide +kernel
theorem dX2_stepBack_19 : decode cX2_stepBack 19 = .ok (.aload_n 1, 1) := by decide +kernel
theorem dX2_stepBack_20 : decode cX2_stepBack 20 = .ok (.aload_n 0, 1) := by decide +kernel
theorem dX2_stepBack_21 : decode cX2_stepBack 21 = .ok (.getfield 11, 3) := by decide +kernel
theorem dX2_stepBack_24 : decode cX2_stepBack 24 = .ok (.iconst 0, 1) := by decide +kernel
theorem dX2_stepBack_25 : decode cX2_stepBack 25 = .ok (.aaload, 1) := by decide +kernel
theorem dX2_stepBack_26 : decode cX2_stepBack 26 = .ok (.aload_n 0, 1) := by decide +kernel
theorem dX2_stepBack_27 : decode cX2_stepBack 27 = .ok (.getfield 14, 3) := by decide +kernel
theorem dX2_stepBack_30 : decode cX2_stepBack 30 = .ok (.iaload, 1) := by decide +kernel
theorem dX2_stepBack_31 : decode cX2_stepBack 31 = .ok (.aload_n 0, 1) := by decide +kernel
theorem dX2_stepBack_32 : decode cX2_stepBack 32 = .ok (.getfield 11, 3) := by decide +kernel
theorem dX2_stepBack_35 : decode cX2_stepBack 35 = .ok (.iconst 1, 1) := by decide +kernel
theorem dX2_stepBack_36 : decode cX2_stepBack 36 = .ok (.aaload, 1) := by decide +kernel
theorem dX2_stepBack_37 : decode cX2_stepBack 37 = .ok (.aload_n 0, 1) := by decide +kernel
theorem dX2_stepBack_38 : decode cX2_stepBack 38 = .ok (.getfield 14, 3) := by decide +kernel
theorem dX2_stepBack_41 : decode cX2_stepBack 41 = .ok (.iaload, 1) := by decide +kernel
theorem dX2_stepBack_42 : decode cX2_stepBack 42 = .ok (.aload_n 0, 1) := by decide +kernel
theorem dX2_stepBack_43 : decode cX2_stepBack 43 = .ok (.getfield 11, 3) := by decide +kernel
theorem dX2_stepBack_46 : decode cX2_stepBack 46 = .ok (.iconst 2, 1) := by decide +kernel
theorem dX2_stepBack_47 : decode cX2_stepBack 47 = .ok (.aaload, 1) := by decide +kernel
theorem dX2_stepBack_48 : decode cX2_stepBack 48 = .ok (.aload_n 0, 1) := by decide +kernel
theorem dX2_stepBack_49 : decode cX2_stepBack 49 = .ok (.getfield 14, 3) := by decide +kernel
theorem dX2_stepBack_52 : decode cX2_stepBack 52 = .ok (.iaload, 1) := by decide +kernel
theorem dX2_stepBack_53 : decode cX2_stepBack 53 = .ok (.invokevirtual 24, 3) := by decide +kernel
theorem dX2_stepBack_56 : decode cX2_stepBack 56 = .ok (.iconst 1, 1) := by decide +kernel
theorem dX2_stepBack_57 : decode cX2_stepBack 57 = .ok (.ireturn, 1) := by decide +kernel
theorem dX2_stepOn_0 : decode cX2_stepOn 0 = .ok (.aload_n 0, 1) := by decide +kernel
theorem dX2_stepOn_1 : decode cX2_stepOn 1 = .ok (.getfield 14, 3) := by decide +kernel
theorem dX2_stepOn_4 : decode cX2_stepOn 4 = .ok (.aload_n 0, 1) := by decide +kernel
theorem dX2_stepOn_5 : decode cX2_stepOn 5 = .ok (.getfield 18, 3) := by decide +kernel
theorem dX2_stepOn_8 : decode cX2_stepOn 8 = .ok (.if_icmp .lt 5, 3) := by decide +kernel
theorem dX2_stepOn_11 : decode cX2_stepOn 11 = .ok (.iconst 0, 1) := by decide +kernel
theorem dX2_stepOn_12 : decode cX2_stepOn 12 = .ok (.ireturn, 1) := by decide +kernel
theorem dX2_stepOn_13 : decode cX2_stepOn 13 = .ok (.aload_n 1, 1) := by decide +kernel
theorem dX2_stepOn_14 : decode cX2_stepOn 14 = .ok (.aload_n 0, 1) := by decide +kernel
theorem dX2_stepOn_15 : decode cX2_stepOn 15 = .ok (.getfield 11, 3) := by decide +kernel
theorem dX2_stepOn_18 : decode cX2_stepOn 18 = .ok (.iconst 0, 1) := by decide +kernel
theorem dX2_stepOn_19 : decode cX2_stepOn 19 = .ok (.aaload, 1) := by decide +kernel
theorem dX2_stepOn_20 : decode cX2_stepOn 20 = .ok (.aload_n 0, 1) := by decide +kernel
theorem dX2_stepOn_21 : decode cX2_stepOn 21 = .ok (.getfield 14, 3) := by decide +kernel
theorem dX2_stepOn_24 : decode cX2_stepOn 24 = .ok (.iaload, 1) := by decide +kernel
theorem dX2_stepOn_25 : decode cX2_stepOn 25 = .ok (.aload_n 0, 1) := by decide +kernel
theorem dX2_stepOn_26 : decode cX2_stepOn 26 = .ok (.getfield 11, 3) := by decide +kernel
theorem dX2_stepOn_29 : decode cX2_stepOn 29 = .ok (.iconst 1, 1) := by decide +kernel
theorem dX2_stepOn_30 : decode cX2_stepOn 30 = .ok (.aaload, 1) := by decide +kernel
theorem dX2_stepOn_31 : decode cX2_stepOn 31 = .ok (.aload_n 0, 1) := by decide +kernel
theorem dX2_stepOn_32 : decode cX2_stepOn 32 = .ok (.getfield 14, 3) := by decide +kernel
theorem dX2_stepOn_35 : decode cX2_stepOn 35 = .ok (.iaload, 1) := by decide +kernel
theorem dX2_stepOn_36 : decode cX2_stepOn 36 = .ok (.aload_n 0, 1) := by decide +kernel
theorem dX2_stepOn_37 : decode cX2_stepOn 37 = .ok (.getfield 11, 3) := by decide +kernel
theorem dX2_stepOn_40 : decode cX2_stepOn 40 = .ok (.iconst 3, 1) := by decide +kernel
theorem dX2_stepOn_41 : decode cX2_stepOn 41 = .ok (.aaload, 1) := by decide +kernel
theorem dX2_stepOn_42 : decode cX2_stepOn 42 = .ok (.aload_n 0, 1) := by decide +kernel
theorem dX2_stepOn_43 : decode cX2_stepOn 43 = .ok (.getfield 14, 3) := by decide +kernel
theorem dX2_stepOn_46 : decode cX2_stepOn 46 = .ok (.iaload, 1) := by decide +kernel
theorem dX2_stepOn_47 : decode cX2_stepOn 47 = .ok (.invokevirtual 24, 3) := by decide +kernel
theorem dX2_stepOn_50 : decode cX2_stepOn 50 = .ok (.aload_n 0, 1) := by decide +kernel
theorem dX2_stepOn_51 : decode cX2_stepOn 51 = .ok (.dup, 1) := by decide +kernel
theorem dX2_stepOn_52 : decode cX2_stepOn 52 = .ok (.getfield 14, 3) := by decide +kernel
theorem dX2_stepOn_55 : decode cX2_stepOn 55 = .ok (.iconst 1, 1) := by decide +kernel
theorem dX2_stepOn_56 : decode cX2_stepOn 56 = .ok (.iadd, 1) := by decide +kernel
theorem dX2_stepOn_57 : decode cX2_stepOn 57 = .ok (.putfield 14, 3) := by decide +kernel
theorem dX2_stepOn_60 : decode cX2_stepOn 60 = .ok (.iconst 1, 1) := by decide +kernel
theorem dX2_stepOn_61 : decode cX2_stepOn 61 = .ok (.ireturn, 1) := by decide +kernel
theorem dX5_init_0 : decode cX5_init 0 = .ok (.aload_n 0, 1) := by decide +kernel
theorem dX5_init_1 : decode cX5_init 1 = .ok (.invokespecial 3, 3) := by decide +kernel
theorem dX5_init_4 : decode cX5_init 4 = .ok (.aload_n 0, 1) := by decide +kernel
theorem dX5_init_5 : decode cX5_init 5 = .ok (.iconst 4, 1) := by decide +kernel
theorem dX5_init_6 : decode cX5_init 6 = .ok (.bipush 16, 2) := by decide +kernel
theorem dX5_init_8 : decode cX5_init 8 = .ok (.multianewarray 11 2, 4) := by decide +kernel
theorem dX5_init_12 : decode cX5_init 12 = .ok (.putfield 13, 3) := by decide +kernel
theorem dX5_init_15 : decode cX5_init 15 = .ok (.return_, 1) := by decide +kernel
theorem dX5_append_0 : decode cX5_append 0 = .ok (.iconst 0, 1) := by decide +kernel
theorem dX5_append_1 : decode cX5_append 1 = .ok (.iload_n 1, 1) := by decide +kernel
theorem dX5_append_2 : decode cX5_append 2 = .ok (.invokestatic 27, 3) := by decide +kernel
theorem dX5_append_5 : decode cX5_append 5 = .ok (.ifCond .eq 28, 3) := by decide +kernel
theorem dX5_append_8 : decode cX5_append 8 = .ok (.iconst 1, 1) := by decide +kernel
theorem dX5_append_9 : decode cX5_append 9 = .ok (.iload_n 2, 1) := by decide +kernel
theorem dX5_append_10 : decode cX5_append 10 = .ok (.invokestatic 27, 3) := by decide +kernel
theorem dX5_append_13 : decode cX5_append 13 = .ok (.ifCond .eq 20, 3) := by decide +kernel
theorem dX5_append_16 : decode cX5_append 16 = .ok (.iconst 2, 1) := by decide +kernel
theorem dX5_append_17 : decode cX5_append 17 = .ok (.iload_n 3, 1) := by decide +kernel
theorem dX5_append_18 : decode cX5_append 18 = .ok (.invokestatic 27, 3) := by decide +kernel
theorem dX5_append_21 : decode cX5_append 21 = .ok (.ifCond .eq 12, 3) := by decide +kernel
theorem dX5_append_24 : decode cX5_append 24 = .ok (.iconst 3, 1) := by decide +kernel
theorem dX5_append_25 : decode cX5_append 25 = .ok (.iload 4, 2) := by decide +kernel
theorem dX5_append_27 : decode cX5_append 27 = .ok (.invokestatic 27, 3) := by decide +kernel
theorem dX5_append_30 : decode cX5_append 30 = .ok (.ifCond .ne 5, 3) := by decide +kernel
theorem dX5_append_33 : decode cX5_append 33 = .ok (.iconst (-1), 1) := by decide +kernel
theorem dX5_append_34 : decode cX5_append 34 = .ok (.ireturn, 1) := by decide +kernel
theorem dX5_append_35 : decode cX5_append 35 = .ok (.aload_n 0, 1) := by decide +kernel
theorem dX5_append_36 : decode cX5_append 36 = .ok (.getfield 23, 3) := by decide +kernel
theorem dX5_append_39 : decode cX5_append 39 = .ok (.bipush 16, 2) := by decide +kernel
theorem dX5_append_41 : decode cX5_append 41 = .ok (.if_icmp .lt 6, 3) := by decide +kernel
theorem dX5_append_44 : decode cX5_append 44 = .ok (.bipush (-3), 2) := by decide +kernel
theorem dX5_append_46 : decode cX5_append 46 = .ok (.ireturn, 1) := by decide +kernel
theorem dX5_append_47 : decode cX5_append 47 = .ok (.aload_n 0, 1) := by decide +kernel
theorem dX5_append_48 : decode cX5_append 48 = .ok (.getfield 13, 3) := by decide +kernel
theorem dX5_append_51 : decode cX5_append 51 = .ok (.iconst 0, 1) := by decide +kernel
theorem dX5_append_52 : decode cX5_append 52 = .ok (.aaload, 1) := by decide +kernel
theorem dX5_append_53 : decode cX5_append 53 = .ok (.aload_n 0, 1) := by decide +kernel
theorem dX5_append_54 : decode cX5_append 54 = .ok (.getfield 23, 3) := by decide +kernel
theorem dX5_append_57 : decode cX5_append 57 = .ok (.iload_n 1, 1) := by decide +kernel
theorem dX5_append_58 : decode cX5_append 58 = .ok (.iastore, 1) := by decide +kernel
theorem dX5_append_59 : decode cX5_append 59 = .ok (.aload_n 0, 1) := by decide +kernel
theorem dX5_append_60 : decode cX5_append 60 = .ok (.getfield 13, 3) := by decide +kernel
theorem dX5_append_63 : decode cX5_append 63 = .ok (.iconst 1, 1) := by decide +kernel
theorem dX5_append_64 : decode cX5_append 64 = .ok (.aaload, 1) := by decide +kernel
theorem dX5_append_65 : decode cX5_append 65 = .ok (.aload_n 0, 1) := by decide +kernel
theorem dX5_append_66 : decode cX5_append 66 = .ok (.getfield 23, 3) := by decide +kernel
theorem dX5_append_69 : decode cX5_append 69 = .ok (.iload_n 2, 1) := by decide +kernel
theorem dX5_append_70 : decode cX5_append 70 = .ok (.iastore, 1) := by decide +kernel
theorem dX5_append_71 : decode cX5_append 71 = .ok (.aload_n 0, 1) := by decide +kernel
theorem dX5_append_72 : decode cX5_append 72 = .ok (.getfield 13, 3) := by decide +kernel
theorem dX5_append_75 : decode cX5_append 75 = .ok (.iconst 2, 1) := by decide +kernel
theorem dX5_append_76 : decode cX5_append 76 = .ok (.aaload, 1) := by decide +kernel
theorem dX5_append_77 : decode cX5_append 77 = .ok (.aload_n 0, 1) := by decide +kernel
theorem dX5_append_78 : decode cX5_append 78 = .ok (.getfield 23, 3) := by decide +kernel
theorem dX5_append_81 : decode cX5_append 81 = .ok (.iload_n 3, 1) := by decide +kernel
theorem dX5_append_82 : decode cX5_append 82 = .ok (.iastore, 1) := by decide +kernel
theorem dX5_append_83 : decode cX5_append 83 = .ok (.aload_n 0, 1) := by decide +kernel
theorem dX5_append_84 : decode cX5_append 84 = .ok (.getfield 13, 3) := by decide +kernel
theorem dX5_append_87 : decode cX5_append 87 = .ok (.iconst 3, 1) := by decide +kernel
theorem dX5_append_88 : decode cX5_append 88 = .ok (.aaload, 1) := by decide +kernel
theorem dX5_append_89 : decode cX5_append 89 = .ok (.aload_n 0, 1) := by decide +kernel
theorem dX5_append_90 : decode cX5_append 90 = .ok (.getfield 23, 3) := by decide +kernel
theorem dX5_append_93 : decode cX5_append 93 = .ok (.iload 4, 2) := by decide +kernel
theorem dX5_append_95 : decode cX5_append 95 = .ok (.iastore, 1) := by decide +kernel
theorem dX5_append_96 : decode cX5_append 96 = .ok (.aload_n 0, 1) := by decide +kernel
theorem dX5_append_97 : decode cX5_append 97 = .ok (.dup, 1) := by decide +kernel
theorem dX5_append_98 : decode cX5_append 98 = .ok (.getfield 23, 3) := by decide +kernel
theorem dX5_append_101 : decode cX5_append 101 = .ok (.iconst 1, 1) := by decide +kernel
theorem dX5_append_102 : decode cX5_append 102 = .ok (.iadd, 1) := by decide +kernel
theorem dX5_append_103 : decode cX5_append 103 = .ok (.putfield 23, 3) := by decide +kernel
theorem dX5_append_106 : decode cX5_append 106 = .ok (.aload_n 0, 1) := by decide +kernel
theorem dX5_append_107 : decode cX5_append 107 = .ok (.getfield 23, 3) := by decide +kernel
theorem dX5_append_110 : decode cX5_append 110 = .ok (.iconst 1, 1) := by decide +kernel
theorem dX5_append_111 : decode cX5_append 111 = .ok (.isub, 1) := by decide +kernel
theorem dX5_append_112 : decode cX5_append 112 = .ok (.ireturn, 1) := by decide +kernel
theorem dX8_init_0 : decode cX8_init 0 = .ok (.aload_n 0, 1) := by decide +kernel
theorem dX8_init_1 : decode cX8_init 1 = .ok (.invokespecial 1, 3) := by decide +kernel
theorem dX8_init_4 : decode cX8_init 4 = .ok (.aload_n 0, 1) := by decide +kernel
theorem dX8_init_5 : decode cX8_init 5 = .ok (.bipush 60, 2) := by decide +kernel
theorem dX8_init_7 : decode cX8_init 7 = .ok (.newarray .long, 2) := by decide +kernel
theorem dX8_init_9 : decode cX8_init 9 = .ok (.putfield 9, 3) := by decide +kernel
theorem dX8_init_12 : decode cX8_init 12 = .ok (.aload_n 0, 1) := by decide +kernel
theorem dX8_init_13 : decode cX8_init 13 = .ok (.iconst (-1), 1) := by decide +kernel
theorem dX8_init_14 : decode cX8_init 14 = .ok (.putfield 13, 3) := by decide +kernel
theorem dX8_init_17 : decode cX8_init 17 = .ok (.aload_n 0, 1) := by decide +kernel
theorem dX8_init_18 : decode cX8_init 18 = .ok (.iconst (-1), 1) := by decide +kernel
theorem dX8_init_19 : decode cX8_init 19 = .ok (.putfield 17, 3) := by decide +kernel
theorem dX8_init_22 : decode cX8_init 22 = .ok (.return_, 1) := by decide +kernel
theorem dX8_isRowSort_0 : decode cX8_isRowSort 0 = .ok (.iload_n 0, 1) := by decide +kernel
theorem dX8_isRowSort_1 : decode cX8_isRowSort 1 = .ok (.ifCond .lt 12, 3) := by decide +kernel
theorem dX8_isRowSort_4 : decode cX8_isRowSort 4 = .ok (.iload_n 0, 1) := by decide +kernel
theorem dX8_isRowSort_5 : decode cX8_isRowSort 5 = .ok (.iconst 4, 1) := by decide +kernel
theorem dX8_isRowSort_6 : decode cX8_isRowSort 6 = .ok (.if_icmp .gt 7, 3) := by decide +kernel
theorem dX8_isRowSort_9 : decode cX8_isRowSort 9 = .ok (.iconst 1, 1) := by decide +kernel
theorem dX8_isRowSort_10 : decode cX8_isRowSort 10 = .ok (.goto 4, 3) := by decide +kernel
theorem dX8_isRowSort_13 : decode cX8_isRowSort 13 = .ok (.iconst 0, 1) := by decide +kernel
theorem dX8_isRowSort_14 : decode cX8_isRowSort 14 = .ok (.ireturn, 1) := by decide +kernel
theorem dX8_isBare_0 : decode cX8_isBare 0 = .ok (.aload_n 0, 1) := by decide +kernel
theorem dX8_isBare_1 : decode cX8_isBare 1 = .ok (.getfield 13, 3) := by decide +kernel
theorem dX8_isBare_4 : decode cX8_isBare 4 = .ok (.iconst (-1), 1) := by decide +kernel
theorem dX8_isBare_5 : decode cX8_isBare 5 = .ok (.if_icmp .ne 15, 3) := by decide +kernel
theorem dX8_isBare_8 : decode cX8_isBare 8 = .ok (.aload_n 0, 1) := by decide +kernel
theorem dX8_isBare_9 : decode cX8_isBare 9 = .ok (.getfield 17, 3) := by decide +kernel
theorem dX8_isBare_12 : decode cX8_isBare 12 = .ok (.iconst (-1), 1) := by decide +kernel
theorem dX8_isBare_13 : decode cX8_isBare 13 = .ok (.if_icmp .ne 7, 3) := by decide +kernel
theorem dX8_isBare_16 : decode cX8_isBare 16 = .ok (.iconst 1, 1) := by decide +kernel
theorem dX8_isBare_17 : decode cX8_isBare 17 = .ok (.goto 4, 3) := by decide +kernel
theorem dX8_isBare_20 : decode cX8_isBare 20 = .ok (.iconst 0, 1) := by decide +kernel
theorem dX8_isBare_21 : decode cX8_isBare 21 = .ok (.ireturn, 1) := by decide +kernel
theorem dX8_holdsRow_0 : decode cX8_holdsRow 0 = .ok (.aload_n 0, 1) := by decide +kernel
theorem dX8_holdsRow_1 : decode cX8_holdsRow 1 = .ok (.getfield 17, 3) := by decide +kernel
theorem dX8_holdsRow_4 : decode cX8_holdsRow 4 = .ok (.iconst (-1), 1) := by decide +kernel
theorem dX8_holdsRow_5 : decode cX8_holdsRow 5 = .ok (.if_icmp .eq 7, 3) := by decide +kernel
theorem dX8_holdsRow_8 : decode cX8_holdsRow 8 = .ok (.iconst 1, 1) := by decide +kernel
theorem dX8_holdsRow_9 : decode cX8_holdsRow 9 = .ok (.goto 4, 3) := by decide +kernel
theorem dX8_holdsRow_12 : decode cX8_holdsRow 12 = .ok (.iconst 0, 1) := by decide +kernel
theorem dX8_holdsRow_13 : decode cX8_holdsRow 13 = .ok (.ireturn, 1) := by decide +kernel
theorem dX8_holdsBytes_0 : decode cX8_holdsBytes 0 = .ok (.aload_n 0, 1) := by decide +kernel
theorem dX8_holdsBytes_1 : decode cX8_holdsBytes 1 = .ok (.getfield 17, 3) := by decide +kernel
theorem dX8_holdsBytes_4 : decode cX8_holdsBytes 4 = .ok (.ifCond .ne 7, 3) := by decide +kernel
theorem dX8_holdsBytes_7 : decode cX8_holdsBytes 7 = .ok (.iconst 1, 1) := by decide +kernel
theorem dX8_holdsBytes_8 : decode cX8_holdsBytes 8 = .ok (.goto 4, 3) := by decide +kernel
theorem dX8_holdsBytes_11 : decode cX8_holdsBytes 11 = .ok (.iconst 0, 1) := by decide +kernel
theorem dX8_holdsBytes_12 : decode cX8_holdsBytes 12 = .ok (.ireturn, 1) := by decide +kernel
theorem dX8_heldBody_0 : decode cX8_heldBody 0 = .ok (.aload_n 0, 1) := by decide +kernel
theorem dX8_heldBody_1 : decode cX8_heldBody 1 = .ok (.getfield 13, 3) := by decide +kernel
theorem dX8_heldBody_4 : decode cX8_heldBody 4 = .ok (.ireturn, 1) := by decide +kernel
theorem dX8_sort_0 : decode cX8_sort 0 = .ok (.aload_n 0, 1) := by decide +kernel
theorem dX8_sort_1 : decode cX8_sort 1 = .ok (.getfield 17, 3) := by decide +kernel
theorem dX8_sort_4 : decode cX8_sort 4 = .ok (.ireturn, 1) := by decide +kernel
theorem dX8_length_0 : decode cX8_length 0 = .ok (.aload_n 0, 1) := by decide +kernel
theorem dX8_length_1 : decode cX8_length 1 = .ok (.getfield 20, 3) := by decide +kernel
theorem dX8_length_4 : decode cX8_length 4 = .ok (.ireturn, 1) := by decide +kernel
theorem dX8_holdBody_0 : decode cX8_holdBody 0 = .ok (.aload_n 0, 1) := by decide +kernel
theorem dX8_holdBody_1 : decode cX8_holdBody 1 = .ok (.iload_n 1, 1) := by decide +kernel
theorem dX8_holdBody_2 : decode cX8_holdBody 2 = .ok (.putfield 13, 3) := by decide +kernel
theorem dX8_holdBody_5 : decode cX8_holdBody 5 = .ok (.aload_n 0, 1) := by decide +kernel
theorem dX8_holdBody_6 : decode cX8_holdBody 6 = .ok (.iconst (-1), 1) := by decide +kernel
theorem dX8_holdBody_7 : decode cX8_holdBody 7 = .ok (.putfield 17, 3) := by decide +kernel
theorem dX8_holdBody_10 : decode cX8_holdBody 10 = .ok (.aload_n 0, 1) := by decide +kernel
theorem dX8_holdBody_11 : decode cX8_holdBody 11 = .ok (.iconst 0, 1) := by decide +kernel
theorem dX8_holdBody_12 : decode cX8_holdBody 12 = .ok (.putfield 20, 3) := by decide +kernel
theorem dX8_holdBody_15 : decode cX8_holdBody 15 = .ok (.return_, 1) := by decide +kernel
theorem dX8_holdRow_0 : decode cX8_holdRow 0 = .ok (.aload_n 0, 1) := by decide +kernel
theorem dX8_holdRow_1 : decode cX8_holdRow 1 = .ok (.iconst (-1), 1) := by decide +kernel
theorem dX8_holdRow_2 : decode cX8_holdRow 2 = .ok (.putfield 13, 3) := by decide +kernel
theorem dX8_holdRow_5 : decode cX8_holdRow 5 = .ok (.aload_n 0, 1) := by decide +kernel
theorem dX8_holdRow_6 : decode cX8_holdRow 6 = .ok (.iload_n 1, 1) := by decide +kernel
theorem dX8_holdRow_7 : decode cX8_holdRow 7 = .ok (.putfield 17, 3) := by decide +kernel
theorem dX8_holdRow_10 : decode cX8_holdRow 10 = .ok (.aload_n 0, 1) := by decide +kernel
theorem dX8_holdRow_11 : decode cX8_holdRow 11 = .ok (.iconst 0, 1) := by decide +kernel
theorem dX8_holdRow_12 : decode cX8_holdRow 12 = .ok (.bipush 60, 2) := by decide +kernel
theorem dX8_holdRow_14 : decode cX8_holdRow 14 = .ok (.iload_n 2, 1) := by decide +kernel
theorem dX8_holdRow_15 : decode cX8_holdRow 15 = .ok (.invokestatic 23, 3) := by decide +kernel
theorem dX8_holdRow_18 : decode cX8_holdRow 18 = .ok (.invokestatic 29, 3) := by decide +kernel
theorem dX8_holdRow_21 : decode cX8_holdRow 21 = .ok (.putfield 20, 3) := by decide +kernel
theorem dX8_holdRow_24 : decode cX8_holdRow 24 = .ok (.iconst 0, 1) := by decide +kernel
theorem dX8_holdRow_25 : decode cX8_holdRow 25 = .ok (.istore_n 3, 1) := by decide +kernel
theorem dX8_holdRow_26 : decode cX8_holdRow 26 = .ok (.iload_n 3, 1) := by decide +kernel
theorem dX8_holdRow_27 : decode cX8_holdRow 27 = .ok (.aload_n 0, 1) := by decide +kernel
theorem dX8_holdRow_28 : decode cX8_holdRow 28 = .ok (.getfield 20, 3) := by decide +kernel
theorem dX8_holdRow_31 : decode cX8_holdRow 31 = .ok (.if_icmp .ge 16, 3) := by decide +kernel
theorem dX8_holdRow_34 : decode cX8_holdRow 34 = .ok (.aload_n 0, 1) := by decide +kernel
theorem dX8_holdRow_35 : decode cX8_holdRow 35 = .ok (.getfield 9, 3) := by decide +kernel
theorem dX8_holdRow_38 : decode cX8_holdRow 38 = .ok (.iload_n 3, 1) := by decide +kernel
theorem dX8_holdRow_39 : decode cX8_holdRow 39 = .ok (.lconst 0, 1) := by decide +kernel
theorem dX8_holdRow_40 : decode cX8_holdRow 40 = .ok (.lastore, 1) := by decide +kernel
theorem dX8_holdRow_41 : decode cX8_holdRow 41 = .ok (.iinc 3 1, 3) := by decide +kernel
theorem dX8_holdRow_44 : decode cX8_holdRow 44 = .ok (.goto (-18), 3) := by decide +kernel
theorem dX8_holdRow_47 : decode cX8_holdRow 47 = .ok (.return_, 1) := by decide +kernel
theorem dX8_hasRange_0 : decode cX8_hasRange 0 = .ok (.iload_n 1, 1) := by decide +kernel
theorem dX8_hasRange_1 : decode cX8_hasRange 1 = .ok (.ifCond .lt 25, 3) := by decide +kernel
theorem dX8_hasRange_4 : decode cX8_hasRange 4 = .ok (.iload_n 2, 1) := by decide +kernel
theorem dX8_hasRange_5 : decode cX8_hasRange 5 = .ok (.ifCond .lt 21, 3) := by decide +kernel
theorem dX8_hasRange_8 : decode cX8_hasRange 8 = .ok (.iload_n 1, 1) := by decide +kernel
theorem dX8_hasRange_9 : decode cX8_hasRange 9 = .ok (.i2l, 1) := by decide +kernel
theorem dX8_hasRange_10 : decode cX8_hasRange 10 = .ok (.iload_n 2, 1) := by decide +kernel
theorem dX8_hasRange_11 : decode cX8_hasRange 11 = .ok (.i2l, 1) := by decide +kernel
theorem dX8_hasRange_12 : decode cX8_hasRange 12 = .ok (.ladd, 1) := by decide +kernel
theorem dX8_hasRange_13 : decode cX8_hasRange 13 = .ok (.aload_n 0, 1) := by decide +kernel
theorem dX8_hasRange_14 : decode cX8_hasRange 14 = .ok (.getfield 20, 3) := by decide +kernel
theorem dX8_hasRange_17 : decode cX8_hasRange 17 = .ok (.i2l, 1) := by decide +kernel
theorem dX8_hasRange_18 : decode cX8_hasRange 18 = .ok (.lcmp, 1) := by decide +kernel
theorem dX8_hasRange_19 : decode cX8_hasRange 19 = .ok (.ifCond .gt 7, 3) := by decide +kernel
theorem dX8_hasRange_22 : decode cX8_hasRange 22 = .ok (.iconst 1, 1) := by decide +kernel
theorem dX8_hasRange_23 : decode cX8_hasRange 23 = .ok (.goto 4, 3) := by decide +kernel
theorem dX8_hasRange_26 : decode cX8_hasRange 26 = .ok (.iconst 0, 1) := by decide +kernel
theorem dX8_hasRange_27 : decode cX8_hasRange 27 = .ok (.ireturn, 1) := by decide +kernel
theorem dX8_at_0 : decode cX8_at 0 = .ok (.aload_n 0, 1) := by decide +kernel
theorem dX8_at_1 : decode cX8_at 1 = .ok (.iload_n 1, 1) := by decide +kernel
theorem dX8_at_2 : decode cX8_at 2 = .ok (.iconst 1, 1) := by decide +kernel
theorem dX8_at_3 : decode cX8_at 3 = .ok (.invokevirtual 32, 3) := by decide +kernel
theorem dX8_at_6 : decode cX8_at 6 = .ok (.ifCond .eq 12, 3) := by decide +kernel
theorem dX8_at_9 : decode cX8_at 9 = .ok (.aload_n 0, 1) := by decide +kernel
theorem dX8_at_10 : decode cX8_at 10 = .ok (.getfield 9, 3) := by decide +kernel
theorem dX8_at_13 : decode cX8_at 13 = .ok (.iload_n 1, 1) := by decide +kernel
theorem dX8_at_14 : decode cX8_at 14 = .ok (.laload, 1) := by decide +kernel
theorem dX8_at_15 : decode cX8_at 15 = .ok (.goto 4, 3) := by decide +kernel
theorem dX8_at_18 : decode cX8_at 18 = .ok (.lconst 0, 1) := by decide +kernel
theorem dX8_at_19 : decode cX8_at 19 = .ok (.lreturn, 1) := by decide +kernel
theorem dX8_lowest_0 : decode cX8_lowest 0 = .ok (.aload_n 0, 1) := by decide +kernel
theorem dX8_lowest_1 : decode cX8_lowest 1 = .ok (.getfield 17, 3) := by decide +kernel
theorem dX8_lowest_4 : decode cX8_lowest 4 = .ok (.tableswitch 48 0 3 #[32, 37, 42, 46], 32) := by decide +kernel
theorem dX8_lowest_36 : decode cX8_lowest 36 = .ok (.lload_n 1, 1) := by decide +kernel
theorem dX8_lowest_37 : decode cX8_lowest 37 = .ok (.l2i, 1) := by decide +kernel
theorem dX8_lowest_38 : decode cX8_lowest 38 = .ok (.i2b, 1) := by decide +kernel
theorem dX8_lowest_39 : decode cX8_lowest 39 = .ok (.i2l, 1) := by decide +kernel
theorem dX8_lowest_40 : decode cX8_lowest 40 = .ok (.lreturn, 1) := by decide +kernel
theorem dX8_lowest_41 : decode cX8_lowest 41 = .ok (.lload_n 1, 1) := by decide +kernel
theorem dX8_lowest_42 : decode cX8_lowest 42 = .ok (.l2i, 1) := by decide +kernel
theorem dX8_lowest_43 : decode cX8_lowest 43 = .ok (.i2s, 1) := by decide +kernel
theorem dX8_lowest_44 : decode cX8_lowest 44 = .ok (.i2l, 1) := by decide +kernel
theorem dX8_lowest_45 : decode cX8_lowest 45 = .ok (.lreturn, 1) := by decide +kernel
theorem dX8_lowest_46 : decode cX8_lowest 46 = .ok (.lload_n 1, 1) := by decide +kernel
theorem dX8_lowest_47 : decode cX8_lowest 47 = .ok (.l2i, 1) := by decide +kernel
theorem dX8_lowest_48 : decode cX8_lowest 48 = .ok (.i2l, 1) := by decide +kernel
theorem dX8_lowest_49 : decode cX8_lowest 49 = .ok (.lreturn, 1) := by decide +kernel
theorem dX8_lowest_50 : decode cX8_lowest 50 = .ok (.lload_n 1, 1) := by decide +kernel
theorem dX8_lowest_51 : decode cX8_lowest 51 = .ok (.lreturn, 1) := by decide +kernel
theorem dX8_lowest_52 : decode cX8_lowest 52 = .ok (.lload_n 1, 1) := by decide +kernel
theorem dX8_lowest_53 : decode cX8_lowest 53 = .ok (.lconst 0, 1) := by decide +kernel
theorem dX8_lowest_54 : decode cX8_lowest 54 = .ok (.lcmp, 1) := by decide +kernel
theorem dX8_lowest_55 : decode cX8_lowest 55 = .ok (.ifCond .eq 7, 3) := by decide +kernel
theorem dX8_lowest_58 : decode cX8_lowest 58 = .ok (.lconst 1, 1) := by decide +kernel
theorem dX8_lowest_59 : decode cX8_lowest 59 = .ok (.goto 4, 3) := by decide +kernel
theorem dX8_lowest_62 : decode cX8_lowest 62 = .ok (.lconst 0, 1) := by decide +kernel
theorem dX8_lowest_63 : decode cX8_lowest 63 = .ok (.lreturn, 1) := by decide +kernel
theorem dX8_set_0 : decode cX8_set 0 = .ok (.aload_n 0, 1) := by decide +kernel
theorem dX8_set_1 : decode cX8_set 1 = .ok (.iload_n 1, 1) := by decide +kernel
theorem dX8_set_2 : decode cX8_set 2 = .ok (.iconst 1, 1) := by decide +kernel
theorem dX8_set_3 : decode cX8_set 3 = .ok (.invokevirtual 32, 3) := by decide +kernel
theorem dX8_set_6 : decode cX8_set 6 = .ok (.ifCond .eq 14, 3) := by decide +kernel
theorem dX8_set_9 : decode cX8_set 9 = .ok (.aload_n 0, 1) := by decide +kernel
theorem dX8_set_10 : decode cX8_set 10 = .ok (.getfield 9, 3) := by decide +kernel
theorem dX8_set_13 : decode cX8_set 13 = .ok (.iload_n 1, 1) := by decide +kernel
theorem dX8_set_14 : decode cX8_set 14 = .ok (.aload_n 0, 1) := by decide +kernel
theorem dX8_set_15 : decode cX8_set 15 = .ok (.lload_n 2, 1) := by decide +kernel
theorem dX8_set_16 : decode cX8_set 16 = .ok (.invokevirtual 36, 3) := by decide +kernel
theorem dX8_set_19 : decode cX8_set 19 = .ok (.lastore, 1) := by decide +kernel
theorem dX8_set_20 : decode cX8_set 20 = .ok (.return_, 1) := by decide +kernel
theorem dX8_copyTo_0 : decode cX8_copyTo 0 = .ok (.aload_n 0, 1) := by decide +kernel
theorem dX8_copyTo_1 : decode cX8_copyTo 1 = .ok (.iload_n 1, 1) := by decide +kernel
theorem dX8_copyTo_2 : decode cX8_copyTo 2 = .ok (.iload 4, 2) := by decide +kernel
theorem dX8_copyTo_4 : decode cX8_copyTo 4 = .ok (.invokevirtual 32, 3) := by decide +kernel
theorem dX8_copyTo_7 : decode cX8_copyTo 7 = .ok (.ifCond .eq 28, 3) := by decide +kernel
theorem dX8_copyTo_10 : decode cX8_copyTo 10 = .ok (.aload_n 2, 1) := by decide +kernel
theorem dX8_copyTo_11 : decode cX8_copyTo 11 = .ok (.iload_n 3, 1) := by decide +kernel
theorem dX8_copyTo_12 : decode cX8_copyTo 12 = .ok (.iload 4, 2) := by decide +kernel
theorem dX8_copyTo_14 : decode cX8_copyTo 14 = .ok (.invokevirtual 32, 3) := by decide +kernel
theorem dX8_copyTo_17 : decode cX8_copyTo 17 = .ok (.ifCond .eq 18, 3) := by decide +kernel
theorem dX8_copyTo_20 : decode cX8_copyTo 20 = .ok (.aload_n 0, 1) := by decide +kernel
theorem dX8_copyTo_21 : decode cX8_copyTo 21 = .ok (.getfield 9, 3) := by decide +kernel
theorem dX8_copyTo_24 : decode cX8_copyTo 24 = .ok (.iload_n 1, 1) := by decide +kernel
theorem dX8_copyTo_25 : decode cX8_copyTo 25 = .ok (.aload_n 2, 1) := by decide +kernel
theorem dX8_copyTo_26 : decode cX8_copyTo 26 = .ok (.getfield 9, 3) := by decide +kernel
theorem dX8_copyTo_29 : decode cX8_copyTo 29 = .ok (.iload_n 3, 1) := by decide +kernel
theorem dX8_copyTo_30 : decode cX8_copyTo 30 = .ok (.iload 4, 2) := by decide +kernel
theorem dX8_copyTo_32 : decode cX8_copyTo 32 = .ok (.invokestatic 40, 3) := by decide +kernel
theorem dX8_copyTo_35 : decode cX8_copyTo 35 = .ok (.return_, 1) := by decide +kernel
def fX0_init (x0 : Int) (u0 : zMem) : zRs := if 0 ≤ x0 then (znar 20 50 u0 (fun v1 u2 => zpf 0 0 x0 v1 u2 (fun u3 => znar 20 24 u3 (fun v4 u5 => zpf 0 1 x0 v4 u5 (fun u6 => some (0, u6)))))) else none
set_option maxRecDepth 100000 in
set_option maxHeartbeats 4000000 in
theorem rX0_init (l : Launch) (w : zW) (x0 : Int) (u0 : zMem) : zSpc l w 1 yX0_init cX0_init 1 none 0 [zR x0] u0 (fX0_init x0 u0) := by
  refine zSpc_of (own := RX0) pnRX0 rfl (Nat.le_of_ble_eq_true rfl) (fun G p e R s m args below meth c C hini => ?_)
  unfold fX0_init
  refine zlocs (lb := [(0, zR x0)]) ⟨rfl, trivial⟩ ?_
  refine z_aload_n C (i := 0) (pc' := 1) dX0_init_0 rfl rfl rfl ?_
  refine z_objinit C (pc' := 4) woRX0_3 woi woc dX0_init_1 rfl (by decide) (Nat.le_of_ble_eq_true rfl) ?_
  refine z_aload_n C (i := 0) (pc' := 5) dX0_init_4 rfl rfl rfl ?_
  refine z_bipush C (pc' := 7) dX0_init_5 kb_50 rfl ?_
  refine z_newarr C (kd := 20) (aty := .int) (pc' := 9) (by decide) rfl wy20 dX0_init_7 rfl (fun v1 u2 => ?_)
  refine z_putfRi C (pc' := 12) flRX0_11 hini rfl fb0_0 dX0_init_9 rfl (fun u3 => ?_)
  refine z_aload_n C (i := 0) (pc' := 13) dX0_init_12 rfl rfl rfl ?_
  refine z_bipush C (pc' := 15) dX0_init_13 kb_24 rfl ?_
  refine z_newarr C (kd := 20) (aty := .int) (pc' := 17) (by decide) rfl wy20 dX0_init_15 rfl (fun v4 u5 => ?_)
  refine z_putfRi C (pc' := 20) flRX0_15 hini rfl fb0_1 dX0_init_17 rfl (fun u6 => ?_)
  exact z_return C dX0_init_20
def fX0_isKind (x0 : Int) (u0 : zMem) : zRs := zjn (fun (u1 : zMem) => zbl 0 (some (0, u1))) (fun k2 => if x0 < 0 then (k2 u0) else (if x0 ≥ 8 then (k2 u0) else (zbl 1 (some (1, u0)))))
set_option maxRecDepth 100000 in
set_option maxHeartbeats 4000000 in
theorem rX0_isKind (l : Launch) (w : zW) (x0 : Int) (u0 : zMem) : zSpc l w 1 yX0_isKind cX0_isKind 1 (some .boolean) 1 [zI x0] u0 (fX0_isKind x0 u0) := by
  refine zSpc_of (own := RX0) pnRX0 rfl (Nat.le_of_ble_eq_true rfl) (fun G p e R s m args below meth c C hini => ?_)
  unfold fX0_isKind
  refine zlocs (lb := [(0, zI x0)]) ⟨rfl, trivial⟩ ?_
  refine z_iload_n C (i := 0) (pc' := 1) dX0_isKind_0 rfl rfl rfl ?_
  refine zjoin (P := fun (f : zMem → zRs) => ∀ (u1 : zMem), zSim G p l e R s m args below meth c w 1 (znc u0) (zM w 1 (znc u0) below args s) 14 [] [] u1 (f u1)) (fun u1 => ?_) (fun k2 hk2 => ?_)
  ·
    refine z_iconst C (pc' := 15) dX0_isKind_14 kc_0 rfl ?_
    exact z_zreturn C dX0_isKind_15
  ·
    refine z_if_lt C (pc' := 14) (pf := 4) dX0_isKind_1 rfl rfl (fun _ => ?_) (fun _ => ?_)
    ·
      exact zlocs (lb := []) trivial (hk2 _)
    ·
      refine z_iload_n C (i := 0) (pc' := 5) dX0_isKind_4 rfl rfl rfl ?_
      refine z_bipush C (pc' := 7) dX0_isKind_5 kb_8 rfl ?_
      refine z_icmp_ge C (pc' := 14) (pf := 10) dX0_isKind_7 rfl rfl (fun _ => ?_) (fun _ => ?_)
      ·
        exact zlocs (lb := []) trivial (hk2 _)
      ·
        refine z_iconst C (pc' := 11) dX0_isKind_10 kc_1 rfl ?_
        refine z_goto C (pc' := 15) dX0_isKind_11 rfl ?_
        exact z_zreturn C dX0_isKind_15
def fX0_isUnder (x0 x1 : Int) (u0 : zMem) : zRs := zlp (fun _ _ _ => none) (fun k4 (v1 : Int) (v2 : Int) (u3 : zMem) => if v2 ≥ 8 then (zbl 0 (some (0, u3))) else (zcall (fX0_isKind v1 u3) (fun v5 u6 => if v5 = 0 then (zbl 0 (some (0, u6))) else (if v1 ≠ x1 then (zald 20 3 v1 u6 (fun v7 => k4 v7 (zw32 (v2 + 1)) u6)) else (zbl 1 (some (1, u6))))))) 1000000 x0 0 u0
set_option maxRecDepth 100000 in
set_option maxHeartbeats 4000000 in
theorem rX0_isUnder (l : Launch) (w : zW) (x0 x1 : Int) (u0 : zMem) : zSpc l w 2 yX0_isUnder cX0_isUnder 4 (some .boolean) 1 [zI x0, zI x1] u0 (fX0_isUnder x0 x1 u0) := by
  refine zSpc_of (own := RX0) pnRX0 rfl (Nat.le_of_ble_eq_true rfl) (fun G p e R s m args below meth c C hini => ?_)
  unfold fX0_isUnder
  refine zlocs (lb := [(0, zI x0), (1, zI x1)]) ⟨rfl, rfl, trivial⟩ ?_
  refine z_iload_n C (i := 0) (pc' := 1) dX0_isUnder_0 rfl rfl rfl ?_
  refine z_istore_n C (i := 2) (la' := [(2, zI x0), (0, zI x0), (1, zI x1)]) (pc' := 2) dX0_isUnder_1 rfl (by decide) rfl rfl ?_
  refine z_iconst C (pc' := 3) dX0_isUnder_2 kc_0 rfl ?_
  refine z_istore_n C (i := 3) (la' := [(3, zI 0), (2, zI x0), (0, zI x0), (1, zI x1)]) (pc' := 4) dX0_isUnder_3 rfl (by decide) rfl rfl ?_
  refine zlocs (lb := [(1, zI x1), (2, zI x0), (3, zI 0)]) ⟨rfl, rfl, rfl, trivial⟩ ?_
  refine zlp_ind (fun (f : Int → Int → zMem → zRs) => ∀ (v1 : Int) (v2 : Int) (u3 : zMem), zSim G p l e R s m args below meth c w 4 (znc u0) (zM w 1 (znc u0) below args s) 4 [(1, zI x1), (2, zI v1), (3, zI v2)] [] u3 (f v1 v2 u3)) (fun _ _ _ => znone) (fun k4 hk4 v1 v2 u3 => ?_) _ _ _ _
  refine z_iload_n C (i := 3) (pc' := 5) dX0_isUnder_4 rfl rfl rfl ?_
  refine z_bipush C (pc' := 7) dX0_isUnder_5 kb_8 rfl ?_
  refine z_icmp_ge C (pc' := 36) (pf := 10) dX0_isUnder_7 rfl rfl (fun _ => ?_) (fun _ => ?_)
  ·
    refine z_iconst C (pc' := 37) dX0_isUnder_36 kc_0 rfl ?_
    exact z_zreturn C dX0_isUnder_37
  ·
    refine z_iload_n C (i := 2) (pc' := 11) dX0_isUnder_10 rfl rfl rfl ?_
    refine z_callS1 C (pc' := 14) lsRX0_18 lc_X0_isKind rfl dX0_isUnder_11 rfl (by decide) (rX0_isKind l w v1 u3) rfl (Nat.le_of_ble_eq_true rfl) (fun v5 u6 => ?_)
    refine z_if_eq C (pc' := 36) (pf := 17) dX0_isUnder_14 rfl rfl (fun _ => ?_) (fun _ => ?_)
    ·
      refine z_iconst C (pc' := 37) dX0_isUnder_36 kc_0 rfl ?_
      exact z_zreturn C dX0_isUnder_37
    ·
      refine z_iload_n C (i := 2) (pc' := 18) dX0_isUnder_17 rfl rfl rfl ?_
      refine z_iload_n C (i := 1) (pc' := 19) dX0_isUnder_18 rfl rfl rfl ?_
      refine z_icmp_ne C (pc' := 24) (pf := 22) dX0_isUnder_19 rfl rfl (fun _ => ?_) (fun _ => ?_)
      ·
        refine z_gets C (q := 3) (pc' := 27) (by decide) wgRX0_22 dX0_isUnder_24 rfl ?_
        refine z_iload_n C (i := 2) (pc' := 28) dX0_isUnder_27 rfl rfl rfl ?_
        refine z_iald C (pc' := 29) dX0_isUnder_28 rfl (fun v7 => ?_)
        refine z_istore_n C (i := 2) (la' := [(2, zI v7), (1, zI x1), (3, zI v2)]) (pc' := 30) dX0_isUnder_29 rfl (by decide) rfl rfl ?_
        refine z_iinc C (i := 3) (la' := [(3, zI (zw32 (v2 + 1))), (2, zI v7), (1, zI x1)]) (pc' := 33) dX0_isUnder_30 rfl (by decide) rfl rfl ?_
        refine z_goto C (pc' := 4) dX0_isUnder_33 rfl ?_
        exact zlocs (lb := [(1, zI x1), (2, zI v7), (3, zI (zw32 (v2 + 1)))]) ⟨rfl, rfl, rfl, trivial⟩ (hk4 _ _ _)
      ·
        refine z_iconst C (pc' := 23) dX0_isUnder_22 kc_1 rfl ?_
        exact z_zreturn C dX0_isUnder_23
def fX0_size (x0 : Int) (u0 : zMem) : zRs := zgf 0 2 x0 u0 (fun v1 => some (v1, u0))
set_option maxRecDepth 100000 in
set_option maxHeartbeats 4000000 in
theorem rX0_size (l : Launch) (w : zW) (x0 : Int) (u0 : zMem) : zSpc l w 1 yX0_size cX0_size 1 (some .int) 1 [zR x0] u0 (fX0_size x0 u0) := by
  refine zSpc_of (own := RX0) pnRX0 rfl (Nat.le_of_ble_eq_true rfl) (fun G p e R s m args below meth c C hini => ?_)
  unfold fX0_size
  refine zlocs (lb := [(0, zR x0)]) ⟨rfl, trivial⟩ ?_
  refine z_aload_n C (i := 0) (pc' := 1) dX0_size_0 rfl rfl rfl ?_
  refine z_getf C (pc' := 4) flRX0_25 dX0_size_1 rfl (fun v1 => ?_)
  exact z_ireturn C dX0_size_4
def fX0_ran (x0 : Int) (u0 : zMem) : zRs := zgf 0 3 x0 u0 (fun v1 => some (v1, u0))
set_option maxRecDepth 100000 in
set_option maxHeartbeats 4000000 in
theorem rX0_ran (l : Launch) (w : zW) (x0 : Int) (u0 : zMem) : zSpc l w 1 yX0_ran cX0_ran 1 (some .int) 1 [zR x0] u0 (fX0_ran x0 u0) := by
  refine zSpc_of (own := RX0) pnRX0 rfl (Nat.le_of_ble_eq_true rfl) (fun G p e R s m args below meth c C hini => ?_)
  unfold fX0_ran
  refine zlocs (lb := [(0, zR x0)]) ⟨rfl, trivial⟩ ?_
  refine z_aload_n C (i := 0) (pc' := 1) dX0_ran_0 rfl rfl rfl ?_
  refine z_getf C (pc' := 4) flRX0_29 dX0_ran_1 rfl (fun v1 => ?_)
  exact z_ireturn C dX0_ran_4
def fX0_has (x0 x1 : Int) (u0 : zMem) : zRs := zjn (fun (u1 : zMem) => zbl 0 (some (0, u1))) (fun k2 => if x1 < 0 then (k2 u0) else (zgf 0 2 x0 u0 (fun v3 => if x1 ≥ v3 then (k2 u0) else (zbl 1 (some (1, u0))))))
set_option maxRecDepth 100000 in
set_option maxHeartbeats 4000000 in
theorem rX0_has (l : Launch) (w : zW) (x0 x1 : Int) (u0 : zMem) : zSpc l w 1 yX0_has cX0_has 2 (some .boolean) 1 [zR x0, zI x1] u0 (fX0_has x0 x1 u0) := by
  refine zSpc_of (own := RX0) pnRX0 rfl (Nat.le_of_ble_eq_true rfl) (fun G p e R s m args below meth c C hini => ?_)
  unfold fX0_has
  refine zlocs (lb := [(0, zR x0), (1, zI x1)]) ⟨rfl, rfl, trivial⟩ ?_
  refine z_iload_n C (i := 1) (pc' := 1) dX0_has_0 rfl rfl rfl ?_
  refine zjoin (P := fun (f : zMem → zRs) => ∀ (u1 : zMem), zSim G p l e R s m args below meth c w 2 (znc u0) (zM w 1 (znc u0) below args s) 16 [] [] u1 (f u1)) (fun u1 => ?_) (fun k2 hk2 => ?_)
  ·
    refine z_iconst C (pc' := 17) dX0_has_16 kc_0 rfl ?_
    exact z_zreturn C dX0_has_17
  ·
    refine z_if_lt C (pc' := 16) (pf := 4) dX0_has_1 rfl rfl (fun _ => ?_) (fun _ => ?_)
    ·
      exact zlocs (lb := []) trivial (hk2 _)
    ·
      refine z_iload_n C (i := 1) (pc' := 5) dX0_has_4 rfl rfl rfl ?_
      refine z_aload_n C (i := 0) (pc' := 6) dX0_has_5 rfl rfl rfl ?_
      refine z_getf C (pc' := 9) flRX0_25 dX0_has_6 rfl (fun v3 => ?_)
      refine z_icmp_ge C (pc' := 16) (pf := 12) dX0_has_9 rfl rfl (fun _ => ?_) (fun _ => ?_)
      ·
        exact zlocs (lb := []) trivial (hk2 _)
      ·
        refine z_iconst C (pc' := 13) dX0_has_12 kc_1 rfl ?_
        refine z_goto C (pc' := 17) dX0_has_13 rfl ?_
        exact z_zreturn C dX0_has_17
def fX0_kindOf (x0 x1 : Int) (u0 : zMem) : zRs := zvc 0 x0 (fX0_has x0 x1 u0) (fun v1 u2 => if v1 = 0 then (some ((-1), u2)) else (zgf 0 0 x0 u2 (fun v3 => zald 20 v3 x1 u2 (fun v4 => some (v4, u2)))))
set_option maxRecDepth 100000 in
set_option maxHeartbeats 4000000 in
theorem rX0_kindOf (l : Launch) (w : zW) (x0 x1 : Int) (u0 : zMem) : zSpc l w 2 yX0_kindOf cX0_kindOf 2 (some .int) 1 [zR x0, zI x1] u0 (fX0_kindOf x0 x1 u0) := by
  refine zSpc_of (own := RX0) pnRX0 rfl (Nat.le_of_ble_eq_true rfl) (fun G p e R s m args below meth c C hini => ?_)
  unfold fX0_kindOf
  refine zlocs (lb := [(0, zR x0), (1, zI x1)]) ⟨rfl, rfl, trivial⟩ ?_
  refine z_aload_n C (i := 0) (pc' := 1) dX0_kindOf_0 rfl rfl rfl ?_
  refine z_iload_n C (i := 1) (pc' := 2) dX0_kindOf_1 rfl rfl rfl ?_
  refine z_callV1 C (pc' := 5) lvRX0_32 lc_X0_has rfl dX0_kindOf_2 rfl (by decide) (rX0_has l w x0 x1 u0) rfl (Nat.le_of_ble_eq_true rfl) (fun v1 u2 => ?_)
  refine z_if_eq C (pc' := 17) (pf := 8) dX0_kindOf_5 rfl rfl (fun _ => ?_) (fun _ => ?_)
  ·
    refine z_iconst C (pc' := 18) dX0_kindOf_17 kc_m1 rfl ?_
    exact z_ireturn C dX0_kindOf_18
  ·
    refine z_aload_n C (i := 0) (pc' := 9) dX0_kindOf_8 rfl rfl rfl ?_
    refine z_getfR C (pc' := 12) flRX0_11 dX0_kindOf_9 rfl (fun v3 => ?_)
    refine z_iload_n C (i := 1) (pc' := 13) dX0_kindOf_12 rfl rfl rfl ?_
    refine z_iald C (pc' := 14) dX0_kindOf_13 rfl (fun v4 => ?_)
    refine z_goto C (pc' := 18) dX0_kindOf_14 rfl ?_
    exact z_ireturn C dX0_kindOf_18
def fX0_admit (x0 x1 : Int) (u0 : zMem) : zRs := zgf 0 2 x0 u0 (fun v1 => if v1 < 50 then (zgf 0 0 x0 u0 (fun v2 => zgf 0 2 x0 u0 (fun v3 => zast 20 v2 v3 x1 u0 (fun u4 => zgf 0 2 x0 u4 (fun v5 => zpf 0 2 x0 (zw32 (v5 + 1)) u4 (fun u6 => zgf 0 2 x0 u6 (fun v7 => some ((zw32 (v7 - 1)), u6)))))))) else (some ((-3), u0)))
set_option maxRecDepth 100000 in
set_option maxHeartbeats 4000000 in
theorem rX0_admit (l : Launch) (w : zW) (x0 x1 : Int) (u0 : zMem) : zSpc l w 1 yX0_admit cX0_admit 2 (some .int) 1 [zR x0, zI x1] u0 (fX0_admit x0 x1 u0) := by
  refine zSpc_of (own := RX0) pnRX0 rfl (Nat.le_of_ble_eq_true rfl) (fun G p e R s m args below meth c C hini => ?_)
  unfold fX0_admit
  refine zlocs (lb := [(0, zR x0), (1, zI x1)]) ⟨rfl, rfl, trivial⟩ ?_
  refine z_aload_n C (i := 0) (pc' := 1) dX0_admit_0 rfl rfl rfl ?_
  refine z_getf C (pc' := 4) flRX0_25 dX0_admit_1 rfl (fun v1 => ?_)
  refine z_bipush C (pc' := 6) dX0_admit_4 kb_50 rfl ?_
  refine z_icmp_lt C (pc' := 12) (pf := 9) dX0_admit_6 rfl rfl (fun _ => ?_) (fun _ => ?_)
  ·
    refine z_aload_n C (i := 0) (pc' := 13) dX0_admit_12 rfl rfl rfl ?_
    refine z_getfR C (pc' := 16) flRX0_11 dX0_admit_13 rfl (fun v2 => ?_)
    refine z_aload_n C (i := 0) (pc' := 17) dX0_admit_16 rfl rfl rfl ?_
    refine z_getf C (pc' := 20) flRX0_25 dX0_admit_17 rfl (fun v3 => ?_)
    refine z_iload_n C (i := 1) (pc' := 21) dX0_admit_20 rfl rfl rfl ?_
    refine z_iast C (pc' := 22) dX0_admit_21 rfl (fun u4 => ?_)
    refine z_aload_n C (i := 0) (pc' := 23) dX0_admit_22 rfl rfl rfl ?_
    refine z_dup C (pc' := 24) dX0_admit_23 rfl rfl ?_
    refine z_getf C (pc' := 27) flRX0_25 dX0_admit_24 rfl (fun v5 => ?_)
    refine z_iconst C (pc' := 28) dX0_admit_27 kc_1 rfl ?_
    refine z_iadd C (pc' := 29) dX0_admit_28 rfl ?_
    refine z_putf C (pc' := 32) flRX0_25 fn0_2 fb0_2 dX0_admit_29 rfl (fun u6 => ?_)
    refine z_aload_n C (i := 0) (pc' := 33) dX0_admit_32 rfl rfl rfl ?_
    refine z_getf C (pc' := 36) flRX0_25 dX0_admit_33 rfl (fun v7 => ?_)
    refine z_iconst C (pc' := 37) dX0_admit_36 kc_1 rfl ?_
    refine z_isub C (pc' := 38) dX0_admit_37 rfl ?_
    exact z_ireturn C dX0_admit_38
  ·
    refine z_bipush C (pc' := 11) dX0_admit_9 kb_m3 rfl ?_
    exact z_ireturn C dX0_admit_11
def fX0_traced (x0 x1 : Int) (u0 : zMem) : zRs := zjn (fun (u1 : zMem) => some ((-1), u1)) (fun k2 => if x1 < 0 then (k2 u0) else (zgf 0 3 x0 u0 (fun v3 => if x1 ≥ v3 then (k2 u0) else (if x1 ≥ 24 then (k2 u0) else (zgf 0 1 x0 u0 (fun v4 => zald 20 v4 x1 u0 (fun v5 => some (v5, u0))))))))
set_option maxRecDepth 100000 in
set_option maxHeartbeats 4000000 in
theorem rX0_traced (l : Launch) (w : zW) (x0 x1 : Int) (u0 : zMem) : zSpc l w 1 yX0_traced cX0_traced 2 (some .int) 1 [zR x0, zI x1] u0 (fX0_traced x0 x1 u0) := by
  refine zSpc_of (own := RX0) pnRX0 rfl (Nat.le_of_ble_eq_true rfl) (fun G p e R s m args below meth c C hini => ?_)
  unfold fX0_traced
  refine zlocs (lb := [(0, zR x0), (1, zI x1)]) ⟨rfl, rfl, trivial⟩ ?_
  refine z_iload_n C (i := 1) (pc' := 1) dX0_traced_0 rfl rfl rfl ?_
  refine zjoin (P := fun (f : zMem → zRs) => ∀ (u1 : zMem), zSim G p l e R s m args below meth c w 2 (znc u0) (zM w 1 (znc u0) below args s) 27 [] [] u1 (f u1)) (fun u1 => ?_) (fun k2 hk2 => ?_)
  ·
    refine z_iconst C (pc' := 28) dX0_traced_27 kc_m1 rfl ?_
    exact z_ireturn C dX0_traced_28
  ·
    refine z_if_lt C (pc' := 27) (pf := 4) dX0_traced_1 rfl rfl (fun _ => ?_) (fun _ => ?_)
    ·
      exact zlocs (lb := []) trivial (hk2 _)
    ·
      refine z_iload_n C (i := 1) (pc' := 5) dX0_traced_4 rfl rfl rfl ?_
      refine z_aload_n C (i := 0) (pc' := 6) dX0_traced_5 rfl rfl rfl ?_
      refine z_getf C (pc' := 9) flRX0_29 dX0_traced_6 rfl (fun v3 => ?_)
      refine z_icmp_ge C (pc' := 27) (pf := 12) dX0_traced_9 rfl rfl (fun _ => ?_) (fun _ => ?_)
      ·
        exact zlocs (lb := []) trivial (hk2 _)
      ·
        refine z_iload_n C (i := 1) (pc' := 13) dX0_traced_12 rfl rfl rfl ?_
        refine z_bipush C (pc' := 15) dX0_traced_13 kb_24 rfl ?_
        refine z_icmp_ge C (pc' := 27) (pf := 18) dX0_traced_15 rfl rfl (fun _ => ?_) (fun _ => ?_)
        ·
          exact zlocs (lb := []) trivial (hk2 _)
        ·
          refine z_aload_n C (i := 0) (pc' := 19) dX0_traced_18 rfl rfl rfl ?_
          refine z_getfR C (pc' := 22) flRX0_15 dX0_traced_19 rfl (fun v4 => ?_)
          refine z_iload_n C (i := 1) (pc' := 23) dX0_traced_22 rfl rfl rfl ?_
          refine z_iald C (pc' := 24) dX0_traced_23 rfl (fun v5 => ?_)
          refine z_goto C (pc' := 28) dX0_traced_24 rfl ?_
          exact z_ireturn C dX0_traced_28
def fX0_note (x0 x1 : Int) (u0 : zMem) : zRs := zgf 0 3 x0 u0 (fun v1 => zjn (fun (u2 : zMem) => zgf 0 3 x0 u2 (fun v4 => zpf 0 3 x0 (zw32 (v4 + 1)) u2 (fun u5 => some (0, u5)))) (fun k3 => if v1 ≥ 24 then (k3 u0) else (zgf 0 1 x0 u0 (fun v6 => zgf 0 3 x0 u0 (fun v7 => zast 20 v6 v7 x1 u0 (fun u8 => k3 u8))))))
set_option maxRecDepth 100000 in
set_option maxHeartbeats 4000000 in
theorem rX0_note (l : Launch) (w : zW) (x0 x1 : Int) (u0 : zMem) : zSpc l w 1 yX0_note cX0_note 2 none 0 [zR x0, zI x1] u0 (fX0_note x0 x1 u0) := by
  refine zSpc_of (own := RX0) pnRX0 rfl (Nat.le_of_ble_eq_true rfl) (fun G p e R s m args below meth c C hini => ?_)
  unfold fX0_note
  refine zlocs (lb := [(0, zR x0), (1, zI x1)]) ⟨rfl, rfl, trivial⟩ ?_
  refine z_aload_n C (i := 0) (pc' := 1) dX0_note_0 rfl rfl rfl ?_
  refine z_getf C (pc' := 4) flRX0_29 dX0_note_1 rfl (fun v1 => ?_)
  refine z_bipush C (pc' := 6) dX0_note_4 kb_24 rfl ?_
  refine zjoin (P := fun (f : zMem → zRs) => ∀ (u2 : zMem), zSim G p l e R s m args below meth c w 2 (znc u0) (zM w 0 (znc u0) below args s) 19 [(0, zR x0)] [] u2 (f u2)) (fun u2 => ?_) (fun k3 hk3 => ?_)
  ·
    refine z_aload_n C (i := 0) (pc' := 20) dX0_note_19 rfl rfl rfl ?_
    refine z_dup C (pc' := 21) dX0_note_20 rfl rfl ?_
    refine z_getf C (pc' := 24) flRX0_29 dX0_note_21 rfl (fun v4 => ?_)
    refine z_iconst C (pc' := 25) dX0_note_24 kc_1 rfl ?_
    refine z_iadd C (pc' := 26) dX0_note_25 rfl ?_
    refine z_putf C (pc' := 29) flRX0_29 fn0_3 fb0_3 dX0_note_26 rfl (fun u5 => ?_)
    exact z_return C dX0_note_29
  ·
    refine z_icmp_ge C (pc' := 19) (pf := 9) dX0_note_6 rfl rfl (fun _ => ?_) (fun _ => ?_)
    ·
      exact zlocs (lb := [(0, zR x0)]) ⟨rfl, trivial⟩ (hk3 _)
    ·
      refine z_aload_n C (i := 0) (pc' := 10) dX0_note_9 rfl rfl rfl ?_
      refine z_getfR C (pc' := 13) flRX0_15 dX0_note_10 rfl (fun v6 => ?_)
      refine z_aload_n C (i := 0) (pc' := 14) dX0_note_13 rfl rfl rfl ?_
      refine z_getf C (pc' := 17) flRX0_29 dX0_note_14 rfl (fun v7 => ?_)
      refine z_iload_n C (i := 1) (pc' := 18) dX0_note_17 rfl rfl rfl ?_
      refine z_iast C (pc' := 19) dX0_note_18 rfl (fun u8 => ?_)
      exact zlocs (lb := [(0, zR x0)]) ⟨rfl, trivial⟩ (hk3 _)
def gX0_own_b0 (rec : (Int → Int → Int → Int → zMem → zRs) × (Int → Int → Int → Int → Int → zMem → zRs) × (Int → Int → Int → Int → Int → zMem → zRs)) : Int → Int → Int → Int → zMem → zRs := fun (x0 x1 x2 x3 : Int) (u0 : zMem) => zgf 0 4 x0 u0 (fun v1 => zvc 0 x0 (fX0_kindOf x0 v1 u0) (fun v2 u3 => zvc 0 x0 (rec.2.1 x0 v2 x1 x2 x3 u3) (fun v4 u5 => some (v4, u5))))
def gX0_own_b1 (rec : (Int → Int → Int → Int → zMem → zRs) × (Int → Int → Int → Int → Int → zMem → zRs) × (Int → Int → Int → Int → Int → zMem → zRs)) : Int → Int → Int → Int → Int → zMem → zRs := fun (x0 x1 x2 x3 x4 : Int) (u0 : zMem) => zlp (fun _ _ _ => none) (fun k4 (v1 : Int) (v2 : Int) (u3 : zMem) => if v2 ≥ 8 then (some (0, u3)) else (zcall (fX0_isKind v1 u3) (fun v5 u6 => if v5 = 0 then (some (0, u6)) else (zald 20 4 (zw32 ((zw32 (4 * v1)) + x2)) u6 (fun v7 => if v7 = 0 then (zald 20 3 v1 u6 (fun v8 => k4 v8 (zw32 (v2 + 1)) u6)) else (if x4 ≥ 40 then (some (0, u6)) else (zald 20 3 v1 u6 (fun v9 => zvc 0 x0 (rec.2.2 x0 v7 v9 x3 (zw32 (x4 + 1)) u6) (fun v10 u11 => some (v10, u11)))))))))) 1000000 x1 0 u0
def gX0_own_b2 (rec : (Int → Int → Int → Int → zMem → zRs) × (Int → Int → Int → Int → Int → zMem → zRs) × (Int → Int → Int → Int → Int → zMem → zRs)) : Int → Int → Int → Int → Int → zMem → zRs := fun (x0 x1 x2 x3 x4 : Int) (u0 : zMem) => zvc 0 x0 (fX0_note x0 x1 u0) (fun _ u1 => if x1 = 1 then (zgf 0 4 x0 u1 (fun v3 => some ((zw32 (x3 + v3)), u1))) else (if x1 = 2 then (zvc 0 x0 (rec.1 x0 1 x3 x4 u1) (fun v5 u6 => zvc 0 x0 (rec.1 x0 2 1 x4 u6) (fun v7 u8 => some ((zw32 (v5 - v7)), u8)))) else (if x1 = 10 then (zvc 0 x0 (rec.1 x0 0 x3 x4 u1) (fun v10 u11 => some ((zw32 (v10 * 2)), u11))) else (if x1 = 11 then (zgf 0 4 x0 u1 (fun v13 => some ((zxor x3 v13), u1))) else (if x1 = 20 then (zvc 0 x0 (rec.2.1 x0 x2 0 x3 x4 u1) (fun v15 u16 => some ((zw32 (v15 + 3)), u16))) else (if x1 = 30 then (zvc 0 x0 (rec.2.1 x0 x2 1 x3 x4 u1) (fun v18 u19 => some ((zw32 (-v18)), u19))) else (if x1 = 40 then (zvc 0 x0 (rec.2.1 x0 x2 2 x3 x4 u1) (fun v21 u22 => some ((zw32 (v21 * 3)), u22))) else (if x1 = 41 then (zvc 0 x0 (rec.2.1 x0 x2 1 (zw32 (x3 + 1)) x4 u1) (fun v24 u25 => some (v24, u25))) else (if x1 = 50 then (zvc 0 x0 (rec.2.1 x0 x2 3 x3 x4 u1) (fun v27 u28 => some ((zxor v27 5), u28))) else (if x1 = 60 then (zvc 0 x0 (rec.2.1 x0 x2 2 x3 x4 u1) (fun v30 u31 => zvc 0 x0 (rec.1 x0 0 2 x4 u31) (fun v32 u33 => some ((zw32 (v30 - v32)), u33)))) else (if x1 = 61 then (zvc 0 x0 (rec.2.1 x0 x2 3 x3 x4 u1) (fun v35 u36 => some ((zw32 (v35 + 1)), u36))) else (if x1 = 70 then (zvc 0 x0 (rec.2.1 x0 x2 0 x3 x4 u1) (fun v38 u39 => some ((zw32 (v38 * 2)), u39))) else (if x1 = 80 then (zvc 0 x0 (rec.2.1 x0 x2 1 x3 x4 u1) (fun v41 u42 => zvc 0 x0 (rec.1 x0 2 2 x4 u42) (fun v43 u44 => some ((zw32 (v41 + v43)), u44)))) else (if x1 = 81 then (zvc 0 x0 (rec.2.1 x0 x2 3 x3 x4 u1) (fun v46 u47 => some ((zw32 (v46 - 1)), u47))) else (some (0, u1))))))))))))))))
def gX0_own (n : Nat) : (Int → Int → Int → Int → zMem → zRs) × (Int → Int → Int → Int → Int → zMem → zRs) × (Int → Int → Int → Int → Int → zMem → zRs) := zlp ((fun _ _ _ _ _ => none), (fun _ _ _ _ _ _ => none), (fun _ _ _ _ _ _ => none)) (fun rec => (gX0_own_b0 rec, gX0_own_b1 rec, gX0_own_b2 rec)) n
def fX0_own (x0 x1 x2 x3 : Int) (u0 : zMem) : zRs := (gX0_own 200).1 x0 x1 x2 x3 u0
def fX0_from (x0 x1 x2 x3 x4 : Int) (u0 : zMem) : zRs := (gX0_own 200).2.1 x0 x1 x2 x3 x4 u0
def fX0_run (x0 x1 x2 x3 x4 : Int) (u0 : zMem) : zRs := (gX0_own 200).2.2 x0 x1 x2 x3 x4 u0
set_option maxRecDepth 100000 in
set_option maxHeartbeats 4000000 in
theorem gX0_own_r0 (l : Launch) (w : zW) (n : Nat) (rec : (Int → Int → Int → Int → zMem → zRs) × (Int → Int → Int → Int → Int → zMem → zRs) × (Int → Int → Int → Int → Int → zMem → zRs)) (ih : (∀ (x0 x1 x2 x3 : Int) (u0 : zMem), zSpc l w (3 + n) yX0_own cX0_own 4 (some .int) 1 [zR x0, zI x1, zI x2, zI x3] u0 (rec.1 x0 x1 x2 x3 u0)) ∧ (∀ (x0 x1 x2 x3 x4 : Int) (u0 : zMem), zSpc l w (3 + n) yX0_from cX0_from 8 (some .int) 1 [zR x0, zI x1, zI x2, zI x3, zI x4] u0 (rec.2.1 x0 x1 x2 x3 x4 u0)) ∧ (∀ (x0 x1 x2 x3 x4 : Int) (u0 : zMem), zSpc l w (3 + n) yX0_run cX0_run 5 (some .int) 1 [zR x0, zI x1, zI x2, zI x3, zI x4] u0 (rec.2.2 x0 x1 x2 x3 x4 u0))) : ∀ (x0 x1 x2 x3 : Int) (u0 : zMem), zSpc l w (3 + (n + 1)) yX0_own cX0_own 4 (some .int) 1 [zR x0, zI x1, zI x2, zI x3] u0 (gX0_own_b0 rec x0 x1 x2 x3 u0) := by
  intro x0 x1 x2 x3 u0
  refine zSpc_of (own := RX0) pnRX0 rfl (Nat.le_of_ble_eq_true rfl) (fun G p e R s m args below meth c C hini => ?_)
  unfold gX0_own_b0
  refine zlocs (lb := [(0, zR x0), (1, zI x1), (2, zI x2), (3, zI x3)]) ⟨rfl, rfl, rfl, rfl, trivial⟩ ?_
  refine z_aload_n C (i := 0) (pc' := 1) dX0_own_0 rfl rfl rfl ?_
  refine z_aload_n C (i := 0) (pc' := 2) dX0_own_1 rfl rfl rfl ?_
  refine z_aload_n C (i := 0) (pc' := 3) dX0_own_2 rfl rfl rfl ?_
  refine z_getf C (pc' := 6) flRX0_35 dX0_own_3 rfl (fun v1 => ?_)
  refine z_callV1 C (pc' := 9) lvRX0_42 lc_X0_kindOf rfl dX0_own_6 rfl (by omega) (rX0_kindOf l w x0 v1 u0) rfl (Nat.le_of_ble_eq_true rfl) (fun v2 u3 => ?_)
  refine z_iload_n C (i := 1) (pc' := 10) dX0_own_9 rfl rfl rfl ?_
  refine z_iload_n C (i := 2) (pc' := 11) dX0_own_10 rfl rfl rfl ?_
  refine z_iload_n C (i := 3) (pc' := 12) dX0_own_11 rfl rfl rfl ?_
  refine z_callV1 C (pc' := 15) lvRX0_46 lc_X0_from rfl dX0_own_12 rfl (by omega) (ih.2.1 x0 v2 x1 x2 x3 u3) rfl (Nat.le_of_ble_eq_true rfl) (fun v4 u5 => ?_)
  exact z_ireturn C dX0_own_15
set_option maxRecDepth 100000 in
set_option maxHeartbeats 4000000 in
theorem gX0_own_r1 (l : Launch) (w : zW) (n : Nat) (rec : (Int → Int → Int → Int → zMem → zRs) × (Int → Int → Int → Int → Int → zMem → zRs) × (Int → Int → Int → Int → Int → zMem → zRs)) (ih : (∀ (x0 x1 x2 x3 : Int) (u0 : zMem), zSpc l w (3 + n) yX0_own cX0_own 4 (some .int) 1 [zR x0, zI x1, zI x2, zI x3] u0 (rec.1 x0 x1 x2 x3 u0)) ∧ (∀ (x0 x1 x2 x3 x4 : Int) (u0 : zMem), zSpc l w (3 + n) yX0_from cX0_from 8 (some .int) 1 [zR x0, zI x1, zI x2, zI x3, zI x4] u0 (rec.2.1 x0 x1 x2 x3 x4 u0)) ∧ (∀ (x0 x1 x2 x3 x4 : Int) (u0 : zMem), zSpc l w (3 + n) yX0_run cX0_run 5 (some .int) 1 [zR x0, zI x1, zI x2, zI x3, zI x4] u0 (rec.2.2 x0 x1 x2 x3 x4 u0))) : ∀ (x0 x1 x2 x3 x4 : Int) (u0 : zMem), zSpc l w (3 + (n + 1)) yX0_from cX0_from 8 (some .int) 1 [zR x0, zI x1, zI x2, zI x3, zI x4] u0 (gX0_own_b1 rec x0 x1 x2 x3 x4 u0) := by
  intro x0 x1 x2 x3 x4 u0
  refine zSpc_of (own := RX0) pnRX0 rfl (Nat.le_of_ble_eq_true rfl) (fun G p e R s m args below meth c C hini => ?_)
  unfold gX0_own_b1
  refine zlocs (lb := [(0, zR x0), (1, zI x1), (2, zI x2), (3, zI x3), (4, zI x4)]) ⟨rfl, rfl, rfl, rfl, rfl, trivial⟩ ?_
  refine z_iload_n C (i := 1) (pc' := 1) dX0_from_0 rfl rfl rfl ?_
  refine z_istore C (i := 5) (la' := [(5, zI x1), (0, zR x0), (1, zI x1), (2, zI x2), (3, zI x3), (4, zI x4)]) (pc' := 3) dX0_from_1 (by decide) rfl rfl ?_
  refine z_iconst C (pc' := 4) dX0_from_3 kc_0 rfl ?_
  refine z_istore C (i := 6) (la' := [(6, zI 0), (5, zI x1), (0, zR x0), (1, zI x1), (2, zI x2), (3, zI x3), (4, zI x4)]) (pc' := 6) dX0_from_4 (by decide) rfl rfl ?_
  refine zlocs (lb := [(0, zR x0), (2, zI x2), (3, zI x3), (4, zI x4), (5, zI x1), (6, zI 0)]) ⟨rfl, rfl, rfl, rfl, rfl, rfl, trivial⟩ ?_
  refine zlp_ind (fun (f : Int → Int → zMem → zRs) => ∀ (v1 : Int) (v2 : Int) (u3 : zMem), zSim G p l e R s m args below meth c w 8 (znc u0) (zM w 1 (znc u0) below args s) 6 [(0, zR x0), (2, zI x2), (3, zI x3), (4, zI x4), (5, zI v1), (6, zI v2)] [] u3 (f v1 v2 u3)) (fun _ _ _ => znone) (fun k4 hk4 v1 v2 u3 => ?_) _ _ _ _
  refine z_iload C (pc' := 8) dX0_from_6 rfl rfl ?_
  refine z_bipush C (pc' := 10) dX0_from_8 kb_8 rfl ?_
  refine z_icmp_ge C (pc' := 81) (pf := 13) dX0_from_10 rfl rfl (fun _ => ?_) (fun _ => ?_)
  ·
    refine z_iconst C (pc' := 82) dX0_from_81 kc_0 rfl ?_
    exact z_ireturn C dX0_from_82
  ·
    refine z_iload C (pc' := 15) dX0_from_13 rfl rfl ?_
    refine z_callS1 C (pc' := 18) lsRX0_18 lc_X0_isKind rfl dX0_from_15 rfl (by omega) (rX0_isKind l w v1 u3) rfl (Nat.le_of_ble_eq_true rfl) (fun v5 u6 => ?_)
    refine z_if_eq C (pc' := 81) (pf := 21) dX0_from_18 rfl rfl (fun _ => ?_) (fun _ => ?_)
    ·
      refine z_iconst C (pc' := 82) dX0_from_81 kc_0 rfl ?_
      exact z_ireturn C dX0_from_82
    ·
      refine z_gets C (q := 4) (pc' := 24) (by decide) wgRX0_50 dX0_from_21 rfl ?_
      refine z_iconst C (pc' := 25) dX0_from_24 kc_4 rfl ?_
      refine z_iload C (pc' := 27) dX0_from_25 rfl rfl ?_
      refine z_imul C (pc' := 28) dX0_from_27 rfl ?_
      refine z_iload_n C (i := 2) (pc' := 29) dX0_from_28 rfl rfl rfl ?_
      refine z_iadd C (pc' := 30) dX0_from_29 rfl ?_
      refine z_iald C (pc' := 31) dX0_from_30 rfl (fun v7 => ?_)
      refine z_istore C (i := 7) (la' := [(7, zI v7), (0, zR x0), (2, zI x2), (3, zI x3), (4, zI x4), (5, zI v1), (6, zI v2)]) (pc' := 33) dX0_from_31 (by decide) rfl rfl ?_
      refine z_iload C (pc' := 35) dX0_from_33 rfl rfl ?_
      refine z_if_eq C (pc' := 67) (pf := 38) dX0_from_35 rfl rfl (fun _ => ?_) (fun _ => ?_)
      ·
        refine z_gets C (q := 3) (pc' := 70) (by decide) wgRX0_22 dX0_from_67 rfl ?_
        refine z_iload C (pc' := 72) dX0_from_70 rfl rfl ?_
        refine z_iald C (pc' := 73) dX0_from_72 rfl (fun v8 => ?_)
        refine z_istore C (i := 5) (la' := [(5, zI v8), (7, zI v7), (0, zR x0), (2, zI x2), (3, zI x3), (4, zI x4), (6, zI v2)]) (pc' := 75) dX0_from_73 (by decide) rfl rfl ?_
        refine z_iinc C (i := 6) (la' := [(6, zI (zw32 (v2 + 1))), (5, zI v8), (7, zI v7), (0, zR x0), (2, zI x2), (3, zI x3), (4, zI x4)]) (pc' := 78) dX0_from_75 rfl (by decide) rfl rfl ?_
        refine z_goto C (pc' := 6) dX0_from_78 rfl ?_
        exact zlocs (lb := [(0, zR x0), (2, zI x2), (3, zI x3), (4, zI x4), (5, zI v8), (6, zI (zw32 (v2 + 1)))]) ⟨rfl, rfl, rfl, rfl, rfl, rfl, trivial⟩ (hk4 _ _ _)
      ·
        refine z_iload C (pc' := 40) dX0_from_38 rfl rfl ?_
        refine z_bipush C (pc' := 42) dX0_from_40 kb_40 rfl ?_
        refine z_icmp_ge C (pc' := 65) (pf := 45) dX0_from_42 rfl rfl (fun _ => ?_) (fun _ => ?_)
        ·
          refine z_iconst C (pc' := 66) dX0_from_65 kc_0 rfl ?_
          exact z_ireturn C dX0_from_66
        ·
          refine z_aload_n C (i := 0) (pc' := 46) dX0_from_45 rfl rfl rfl ?_
          refine z_iload C (pc' := 48) dX0_from_46 rfl rfl ?_
          refine z_gets C (q := 3) (pc' := 51) (by decide) wgRX0_22 dX0_from_48 rfl ?_
          refine z_iload C (pc' := 53) dX0_from_51 rfl rfl ?_
          refine z_iald C (pc' := 54) dX0_from_53 rfl (fun v9 => ?_)
          refine z_iload_n C (i := 3) (pc' := 55) dX0_from_54 rfl rfl rfl ?_
          refine z_iload C (pc' := 57) dX0_from_55 rfl rfl ?_
          refine z_iconst C (pc' := 58) dX0_from_57 kc_1 rfl ?_
          refine z_iadd C (pc' := 59) dX0_from_58 rfl ?_
          refine z_callV1 C (pc' := 62) lvRX0_53 lc_X0_run rfl dX0_from_59 rfl (by omega) (ih.2.2 x0 v7 v9 x3 (zw32 (x4 + 1)) u6) rfl (Nat.le_of_ble_eq_true rfl) (fun v10 u11 => ?_)
          refine z_goto C (pc' := 66) dX0_from_62 rfl ?_
          exact z_ireturn C dX0_from_66
set_option maxRecDepth 100000 in
set_option maxHeartbeats 4000000 in
theorem gX0_own_r2 (l : Launch) (w : zW) (n : Nat) (rec : (Int → Int → Int → Int → zMem → zRs) × (Int → Int → Int → Int → Int → zMem → zRs) × (Int → Int → Int → Int → Int → zMem → zRs)) (ih : (∀ (x0 x1 x2 x3 : Int) (u0 : zMem), zSpc l w (3 + n) yX0_own cX0_own 4 (some .int) 1 [zR x0, zI x1, zI x2, zI x3] u0 (rec.1 x0 x1 x2 x3 u0)) ∧ (∀ (x0 x1 x2 x3 x4 : Int) (u0 : zMem), zSpc l w (3 + n) yX0_from cX0_from 8 (some .int) 1 [zR x0, zI x1, zI x2, zI x3, zI x4] u0 (rec.2.1 x0 x1 x2 x3 x4 u0)) ∧ (∀ (x0 x1 x2 x3 x4 : Int) (u0 : zMem), zSpc l w (3 + n) yX0_run cX0_run 5 (some .int) 1 [zR x0, zI x1, zI x2, zI x3, zI x4] u0 (rec.2.2 x0 x1 x2 x3 x4 u0))) : ∀ (x0 x1 x2 x3 x4 : Int) (u0 : zMem), zSpc l w (3 + (n + 1)) yX0_run cX0_run 5 (some .int) 1 [zR x0, zI x1, zI x2, zI x3, zI x4] u0 (gX0_own_b2 rec x0 x1 x2 x3 x4 u0) := by
  intro x0 x1 x2 x3 x4 u0
  refine zSpc_of (own := RX0) pnRX0 rfl (Nat.le_of_ble_eq_true rfl) (fun G p e R s m args below meth c C hini => ?_)
  unfold gX0_own_b2
  refine zlocs (lb := [(0, zR x0), (1, zI x1), (2, zI x2), (3, zI x3), (4, zI x4)]) ⟨rfl, rfl, rfl, rfl, rfl, trivial⟩ ?_
  refine z_aload_n C (i := 0) (pc' := 1) dX0_run_0 rfl rfl rfl ?_
  refine z_iload_n C (i := 1) (pc' := 2) dX0_run_1 rfl rfl rfl ?_
  refine z_callV0 C (pc' := 5) lvRX0_56 lc_X0_note rfl dX0_run_2 rfl (by omega) (rX0_note l w x0 x1 u0) rfl (Nat.le_of_ble_eq_true rfl) (fun _ u1 => ?_)
  refine z_iload_n C (i := 1) (pc' := 6) dX0_run_5 rfl rfl rfl ?_
  refine z_lcase C (pc' := 128) dX0_run_6 1 rfl rfl rfl (fun _ => ?_) (fun h2 => ?_)
  ·
    refine z_iload_n C (i := 3) (pc' := 129) dX0_run_128 rfl rfl rfl ?_
    refine z_aload_n C (i := 0) (pc' := 130) dX0_run_129 rfl rfl rfl ?_
    refine z_getf C (pc' := 133) flRX0_35 dX0_run_130 rfl (fun v3 => ?_)
    refine z_iadd C (pc' := 134) dX0_run_133 rfl ?_
    exact z_ireturn C dX0_run_134
  ·
    refine z_lcase C (pc' := 135) dX0_run_6 2 rfl rfl rfl (fun _ => ?_) (fun h4 => ?_)
    ·
      refine z_aload_n C (i := 0) (pc' := 136) dX0_run_135 rfl rfl rfl ?_
      refine z_iconst C (pc' := 137) dX0_run_136 kc_1 rfl ?_
      refine z_iload_n C (i := 3) (pc' := 138) dX0_run_137 rfl rfl rfl ?_
      refine z_iload C (pc' := 140) dX0_run_138 rfl rfl ?_
      refine z_callV1 C (pc' := 143) lvRX0_38 lc_X0_own rfl dX0_run_140 rfl (by omega) (ih.1 x0 1 x3 x4 u1) rfl (Nat.le_of_ble_eq_true rfl) (fun v5 u6 => ?_)
      refine z_aload_n C (i := 0) (pc' := 144) dX0_run_143 rfl rfl rfl ?_
      refine z_iconst C (pc' := 145) dX0_run_144 kc_2 rfl ?_
      refine z_iconst C (pc' := 146) dX0_run_145 kc_1 rfl ?_
      refine z_iload C (pc' := 148) dX0_run_146 rfl rfl ?_
      refine z_callV1 C (pc' := 151) lvRX0_38 lc_X0_own rfl dX0_run_148 rfl (by omega) (ih.1 x0 2 1 x4 u6) rfl (Nat.le_of_ble_eq_true rfl) (fun v7 u8 => ?_)
      refine z_isub C (pc' := 152) dX0_run_151 rfl ?_
      exact z_ireturn C dX0_run_152
    ·
      refine z_lcase C (pc' := 153) dX0_run_6 10 rfl rfl rfl (fun _ => ?_) (fun h9 => ?_)
      ·
        refine z_aload_n C (i := 0) (pc' := 154) dX0_run_153 rfl rfl rfl ?_
        refine z_iconst C (pc' := 155) dX0_run_154 kc_0 rfl ?_
        refine z_iload_n C (i := 3) (pc' := 156) dX0_run_155 rfl rfl rfl ?_
        refine z_iload C (pc' := 158) dX0_run_156 rfl rfl ?_
        refine z_callV1 C (pc' := 161) lvRX0_38 lc_X0_own rfl dX0_run_158 rfl (by omega) (ih.1 x0 0 x3 x4 u1) rfl (Nat.le_of_ble_eq_true rfl) (fun v10 u11 => ?_)
        refine z_iconst C (pc' := 162) dX0_run_161 kc_2 rfl ?_
        refine z_imul C (pc' := 163) dX0_run_162 rfl ?_
        exact z_ireturn C dX0_run_163
      ·
        refine z_lcase C (pc' := 164) dX0_run_6 11 rfl rfl rfl (fun _ => ?_) (fun h12 => ?_)
        ·
          refine z_iload_n C (i := 3) (pc' := 165) dX0_run_164 rfl rfl rfl ?_
          refine z_aload_n C (i := 0) (pc' := 166) dX0_run_165 rfl rfl rfl ?_
          refine z_getf C (pc' := 169) flRX0_35 dX0_run_166 rfl (fun v13 => ?_)
          refine z_ixor C (pc' := 170) dX0_run_169 rfl ?_
          exact z_ireturn C dX0_run_170
        ·
          refine z_lcase C (pc' := 171) dX0_run_6 20 rfl rfl rfl (fun _ => ?_) (fun h14 => ?_)
          ·
            refine z_aload_n C (i := 0) (pc' := 172) dX0_run_171 rfl rfl rfl ?_
            refine z_iload_n C (i := 2) (pc' := 173) dX0_run_172 rfl rfl rfl ?_
            refine z_iconst C (pc' := 174) dX0_run_173 kc_0 rfl ?_
            refine z_iload_n C (i := 3) (pc' := 175) dX0_run_174 rfl rfl rfl ?_
            refine z_iload C (pc' := 177) dX0_run_175 rfl rfl ?_
            refine z_callV1 C (pc' := 180) lvRX0_46 lc_X0_from rfl dX0_run_177 rfl (by omega) (ih.2.1 x0 x2 0 x3 x4 u1) rfl (Nat.le_of_ble_eq_true rfl) (fun v15 u16 => ?_)
            refine z_iconst C (pc' := 181) dX0_run_180 kc_3 rfl ?_
            refine z_iadd C (pc' := 182) dX0_run_181 rfl ?_
            exact z_ireturn C dX0_run_182
          ·
            refine z_lcase C (pc' := 183) dX0_run_6 30 rfl rfl rfl (fun _ => ?_) (fun h17 => ?_)
            ·
              refine z_aload_n C (i := 0) (pc' := 184) dX0_run_183 rfl rfl rfl ?_
              refine z_iload_n C (i := 2) (pc' := 185) dX0_run_184 rfl rfl rfl ?_
              refine z_iconst C (pc' := 186) dX0_run_185 kc_1 rfl ?_
              refine z_iload_n C (i := 3) (pc' := 187) dX0_run_186 rfl rfl rfl ?_
              refine z_iload C (pc' := 189) dX0_run_187 rfl rfl ?_
              refine z_callV1 C (pc' := 192) lvRX0_46 lc_X0_from rfl dX0_run_189 rfl (by omega) (ih.2.1 x0 x2 1 x3 x4 u1) rfl (Nat.le_of_ble_eq_true rfl) (fun v18 u19 => ?_)
              refine z_ineg C (pc' := 193) dX0_run_192 rfl ?_
              exact z_ireturn C dX0_run_193
            ·
              refine z_lcase C (pc' := 194) dX0_run_6 40 rfl rfl rfl (fun _ => ?_) (fun h20 => ?_)
              ·
                refine z_aload_n C (i := 0) (pc' := 195) dX0_run_194 rfl rfl rfl ?_
                refine z_iload_n C (i := 2) (pc' := 196) dX0_run_195 rfl rfl rfl ?_
                refine z_iconst C (pc' := 197) dX0_run_196 kc_2 rfl ?_
                refine z_iload_n C (i := 3) (pc' := 198) dX0_run_197 rfl rfl rfl ?_
                refine z_iload C (pc' := 200) dX0_run_198 rfl rfl ?_
                refine z_callV1 C (pc' := 203) lvRX0_46 lc_X0_from rfl dX0_run_200 rfl (by omega) (ih.2.1 x0 x2 2 x3 x4 u1) rfl (Nat.le_of_ble_eq_true rfl) (fun v21 u22 => ?_)
                refine z_iconst C (pc' := 204) dX0_run_203 kc_3 rfl ?_
                refine z_imul C (pc' := 205) dX0_run_204 rfl ?_
                exact z_ireturn C dX0_run_205
              ·
                refine z_lcase C (pc' := 206) dX0_run_6 41 rfl rfl rfl (fun _ => ?_) (fun h23 => ?_)
                ·
                  refine z_aload_n C (i := 0) (pc' := 207) dX0_run_206 rfl rfl rfl ?_
                  refine z_iload_n C (i := 2) (pc' := 208) dX0_run_207 rfl rfl rfl ?_
                  refine z_iconst C (pc' := 209) dX0_run_208 kc_1 rfl ?_
                  refine z_iload_n C (i := 3) (pc' := 210) dX0_run_209 rfl rfl rfl ?_
                  refine z_iconst C (pc' := 211) dX0_run_210 kc_1 rfl ?_
                  refine z_iadd C (pc' := 212) dX0_run_211 rfl ?_
                  refine z_iload C (pc' := 214) dX0_run_212 rfl rfl ?_
                  refine z_callV1 C (pc' := 217) lvRX0_46 lc_X0_from rfl dX0_run_214 rfl (by omega) (ih.2.1 x0 x2 1 (zw32 (x3 + 1)) x4 u1) rfl (Nat.le_of_ble_eq_true rfl) (fun v24 u25 => ?_)
                  exact z_ireturn C dX0_run_217
                ·
                  refine z_lcase C (pc' := 218) dX0_run_6 50 rfl rfl rfl (fun _ => ?_) (fun h26 => ?_)
                  ·
                    refine z_aload_n C (i := 0) (pc' := 219) dX0_run_218 rfl rfl rfl ?_
                    refine z_iload_n C (i := 2) (pc' := 220) dX0_run_219 rfl rfl rfl ?_
                    refine z_iconst C (pc' := 221) dX0_run_220 kc_3 rfl ?_
                    refine z_iload_n C (i := 3) (pc' := 222) dX0_run_221 rfl rfl rfl ?_
                    refine z_iload C (pc' := 224) dX0_run_222 rfl rfl ?_
                    refine z_callV1 C (pc' := 227) lvRX0_46 lc_X0_from rfl dX0_run_224 rfl (by omega) (ih.2.1 x0 x2 3 x3 x4 u1) rfl (Nat.le_of_ble_eq_true rfl) (fun v27 u28 => ?_)
                    refine z_iconst C (pc' := 228) dX0_run_227 kc_5 rfl ?_
                    refine z_ixor C (pc' := 229) dX0_run_228 rfl ?_
                    exact z_ireturn C dX0_run_229
                  ·
                    refine z_lcase C (pc' := 230) dX0_run_6 60 rfl rfl rfl (fun _ => ?_) (fun h29 => ?_)
                    ·
                      refine z_aload_n C (i := 0) (pc' := 231) dX0_run_230 rfl rfl rfl ?_
                      refine z_iload_n C (i := 2) (pc' := 232) dX0_run_231 rfl rfl rfl ?_
                      refine z_iconst C (pc' := 233) dX0_run_232 kc_2 rfl ?_
                      refine z_iload_n C (i := 3) (pc' := 234) dX0_run_233 rfl rfl rfl ?_
                      refine z_iload C (pc' := 236) dX0_run_234 rfl rfl ?_
                      refine z_callV1 C (pc' := 239) lvRX0_46 lc_X0_from rfl dX0_run_236 rfl (by omega) (ih.2.1 x0 x2 2 x3 x4 u1) rfl (Nat.le_of_ble_eq_true rfl) (fun v30 u31 => ?_)
                      refine z_aload_n C (i := 0) (pc' := 240) dX0_run_239 rfl rfl rfl ?_
                      refine z_iconst C (pc' := 241) dX0_run_240 kc_0 rfl ?_
                      refine z_iconst C (pc' := 242) dX0_run_241 kc_2 rfl ?_
                      refine z_iload C (pc' := 244) dX0_run_242 rfl rfl ?_
                      refine z_callV1 C (pc' := 247) lvRX0_38 lc_X0_own rfl dX0_run_244 rfl (by omega) (ih.1 x0 0 2 x4 u31) rfl (Nat.le_of_ble_eq_true rfl) (fun v32 u33 => ?_)
                      refine z_isub C (pc' := 248) dX0_run_247 rfl ?_
                      exact z_ireturn C dX0_run_248
                    ·
                      refine z_lcase C (pc' := 249) dX0_run_6 61 rfl rfl rfl (fun _ => ?_) (fun h34 => ?_)
                      ·
                        refine z_aload_n C (i := 0) (pc' := 250) dX0_run_249 rfl rfl rfl ?_
                        refine z_iload_n C (i := 2) (pc' := 251) dX0_run_250 rfl rfl rfl ?_
                        refine z_iconst C (pc' := 252) dX0_run_251 kc_3 rfl ?_
                        refine z_iload_n C (i := 3) (pc' := 253) dX0_run_252 rfl rfl rfl ?_
                        refine z_iload C (pc' := 255) dX0_run_253 rfl rfl ?_
                        refine z_callV1 C (pc' := 258) lvRX0_46 lc_X0_from rfl dX0_run_255 rfl (by omega) (ih.2.1 x0 x2 3 x3 x4 u1) rfl (Nat.le_of_ble_eq_true rfl) (fun v35 u36 => ?_)
                        refine z_iconst C (pc' := 259) dX0_run_258 kc_1 rfl ?_
                        refine z_iadd C (pc' := 260) dX0_run_259 rfl ?_
                        exact z_ireturn C dX0_run_260
                      ·
                        refine z_lcase C (pc' := 261) dX0_run_6 70 rfl rfl rfl (fun _ => ?_) (fun h37 => ?_)
                        ·
                          refine z_aload_n C (i := 0) (pc' := 262) dX0_run_261 rfl rfl rfl ?_
                          refine z_iload_n C (i := 2) (pc' := 263) dX0_run_262 rfl rfl rfl ?_
                          refine z_iconst C (pc' := 264) dX0_run_263 kc_0 rfl ?_
                          refine z_iload_n C (i := 3) (pc' := 265) dX0_run_264 rfl rfl rfl ?_
                          refine z_iload C (pc' := 267) dX0_run_265 rfl rfl ?_
                          refine z_callV1 C (pc' := 270) lvRX0_46 lc_X0_from rfl dX0_run_267 rfl (by omega) (ih.2.1 x0 x2 0 x3 x4 u1) rfl (Nat.le_of_ble_eq_true rfl) (fun v38 u39 => ?_)
                          refine z_iconst C (pc' := 271) dX0_run_270 kc_2 rfl ?_
                          refine z_imul C (pc' := 272) dX0_run_271 rfl ?_
                          exact z_ireturn C dX0_run_272
                        ·
                          refine z_lcase C (pc' := 273) dX0_run_6 80 rfl rfl rfl (fun _ => ?_) (fun h40 => ?_)
                          ·
                            refine z_aload_n C (i := 0) (pc' := 274) dX0_run_273 rfl rfl rfl ?_
                            refine z_iload_n C (i := 2) (pc' := 275) dX0_run_274 rfl rfl rfl ?_
                            refine z_iconst C (pc' := 276) dX0_run_275 kc_1 rfl ?_
                            refine z_iload_n C (i := 3) (pc' := 277) dX0_run_276 rfl rfl rfl ?_
                            refine z_iload C (pc' := 279) dX0_run_277 rfl rfl ?_
                            refine z_callV1 C (pc' := 282) lvRX0_46 lc_X0_from rfl dX0_run_279 rfl (by omega) (ih.2.1 x0 x2 1 x3 x4 u1) rfl (Nat.le_of_ble_eq_true rfl) (fun v41 u42 => ?_)
                            refine z_aload_n C (i := 0) (pc' := 283) dX0_run_282 rfl rfl rfl ?_
                            refine z_iconst C (pc' := 284) dX0_run_283 kc_2 rfl ?_
                            refine z_iconst C (pc' := 285) dX0_run_284 kc_2 rfl ?_
                            refine z_iload C (pc' := 287) dX0_run_285 rfl rfl ?_
                            refine z_callV1 C (pc' := 290) lvRX0_38 lc_X0_own rfl dX0_run_287 rfl (by omega) (ih.1 x0 2 2 x4 u42) rfl (Nat.le_of_ble_eq_true rfl) (fun v43 u44 => ?_)
                            refine z_iadd C (pc' := 291) dX0_run_290 rfl ?_
                            exact z_ireturn C dX0_run_291
                          ·
                            refine z_lcase C (pc' := 292) dX0_run_6 81 rfl rfl rfl (fun _ => ?_) (fun h45 => ?_)
                            ·
                              refine z_aload_n C (i := 0) (pc' := 293) dX0_run_292 rfl rfl rfl ?_
                              refine z_iload_n C (i := 2) (pc' := 294) dX0_run_293 rfl rfl rfl ?_
                              refine z_iconst C (pc' := 295) dX0_run_294 kc_3 rfl ?_
                              refine z_iload_n C (i := 3) (pc' := 296) dX0_run_295 rfl rfl rfl ?_
                              refine z_iload C (pc' := 298) dX0_run_296 rfl rfl ?_
                              refine z_callV1 C (pc' := 301) lvRX0_46 lc_X0_from rfl dX0_run_298 rfl (by omega) (ih.2.1 x0 x2 3 x3 x4 u1) rfl (Nat.le_of_ble_eq_true rfl) (fun v46 u47 => ?_)
                              refine z_iconst C (pc' := 302) dX0_run_301 kc_1 rfl ?_
                              refine z_isub C (pc' := 303) dX0_run_302 rfl ?_
                              exact z_ireturn C dX0_run_303
                            ·
                              refine z_ldef C (pc' := 304) dX0_run_6 rfl ⟨h2, h4, h9, h12, h14, h17, h20, h23, h26, h29, h34, h37, h40, h45, trivial⟩ rfl ?_
                              refine z_iconst C (pc' := 305) dX0_run_304 kc_0 rfl ?_
                              exact z_ireturn C dX0_run_305
theorem gX0_own_all (l : Launch) (w : zW) : ∀ n : Nat, (∀ (x0 x1 x2 x3 : Int) (u0 : zMem), zSpc l w (3 + n) yX0_own cX0_own 4 (some .int) 1 [zR x0, zI x1, zI x2, zI x3] u0 ((gX0_own n).1 x0 x1 x2 x3 u0)) ∧ (∀ (x0 x1 x2 x3 x4 : Int) (u0 : zMem), zSpc l w (3 + n) yX0_from cX0_from 8 (some .int) 1 [zR x0, zI x1, zI x2, zI x3, zI x4] u0 ((gX0_own n).2.1 x0 x1 x2 x3 x4 u0)) ∧ (∀ (x0 x1 x2 x3 x4 : Int) (u0 : zMem), zSpc l w (3 + n) yX0_run cX0_run 5 (some .int) 1 [zR x0, zI x1, zI x2, zI x3, zI x4] u0 ((gX0_own n).2.2 x0 x1 x2 x3 x4 u0))
  | 0 => ⟨fun _ _ _ _ _ => zSpc_none, fun _ _ _ _ _ _ => zSpc_none, fun _ _ _ _ _ _ => zSpc_none⟩
  | n + 1 => ⟨gX0_own_r0 l w n (gX0_own n) (gX0_own_all l w n), gX0_own_r1 l w n (gX0_own n) (gX0_own_all l w n), gX0_own_r2 l w n (gX0_own n) (gX0_own_all l w n)⟩
theorem rX0_own (l : Launch) (w : zW) (x0 x1 x2 x3 : Int) (u0 : zMem) : zSpc l w 203 yX0_own cX0_own 4 (some .int) 1 [zR x0, zI x1, zI x2, zI x3] u0 (fX0_own x0 x1 x2 x3 u0) := (gX0_own_all l w 200).1 x0 x1 x2 x3 u0
theorem rX0_from (l : Launch) (w : zW) (x0 x1 x2 x3 x4 : Int) (u0 : zMem) : zSpc l w 203 yX0_from cX0_from 8 (some .int) 1 [zR x0, zI x1, zI x2, zI x3, zI x4] u0 (fX0_from x0 x1 x2 x3 x4 u0) := (gX0_own_all l w 200).2.1 x0 x1 x2 x3 x4 u0
theorem rX0_run (l : Launch) (w : zW) (x0 x1 x2 x3 x4 : Int) (u0 : zMem) : zSpc l w 203 yX0_run cX0_run 5 (some .int) 1 [zR x0, zI x1, zI x2, zI x3, zI x4] u0 (fX0_run x0 x1 x2 x3 x4 u0) := (gX0_own_all l w 200).2.2 x0 x1 x2 x3 x4 u0
def fX0_begin (x0 x1 x2 x3 : Int) (u0 : zMem) : zRs := zpf 0 3 x0 0 u0 (fun u1 => zvc 0 x0 (fX0_has x0 x1 u1) (fun v2 u3 => if v2 = 0 then (some (0, u3)) else (if x2 < 0 then (some (0, u3)) else (if x2 ≤ 3 then (zpf 0 4 x0 x1 u3 (fun u4 => zvc 0 x0 (fX0_own x0 x2 x3 0 u4) (fun v5 u6 => some (v5, u6)))) else (some (0, u3))))))
set_option maxRecDepth 100000 in
set_option maxHeartbeats 4000000 in
theorem rX0_begin (l : Launch) (w : zW) (x0 x1 x2 x3 : Int) (u0 : zMem) : zSpc l w 204 yX0_begin cX0_begin 4 (some .int) 1 [zR x0, zI x1, zI x2, zI x3] u0 (fX0_begin x0 x1 x2 x3 u0) := by
  refine zSpc_of (own := RX0) pnRX0 rfl (Nat.le_of_ble_eq_true rfl) (fun G p e R s m args below meth c C hini => ?_)
  unfold fX0_begin
  refine zlocs (lb := [(0, zR x0), (1, zI x1), (2, zI x2), (3, zI x3)]) ⟨rfl, rfl, rfl, rfl, trivial⟩ ?_
  refine z_aload_n C (i := 0) (pc' := 1) dX0_begin_0 rfl rfl rfl ?_
  refine z_iconst C (pc' := 2) dX0_begin_1 kc_0 rfl ?_
  refine z_putf C (pc' := 5) flRX0_29 fn0_3 fb0_3 dX0_begin_2 rfl (fun u1 => ?_)
  refine z_aload_n C (i := 0) (pc' := 6) dX0_begin_5 rfl rfl rfl ?_
  refine z_iload_n C (i := 1) (pc' := 7) dX0_begin_6 rfl rfl rfl ?_
  refine z_callV1 C (pc' := 10) lvRX0_32 lc_X0_has rfl dX0_begin_7 rfl (by decide) (rX0_has l w x0 x1 u1) rfl (Nat.le_of_ble_eq_true rfl) (fun v2 u3 => ?_)
  refine z_if_eq C (pc' := 22) (pf := 13) dX0_begin_10 rfl rfl (fun _ => ?_) (fun _ => ?_)
  ·
    refine z_iconst C (pc' := 23) dX0_begin_22 kc_0 rfl ?_
    exact z_ireturn C dX0_begin_23
  ·
    refine z_iload_n C (i := 2) (pc' := 14) dX0_begin_13 rfl rfl rfl ?_
    refine z_if_lt C (pc' := 22) (pf := 17) dX0_begin_14 rfl rfl (fun _ => ?_) (fun _ => ?_)
    ·
      refine z_iconst C (pc' := 23) dX0_begin_22 kc_0 rfl ?_
      exact z_ireturn C dX0_begin_23
    ·
      refine z_iload_n C (i := 2) (pc' := 18) dX0_begin_17 rfl rfl rfl ?_
      refine z_iconst C (pc' := 19) dX0_begin_18 kc_3 rfl ?_
      refine z_icmp_le C (pc' := 24) (pf := 22) dX0_begin_19 rfl rfl (fun _ => ?_) (fun _ => ?_)
      ·
        refine z_aload_n C (i := 0) (pc' := 25) dX0_begin_24 rfl rfl rfl ?_
        refine z_iload_n C (i := 1) (pc' := 26) dX0_begin_25 rfl rfl rfl ?_
        refine z_putf C (pc' := 29) flRX0_35 fn0_4 fb0_4 dX0_begin_26 rfl (fun u4 => ?_)
        refine z_aload_n C (i := 0) (pc' := 30) dX0_begin_29 rfl rfl rfl ?_
        refine z_iload_n C (i := 2) (pc' := 31) dX0_begin_30 rfl rfl rfl ?_
        refine z_iload_n C (i := 3) (pc' := 32) dX0_begin_31 rfl rfl rfl ?_
        refine z_iconst C (pc' := 33) dX0_begin_32 kc_0 rfl ?_
        refine z_callV1 C (pc' := 36) lvRX0_38 lc_X0_own rfl dX0_begin_33 rfl (by decide) (rX0_own l w x0 x2 x3 0 u4) rfl (Nat.le_of_ble_eq_true rfl) (fun v5 u6 => ?_)
        exact z_ireturn C dX0_begin_36
      ·
        refine z_iconst C (pc' := 23) dX0_begin_22 kc_0 rfl ?_
        exact z_ireturn C dX0_begin_23
def fJ6_bitCount_0f7a4 (x0 : Int) (u0 : zMem) : zRs := some ((zand (zw32 ((zw32 ((zand (zw32 ((zw32 ((zand (zw32 (x0 - (zand (zushr x0 1) 1431655765))) 858993459) + (zand (zushr (zw32 (x0 - (zand (zushr x0 1) 1431655765))) 2) 858993459))) + (zushr (zw32 ((zand (zw32 (x0 - (zand (zushr x0 1) 1431655765))) 858993459) + (zand (zushr (zw32 (x0 - (zand (zushr x0 1) 1431655765))) 2) 858993459))) 4))) 252645135) + (zushr (zand (zw32 ((zw32 ((zand (zw32 (x0 - (zand (zushr x0 1) 1431655765))) 858993459) + (zand (zushr (zw32 (x0 - (zand (zushr x0 1) 1431655765))) 2) 858993459))) + (zushr (zw32 ((zand (zw32 (x0 - (zand (zushr x0 1) 1431655765))) 858993459) + (zand (zushr (zw32 (x0 - (zand (zushr x0 1) 1431655765))) 2) 858993459))) 4))) 252645135) 8))) + (zushr (zw32 ((zand (zw32 ((zw32 ((zand (zw32 (x0 - (zand (zushr x0 1) 1431655765))) 858993459) + (zand (zushr (zw32 (x0 - (zand (zushr x0 1) 1431655765))) 2) 858993459))) + (zushr (zw32 ((zand (zw32 (x0 - (zand (zushr x0 1) 1431655765))) 858993459) + (zand (zushr (zw32 (x0 - (zand (zushr x0 1) 1431655765))) 2) 858993459))) 4))) 252645135) + (zushr (zand (zw32 ((zw32 ((zand (zw32 (x0 - (zand (zushr x0 1) 1431655765))) 858993459) + (zand (zushr (zw32 (x0 - (zand (zushr x0 1) 1431655765))) 2) 858993459))) + (zushr (zw32 ((zand (zw32 (x0 - (zand (zushr x0 1) 1431655765))) 858993459) + (zand (zushr (zw32 (x0 - (zand (zushr x0 1) 1431655765))) 2) 858993459))) 4))) 252645135) 8))) 16))) 63), u0)
set_option maxRecDepth 100000 in
set_option maxHeartbeats 4000000 in
theorem rJ6_bitCount_0f7a4 (l : Launch) (w : zW) (x0 : Int) (u0 : zMem) : zSpc l w 1 yJ6_bitCount_0f7a4 cJ6_bitCount_0f7a4 1 (some .int) 1 [zI x0] u0 (fJ6_bitCount_0f7a4 x0 u0) := by
  refine zSpc_of (own := RJ6) pnRJ6 rfl (Nat.le_of_ble_eq_true rfl) (fun G p e R s m args below meth c C hini => ?_)
  unfold fJ6_bitCount_0f7a4
  refine zlocs (lb := [(0, zI x0)]) ⟨rfl, trivial⟩ ?_
  refine z_iload_n C (i := 0) (pc' := 1) dJ6_bitCount_0f7a4_0 rfl rfl rfl ?_
  refine z_iload_n C (i := 0) (pc' := 2) dJ6_bitCount_0f7a4_1 rfl rfl rfl ?_
  refine z_iconst C (pc' := 3) dJ6_bitCount_0f7a4_2 kc_1 rfl ?_
  refine z_iushr C (pc' := 4) dJ6_bitCount_0f7a4_3 rfl ?_
  refine z_ldcw C (pc' := 7) dJ6_bitCount_0f7a4_4 wcRJ6_265 ki_1431655765 rfl ?_
  refine z_iand C (pc' := 8) dJ6_bitCount_0f7a4_7 rfl ?_
  refine z_isub C (pc' := 9) dJ6_bitCount_0f7a4_8 rfl ?_
  refine z_istore_n C (i := 0) (la' := [(0, zI (zw32 (x0 - (zand (zushr x0 1) 1431655765))))]) (pc' := 10) dJ6_bitCount_0f7a4_9 rfl (by decide) rfl rfl ?_
  refine z_iload_n C (i := 0) (pc' := 11) dJ6_bitCount_0f7a4_10 rfl rfl rfl ?_
  refine z_ldcw C (pc' := 14) dJ6_bitCount_0f7a4_11 wcRJ6_266 ki_858993459 rfl ?_
  refine z_iand C (pc' := 15) dJ6_bitCount_0f7a4_14 rfl ?_
  refine z_iload_n C (i := 0) (pc' := 16) dJ6_bitCount_0f7a4_15 rfl rfl rfl ?_
  refine z_iconst C (pc' := 17) dJ6_bitCount_0f7a4_16 kc_2 rfl ?_
  refine z_iushr C (pc' := 18) dJ6_bitCount_0f7a4_17 rfl ?_
  refine z_ldcw C (pc' := 21) dJ6_bitCount_0f7a4_18 wcRJ6_266 ki_858993459 rfl ?_
  refine z_iand C (pc' := 22) dJ6_bitCount_0f7a4_21 rfl ?_
  refine z_iadd C (pc' := 23) dJ6_bitCount_0f7a4_22 rfl ?_
  refine z_istore_n C (i := 0) (la' := [(0, zI (zw32 ((zand (zw32 (x0 - (zand (zushr x0 1) 1431655765))) 858993459) + (zand (zushr (zw32 (x0 - (zand (zushr x0 1) 1431655765))) 2) 858993459))))]) (pc' := 24) dJ6_bitCount_0f7a4_23 rfl (by decide) rfl rfl ?_
  refine z_iload_n C (i := 0) (pc' := 25) dJ6_bitCount_0f7a4_24 rfl rfl rfl ?_
  refine z_iload_n C (i := 0) (pc' := 26) dJ6_bitCount_0f7a4_25 rfl rfl rfl ?_
  refine z_iconst C (pc' := 27) dJ6_bitCount_0f7a4_26 kc_4 rfl ?_
  refine z_iushr C (pc' := 28) dJ6_bitCount_0f7a4_27 rfl ?_
  refine z_iadd C (pc' := 29) dJ6_bitCount_0f7a4_28 rfl ?_
  refine z_ldcw C (pc' := 32) dJ6_bitCount_0f7a4_29 wcRJ6_267 ki_252645135 rfl ?_
  refine z_iand C (pc' := 33) dJ6_bitCount_0f7a4_32 rfl ?_
  refine z_istore_n C (i := 0) (la' := [(0, zI (zand (zw32 ((zw32 ((zand (zw32 (x0 - (zand (zushr x0 1) 1431655765))) 858993459) + (zand (zushr (zw32 (x0 - (zand (zushr x0 1) 1431655765))) 2) 858993459))) + (zushr (zw32 ((zand (zw32 (x0 - (zand (zushr x0 1) 1431655765))) 858993459) + (zand (zushr (zw32 (x0 - (zand (zushr x0 1) 1431655765))) 2) 858993459))) 4))) 252645135))]) (pc' := 34) dJ6_bitCount_0f7a4_33 rfl (by decide) rfl rfl ?_
  refine z_iload_n C (i := 0) (pc' := 35) dJ6_bitCount_0f7a4_34 rfl rfl rfl ?_
  refine z_iload_n C (i := 0) (pc' := 36) dJ6_bitCount_0f7a4_35 rfl rfl rfl ?_
  refine z_bipush C (pc' := 38) dJ6_bitCount_0f7a4_36 kb_8 rfl ?_
  refine z_iushr C (pc' := 39) dJ6_bitCount_0f7a4_38 rfl ?_
  refine z_iadd C (pc' := 40) dJ6_bitCount_0f7a4_39 rfl ?_
  refine z_istore_n C (i := 0) (la' := [(0, zI (zw32 ((zand (zw32 ((zw32 ((zand (zw32 (x0 - (zand (zushr x0 1) 1431655765))) 858993459) + (zand (zushr (zw32 (x0 - (zand (zushr x0 1) 1431655765))) 2) 858993459))) + (zushr (zw32 ((zand (zw32 (x0 - (zand (zushr x0 1) 1431655765))) 858993459) + (zand (zushr (zw32 (x0 - (zand (zushr x0 1) 1431655765))) 2) 858993459))) 4))) 252645135) + (zushr (zand (zw32 ((zw32 ((zand (zw32 (x0 - (zand (zushr x0 1) 1431655765))) 858993459) + (zand (zushr (zw32 (x0 - (zand (zushr x0 1) 1431655765))) 2) 858993459))) + (zushr (zw32 ((zand (zw32 (x0 - (zand (zushr x0 1) 1431655765))) 858993459) + (zand (zushr (zw32 (x0 - (zand (zushr x0 1) 1431655765))) 2) 858993459))) 4))) 252645135) 8))))]) (pc' := 41) dJ6_bitCount_0f7a4_40 rfl (by decide) rfl rfl ?_
  refine z_iload_n C (i := 0) (pc' := 42) dJ6_bitCount_0f7a4_41 rfl rfl rfl ?_
  refine z_iload_n C (i := 0) (pc' := 43) dJ6_bitCount_0f7a4_42 rfl rfl rfl ?_
  refine z_bipush C (pc' := 45) dJ6_bitCount_0f7a4_43 kb_16 rfl ?_
  refine z_iushr C (pc' := 46) dJ6_bitCount_0f7a4_45 rfl ?_
  refine z_iadd C (pc' := 47) dJ6_bitCount_0f7a4_46 rfl ?_
  refine z_istore_n C (i := 0) (la' := [(0, zI (zw32 ((zw32 ((zand (zw32 ((zw32 ((zand (zw32 (x0 - (zand (zushr x0 1) 1431655765))) 858993459) + (zand (zushr (zw32 (x0 - (zand (zushr x0 1) 1431655765))) 2) 858993459))) + (zushr (zw32 ((zand (zw32 (x0 - (zand (zushr x0 1) 1431655765))) 858993459) + (zand (zushr (zw32 (x0 - (zand (zushr x0 1) 1431655765))) 2) 858993459))) 4))) 252645135) + (zushr (zand (zw32 ((zw32 ((zand (zw32 (x0 - (zand (zushr x0 1) 1431655765))) 858993459) + (zand (zushr (zw32 (x0 - (zand (zushr x0 1) 1431655765))) 2) 858993459))) + (zushr (zw32 ((zand (zw32 (x0 - (zand (zushr x0 1) 1431655765))) 858993459) + (zand (zushr (zw32 (x0 - (zand (zushr x0 1) 1431655765))) 2) 858993459))) 4))) 252645135) 8))) + (zushr (zw32 ((zand (zw32 ((zw32 ((zand (zw32 (x0 - (zand (zushr x0 1) 1431655765))) 858993459) + (zand (zushr (zw32 (x0 - (zand (zushr x0 1) 1431655765))) 2) 858993459))) + (zushr (zw32 ((zand (zw32 (x0 - (zand (zushr x0 1) 1431655765))) 858993459) + (zand (zushr (zw32 (x0 - (zand (zushr x0 1) 1431655765))) 2) 858993459))) 4))) 252645135) + (zushr (zand (zw32 ((zw32 ((zand (zw32 (x0 - (zand (zushr x0 1) 1431655765))) 858993459) + (zand (zushr (zw32 (x0 - (zand (zushr x0 1) 1431655765))) 2) 858993459))) + (zushr (zw32 ((zand (zw32 (x0 - (zand (zushr x0 1) 1431655765))) 858993459) + (zand (zushr (zw32 (x0 - (zand (zushr x0 1) 1431655765))) 2) 858993459))) 4))) 252645135) 8))) 16))))]) (pc' := 48) dJ6_bitCount_0f7a4_47 rfl (by decide) rfl rfl ?_
  refine z_iload_n C (i := 0) (pc' := 49) dJ6_bitCount_0f7a4_48 rfl rfl rfl ?_
  refine z_bipush C (pc' := 51) dJ6_bitCount_0f7a4_49 kb_63 rfl ?_
  refine z_iand C (pc' := 52) dJ6_bitCount_0f7a4_51 rfl ?_
  exact z_ireturn C dJ6_bitCount_0f7a4_52
def fX5_size (x0 : Int) (u0 : zMem) : zRs := zgf 5 1 x0 u0 (fun v1 => some (v1, u0))
set_option maxRecDepth 100000 in
set_option maxHeartbeats 4000000 in
theorem rX5_size (l : Launch) (w : zW) (x0 : Int) (u0 : zMem) : zSpc l w 1 yX5_size cX5_size 1 (some .int) 1 [zR x0] u0 (fX5_size x0 u0) := by
  refine zSpc_of (own := RX5) pnRX5 rfl (Nat.le_of_ble_eq_true rfl) (fun G p e R s m args below meth c C hini => ?_)
  unfold fX5_size
  refine zlocs (lb := [(0, zR x0)]) ⟨rfl, trivial⟩ ?_
  refine z_aload_n C (i := 0) (pc' := 1) dX5_size_0 rfl rfl rfl ?_
  refine z_getf C (pc' := 4) flRX5_23 dX5_size_1 rfl (fun v1 => ?_)
  exact z_ireturn C dX5_size_4
def fX5_part (x0 x1 x2 : Int) (u0 : zMem) : zRs := zjn (fun (u1 : zMem) => some (0, u1)) (fun k2 => if x1 < 0 then (k2 u0) else (zgf 5 1 x0 u0 (fun v3 => if x1 ≥ v3 then (k2 u0) else (if x2 < 0 then (k2 u0) else (if x2 > 3 then (k2 u0) else (zgf 5 0 x0 u0 (fun v4 => zald 26 v4 x2 u0 (fun v5 => zald 20 v5 x1 u0 (fun v6 => some (v6, u0))))))))))
set_option maxRecDepth 100000 in
set_option maxHeartbeats 4000000 in
theorem rX5_part (l : Launch) (w : zW) (x0 x1 x2 : Int) (u0 : zMem) : zSpc l w 1 yX5_part cX5_part 3 (some .int) 1 [zR x0, zI x1, zI x2] u0 (fX5_part x0 x1 x2 u0) := by
  refine zSpc_of (own := RX5) pnRX5 rfl (Nat.le_of_ble_eq_true rfl) (fun G p e R s m args below meth c C hini => ?_)
  unfold fX5_part
  refine zlocs (lb := [(0, zR x0), (1, zI x1), (2, zI x2)]) ⟨rfl, rfl, rfl, trivial⟩ ?_
  refine z_iload_n C (i := 1) (pc' := 1) dX5_part_0 rfl rfl rfl ?_
  refine zjoin (P := fun (f : zMem → zRs) => ∀ (u1 : zMem), zSim G p l e R s m args below meth c w 3 (znc u0) (zM w 1 (znc u0) below args s) 32 [] [] u1 (f u1)) (fun u1 => ?_) (fun k2 hk2 => ?_)
  ·
    refine z_iconst C (pc' := 33) dX5_part_32 kc_0 rfl ?_
    exact z_ireturn C dX5_part_33
  ·
    refine z_if_lt C (pc' := 32) (pf := 4) dX5_part_1 rfl rfl (fun _ => ?_) (fun _ => ?_)
    ·
      exact zlocs (lb := []) trivial (hk2 _)
    ·
      refine z_iload_n C (i := 1) (pc' := 5) dX5_part_4 rfl rfl rfl ?_
      refine z_aload_n C (i := 0) (pc' := 6) dX5_part_5 rfl rfl rfl ?_
      refine z_getf C (pc' := 9) flRX5_23 dX5_part_6 rfl (fun v3 => ?_)
      refine z_icmp_ge C (pc' := 32) (pf := 12) dX5_part_9 rfl rfl (fun _ => ?_) (fun _ => ?_)
      ·
        exact zlocs (lb := []) trivial (hk2 _)
      ·
        refine z_iload_n C (i := 2) (pc' := 13) dX5_part_12 rfl rfl rfl ?_
        refine z_if_lt C (pc' := 32) (pf := 16) dX5_part_13 rfl rfl (fun _ => ?_) (fun _ => ?_)
        ·
          exact zlocs (lb := []) trivial (hk2 _)
        ·
          refine z_iload_n C (i := 2) (pc' := 17) dX5_part_16 rfl rfl rfl ?_
          refine z_iconst C (pc' := 18) dX5_part_17 kc_3 rfl ?_
          refine z_icmp_gt C (pc' := 32) (pf := 21) dX5_part_18 rfl rfl (fun _ => ?_) (fun _ => ?_)
          ·
            exact zlocs (lb := []) trivial (hk2 _)
          ·
            refine z_aload_n C (i := 0) (pc' := 22) dX5_part_21 rfl rfl rfl ?_
            refine z_getfR C (pc' := 25) flRX5_13 dX5_part_22 rfl (fun v4 => ?_)
            refine z_iload_n C (i := 2) (pc' := 26) dX5_part_25 rfl rfl rfl ?_
            refine z_aald C (pc' := 27) (by decide) dX5_part_26 rfl (fun v5 => ?_)
            refine z_iload_n C (i := 1) (pc' := 28) dX5_part_27 rfl rfl rfl ?_
            refine z_iald C (pc' := 29) dX5_part_28 rfl (fun v6 => ?_)
            refine z_goto C (pc' := 33) dX5_part_29 rfl ?_
            exact z_ireturn C dX5_part_33
def fX5_minute (x0 x1 : Int) (u0 : zMem) : zRs := zlp (fun _ _ _ => none) (fun k4 (v1 : Int) (v2 : Int) (u3 : zMem) => if v2 ≥ x1 then (some (v1, u3)) else (zgf 5 1 x0 u3 (fun v5 => if v2 ≥ v5 then (some (v1, u3)) else (zgf 5 0 x0 u3 (fun v6 => zald 26 v6 3 u3 (fun v7 => zald 20 v7 v2 u3 (fun v8 => k4 (zw32 (v1 + v8)) (zw32 (v2 + 1)) u3))))))) 1000000 0 0 u0
set_option maxRecDepth 100000 in
set_option maxHeartbeats 4000000 in
theorem rX5_minute (l : Launch) (w : zW) (x0 x1 : Int) (u0 : zMem) : zSpc l w 1 yX5_minute cX5_minute 4 (some .int) 1 [zR x0, zI x1] u0 (fX5_minute x0 x1 u0) := by
  refine zSpc_of (own := RX5) pnRX5 rfl (Nat.le_of_ble_eq_true rfl) (fun G p e R s m args below meth c C hini => ?_)
  unfold fX5_minute
  refine zlocs (lb := [(0, zR x0), (1, zI x1)]) ⟨rfl, rfl, trivial⟩ ?_
  refine z_iconst C (pc' := 1) dX5_minute_0 kc_0 rfl ?_
  refine z_istore_n C (i := 2) (la' := [(2, zI 0), (0, zR x0), (1, zI x1)]) (pc' := 2) dX5_minute_1 rfl (by decide) rfl rfl ?_
  refine z_iconst C (pc' := 3) dX5_minute_2 kc_0 rfl ?_
  refine z_istore_n C (i := 3) (la' := [(3, zI 0), (2, zI 0), (0, zR x0), (1, zI x1)]) (pc' := 4) dX5_minute_3 rfl (by decide) rfl rfl ?_
  refine zlocs (lb := [(0, zR x0), (1, zI x1), (2, zI 0), (3, zI 0)]) ⟨rfl, rfl, rfl, rfl, trivial⟩ ?_
  refine zlp_ind (fun (f : Int → Int → zMem → zRs) => ∀ (v1 : Int) (v2 : Int) (u3 : zMem), zSim G p l e R s m args below meth c w 4 (znc u0) (zM w 1 (znc u0) below args s) 4 [(0, zR x0), (1, zI x1), (2, zI v1), (3, zI v2)] [] u3 (f v1 v2 u3)) (fun _ _ _ => znone) (fun k4 hk4 v1 v2 u3 => ?_) _ _ _ _
  refine z_iload_n C (i := 3) (pc' := 5) dX5_minute_4 rfl rfl rfl ?_
  refine z_iload_n C (i := 1) (pc' := 6) dX5_minute_5 rfl rfl rfl ?_
  refine z_icmp_ge C (pc' := 34) (pf := 9) dX5_minute_6 rfl rfl (fun _ => ?_) (fun _ => ?_)
  ·
    refine z_iload_n C (i := 2) (pc' := 35) dX5_minute_34 rfl rfl rfl ?_
    exact z_ireturn C dX5_minute_35
  ·
    refine z_iload_n C (i := 3) (pc' := 10) dX5_minute_9 rfl rfl rfl ?_
    refine z_aload_n C (i := 0) (pc' := 11) dX5_minute_10 rfl rfl rfl ?_
    refine z_getf C (pc' := 14) flRX5_23 dX5_minute_11 rfl (fun v5 => ?_)
    refine z_icmp_ge C (pc' := 34) (pf := 17) dX5_minute_14 rfl rfl (fun _ => ?_) (fun _ => ?_)
    ·
      refine z_iload_n C (i := 2) (pc' := 35) dX5_minute_34 rfl rfl rfl ?_
      exact z_ireturn C dX5_minute_35
    ·
      refine z_iload_n C (i := 2) (pc' := 18) dX5_minute_17 rfl rfl rfl ?_
      refine z_aload_n C (i := 0) (pc' := 19) dX5_minute_18 rfl rfl rfl ?_
      refine z_getfR C (pc' := 22) flRX5_13 dX5_minute_19 rfl (fun v6 => ?_)
      refine z_iconst C (pc' := 23) dX5_minute_22 kc_3 rfl ?_
      refine z_aald C (pc' := 24) (by decide) dX5_minute_23 rfl (fun v7 => ?_)
      refine z_iload_n C (i := 3) (pc' := 25) dX5_minute_24 rfl rfl rfl ?_
      refine z_iald C (pc' := 26) dX5_minute_25 rfl (fun v8 => ?_)
      refine z_iadd C (pc' := 27) dX5_minute_26 rfl ?_
      refine z_istore_n C (i := 2) (la' := [(2, zI (zw32 (v1 + v8))), (0, zR x0), (1, zI x1), (3, zI v2)]) (pc' := 28) dX5_minute_27 rfl (by decide) rfl rfl ?_
      refine z_iinc C (i := 3) (la' := [(3, zI (zw32 (v2 + 1))), (2, zI (zw32 (v1 + v8))), (0, zR x0), (1, zI x1)]) (pc' := 31) dX5_minute_28 rfl (by decide) rfl rfl ?_
      refine z_goto C (pc' := 4) dX5_minute_31 rfl ?_
      exact zlocs (lb := [(0, zR x0), (1, zI x1), (2, zI (zw32 (v1 + v8))), (3, zI (zw32 (v2 + 1)))]) ⟨rfl, rfl, rfl, rfl, trivial⟩ (hk4 _ _ _)
def fX5_aheadOnSame (x0 x1 : Int) (u0 : zMem) : zRs := zlp (fun _ _ _ => none) (fun k4 (v1 : Int) (v2 : Int) (u3 : zMem) => if v2 ≥ x1 then (some (v1, u3)) else (zgf 5 1 x0 u3 (fun v5 => if x1 ≥ v5 then (some (v1, u3)) else (zgf 5 0 x0 u3 (fun v6 => zald 26 v6 2 u3 (fun v7 => zald 20 v7 v2 u3 (fun v8 => zgf 5 0 x0 u3 (fun v9 => zald 26 v9 2 u3 (fun v10 => zald 20 v10 x1 u3 (fun v11 => zjn (fun (v12 : Int) (u13 : zMem) => k4 v12 (zw32 (v2 + 1)) u13) (fun k14 => if v8 ≠ v11 then (k14 v1 u3) else (k14 (zw32 (v1 + 1)) u3)))))))))))) 1000000 0 0 u0
set_option maxRecDepth 100000 in
set_option maxHeartbeats 4000000 in
theorem rX5_aheadOnSame (l : Launch) (w : zW) (x0 x1 : Int) (u0 : zMem) : zSpc l w 1 yX5_aheadOnSame cX5_aheadOnSame 4 (some .int) 1 [zR x0, zI x1] u0 (fX5_aheadOnSame x0 x1 u0) := by
  refine zSpc_of (own := RX5) pnRX5 rfl (Nat.le_of_ble_eq_true rfl) (fun G p e R s m args below meth c C hini => ?_)
  unfold fX5_aheadOnSame
  refine zlocs (lb := [(0, zR x0), (1, zI x1)]) ⟨rfl, rfl, trivial⟩ ?_
  refine z_iconst C (pc' := 1) dX5_aheadOnSame_0 kc_0 rfl ?_
  refine z_istore_n C (i := 2) (la' := [(2, zI 0), (0, zR x0), (1, zI x1)]) (pc' := 2) dX5_aheadOnSame_1 rfl (by decide) rfl rfl ?_
  refine z_iconst C (pc' := 3) dX5_aheadOnSame_2 kc_0 rfl ?_
  refine z_istore_n C (i := 3) (la' := [(3, zI 0), (2, zI 0), (0, zR x0), (1, zI x1)]) (pc' := 4) dX5_aheadOnSame_3 rfl (by decide) rfl rfl ?_
  refine zlocs (lb := [(0, zR x0), (1, zI x1), (2, zI 0), (3, zI 0)]) ⟨rfl, rfl, rfl, rfl, trivial⟩ ?_
  refine zlp_ind (fun (f : Int → Int → zMem → zRs) => ∀ (v1 : Int) (v2 : Int) (u3 : zMem), zSim G p l e R s m args below meth c w 4 (znc u0) (zM w 1 (znc u0) below args s) 4 [(0, zR x0), (1, zI x1), (2, zI v1), (3, zI v2)] [] u3 (f v1 v2 u3)) (fun _ _ _ => znone) (fun k4 hk4 v1 v2 u3 => ?_) _ _ _ _
  refine z_iload_n C (i := 3) (pc' := 5) dX5_aheadOnSame_4 rfl rfl rfl ?_
  refine z_iload_n C (i := 1) (pc' := 6) dX5_aheadOnSame_5 rfl rfl rfl ?_
  refine z_icmp_ge C (pc' := 45) (pf := 9) dX5_aheadOnSame_6 rfl rfl (fun _ => ?_) (fun _ => ?_)
  ·
    refine z_iload_n C (i := 2) (pc' := 46) dX5_aheadOnSame_45 rfl rfl rfl ?_
    exact z_ireturn C dX5_aheadOnSame_46
  ·
    refine z_iload_n C (i := 1) (pc' := 10) dX5_aheadOnSame_9 rfl rfl rfl ?_
    refine z_aload_n C (i := 0) (pc' := 11) dX5_aheadOnSame_10 rfl rfl rfl ?_
    refine z_getf C (pc' := 14) flRX5_23 dX5_aheadOnSame_11 rfl (fun v5 => ?_)
    refine z_icmp_ge C (pc' := 45) (pf := 17) dX5_aheadOnSame_14 rfl rfl (fun _ => ?_) (fun _ => ?_)
    ·
      refine z_iload_n C (i := 2) (pc' := 46) dX5_aheadOnSame_45 rfl rfl rfl ?_
      exact z_ireturn C dX5_aheadOnSame_46
    ·
      refine z_aload_n C (i := 0) (pc' := 18) dX5_aheadOnSame_17 rfl rfl rfl ?_
      refine z_getfR C (pc' := 21) flRX5_13 dX5_aheadOnSame_18 rfl (fun v6 => ?_)
      refine z_iconst C (pc' := 22) dX5_aheadOnSame_21 kc_2 rfl ?_
      refine z_aald C (pc' := 23) (by decide) dX5_aheadOnSame_22 rfl (fun v7 => ?_)
      refine z_iload_n C (i := 3) (pc' := 24) dX5_aheadOnSame_23 rfl rfl rfl ?_
      refine z_iald C (pc' := 25) dX5_aheadOnSame_24 rfl (fun v8 => ?_)
      refine z_aload_n C (i := 0) (pc' := 26) dX5_aheadOnSame_25 rfl rfl rfl ?_
      refine z_getfR C (pc' := 29) flRX5_13 dX5_aheadOnSame_26 rfl (fun v9 => ?_)
      refine z_iconst C (pc' := 30) dX5_aheadOnSame_29 kc_2 rfl ?_
      refine z_aald C (pc' := 31) (by decide) dX5_aheadOnSame_30 rfl (fun v10 => ?_)
      refine z_iload_n C (i := 1) (pc' := 32) dX5_aheadOnSame_31 rfl rfl rfl ?_
      refine z_iald C (pc' := 33) dX5_aheadOnSame_32 rfl (fun v11 => ?_)
      refine zjoin (P := fun (f : Int → zMem → zRs) => ∀ (v12 : Int) (u13 : zMem), zSim G p l e R s m args below meth c w 4 (znc u0) (zM w 1 (znc u0) below args s) 39 [(0, zR x0), (1, zI x1), (2, zI v12), (3, zI v2)] [] u13 (f v12 u13)) (fun v12 u13 => ?_) (fun k14 hk14 => ?_)
      ·
        refine z_iinc C (i := 3) (la' := [(3, zI (zw32 (v2 + 1))), (0, zR x0), (1, zI x1), (2, zI v12)]) (pc' := 42) dX5_aheadOnSame_39 rfl (by decide) rfl rfl ?_
        refine z_goto C (pc' := 4) dX5_aheadOnSame_42 rfl ?_
        exact zlocs (lb := [(0, zR x0), (1, zI x1), (2, zI v12), (3, zI (zw32 (v2 + 1)))]) ⟨rfl, rfl, rfl, rfl, trivial⟩ (hk4 _ _ _)
      ·
        refine z_icmp_ne C (pc' := 39) (pf := 36) dX5_aheadOnSame_33 rfl rfl (fun _ => ?_) (fun _ => ?_)
        ·
          exact zlocs (lb := [(0, zR x0), (1, zI x1), (2, zI v1), (3, zI v2)]) ⟨rfl, rfl, rfl, rfl, trivial⟩ (hk14 _ _)
        ·
          refine z_iinc C (i := 2) (la' := [(2, zI (zw32 (v1 + 1))), (0, zR x0), (1, zI x1), (3, zI v2)]) (pc' := 39) dX5_aheadOnSame_36 rfl (by decide) rfl rfl ?_
          exact zlocs (lb := [(0, zR x0), (1, zI x1), (2, zI (zw32 (v1 + 1))), (3, zI v2)]) ⟨rfl, rfl, rfl, rfl, trivial⟩ (hk14 _ _)
def fX2_init (x0 : Int) (u0 : zMem) : zRs := if 0 ≤ x0 then (zmna 4 40 u0 (fun v1 u2 => zpf 2 0 x0 v1 u2 (fun u3 => some (0, u3)))) else none
set_option maxRecDepth 100000 in
set_option maxHeartbeats 4000000 in
theorem rX2_init (l : Launch) (w : zW) (x0 : Int) (u0 : zMem) : zSpc l w 1 yX2_init cX2_init 1 none 0 [zR x0] u0 (fX2_init x0 u0) := by
  refine zSpc_of (own := RX2) pnRX2 rfl (Nat.le_of_ble_eq_true rfl) (fun G p e R s m args below meth c C hini => ?_)
  unfold fX2_init
  refine zlocs (lb := [(0, zR x0)]) ⟨rfl, trivial⟩ ?_
  refine z_aload_n C (i := 0) (pc' := 1) dX2_init_0 rfl rfl rfl ?_
  refine z_objinit C (pc' := 4) woRX2_1 woi woc dX2_init_1 rfl (by decide) (Nat.le_of_ble_eq_true rfl) ?_
  refine z_aload_n C (i := 0) (pc' := 5) dX2_init_4 rfl rfl rfl ?_
  refine z_iconst C (pc' := 6) dX2_init_5 kc_4 rfl ?_
  refine z_bipush C (pc' := 8) dX2_init_6 kb_40 rfl ?_
  refine z_mna C (pc' := 12) wkRX2_9 wy20 dX2_init_8 rfl (fun v1 u2 => ?_)
  refine z_putfRi C (pc' := 15) flRX2_11 hini rfl fb2_0 dX2_init_12 rfl (fun u3 => ?_)
  exact z_return C dX2_init_15
def fX2_done (x0 : Int) (u0 : zMem) : zRs := zgf 2 1 x0 u0 (fun v1 => some (v1, u0))
set_option maxRecDepth 100000 in
set_option maxHeartbeats 4000000 in
theorem rX2_done (l : Launch) (w : zW) (x0 : Int) (u0 : zMem) : zSpc l w 1 yX2_done cX2_done 1 (some .int) 1 [zR x0] u0 (fX2_done x0 u0) := by
  refine zSpc_of (own := RX2) pnRX2 rfl (Nat.le_of_ble_eq_true rfl) (fun G p e R s m args below meth c C hini => ?_)
  unfold fX2_done
  refine zlocs (lb := [(0, zR x0)]) ⟨rfl, trivial⟩ ?_
  refine z_aload_n C (i := 0) (pc' := 1) dX2_done_0 rfl rfl rfl ?_
  refine z_getf C (pc' := 4) flRX2_14 dX2_done_1 rfl (fun v1 => ?_)
  exact z_ireturn C dX2_done_4
def fX2_undone (x0 : Int) (u0 : zMem) : zRs := zgf 2 2 x0 u0 (fun v1 => zgf 2 1 x0 u0 (fun v2 => some ((zw32 (v1 - v2)), u0)))
set_option maxRecDepth 100000 in
set_option maxHeartbeats 4000000 in
theorem rX2_undone (l : Launch) (w : zW) (x0 : Int) (u0 : zMem) : zSpc l w 1 yX2_undone cX2_undone 1 (some .int) 1 [zR x0] u0 (fX2_undone x0 u0) := by
  refine zSpc_of (own := RX2) pnRX2 rfl (Nat.le_of_ble_eq_true rfl) (fun G p e R s m args below meth c C hini => ?_)
  unfold fX2_undone
  refine zlocs (lb := [(0, zR x0)]) ⟨rfl, trivial⟩ ?_
  refine z_aload_n C (i := 0) (pc' := 1) dX2_undone_0 rfl rfl rfl ?_
  refine z_getf C (pc' := 4) flRX2_18 dX2_undone_1 rfl (fun v1 => ?_)
  refine z_aload_n C (i := 0) (pc' := 5) dX2_undone_4 rfl rfl rfl ?_
  refine z_getf C (pc' := 8) flRX2_14 dX2_undone_5 rfl (fun v2 => ?_)
  refine z_isub C (pc' := 9) dX2_undone_8 rfl ?_
  exact z_ireturn C dX2_undone_9
def fX2_dropFirst (x0 : Int) (u0 : zMem) : zRs := zgf 2 0 x0 u0 (fun v1 => zlen 26 v1 (fun v2 => zlp (fun _ _ => none) (fun k5 (v3 : Int) (u4 : zMem) => if v3 ≥ v2 then (zpf 2 1 x0 39 u4 (fun u6 => some (0, u6))) else (zald 26 v1 v3 u4 (fun v7 => zcopy 20 v7 1 v7 0 39 u4 (fun u8 => k5 (zw32 (v3 + 1)) u8)))) 1000000 0 u0))
set_option maxRecDepth 100000 in
set_option maxHeartbeats 4000000 in
theorem rX2_dropFirst (l : Launch) (w : zW) (x0 : Int) (u0 : zMem) : zSpc l w 1 yX2_dropFirst cX2_dropFirst 5 none 0 [zR x0] u0 (fX2_dropFirst x0 u0) := by
  refine zSpc_of (own := RX2) pnRX2 rfl (Nat.le_of_ble_eq_true rfl) (fun G p e R s m args below meth c C hini => ?_)
  unfold fX2_dropFirst
  refine zlocs (lb := [(0, zR x0)]) ⟨rfl, trivial⟩ ?_
  refine z_aload_n C (i := 0) (pc' := 1) dX2_dropFirst_0 rfl rfl rfl ?_
  refine z_getfR C (pc' := 4) flRX2_11 dX2_dropFirst_1 rfl (fun v1 => ?_)
  refine z_astore_n C (i := 1) (la' := [(1, zR v1), (0, zR x0)]) (pc' := 5) dX2_dropFirst_4 rfl (by decide) rfl rfl ?_
  refine z_aload_n C (i := 1) (pc' := 6) dX2_dropFirst_5 rfl rfl rfl ?_
  refine z_alen C (kd := 26) (pc' := 7) (by decide) dX2_dropFirst_6 rfl (fun v2 => ?_)
  refine z_istore_n C (i := 2) (la' := [(2, zI v2), (1, zR v1), (0, zR x0)]) (pc' := 8) dX2_dropFirst_7 rfl (by decide) rfl rfl ?_
  refine z_iconst C (pc' := 9) dX2_dropFirst_8 kc_0 rfl ?_
  refine z_istore_n C (i := 3) (la' := [(3, zI 0), (2, zI v2), (1, zR v1), (0, zR x0)]) (pc' := 10) dX2_dropFirst_9 rfl (by decide) rfl rfl ?_
  refine zlocs (lb := [(0, zR x0), (1, zR v1), (2, zI v2), (3, zI 0)]) ⟨rfl, rfl, rfl, rfl, trivial⟩ ?_
  refine zlp_ind (fun (f : Int → zMem → zRs) => ∀ (v3 : Int) (u4 : zMem), zSim G p l e R s m args below meth c w 5 (znc u0) (zM w 0 (znc u0) below args s) 10 [(0, zR x0), (1, zR v1), (2, zI v2), (3, zI v3)] [] u4 (f v3 u4)) (fun _ _ => znone) (fun k5 hk5 v3 u4 => ?_) _ _ _
  refine z_iload_n C (i := 3) (pc' := 11) dX2_dropFirst_10 rfl rfl rfl ?_
  refine z_iload_n C (i := 2) (pc' := 12) dX2_dropFirst_11 rfl rfl rfl ?_
  refine z_icmp_ge C (pc' := 37) (pf := 15) dX2_dropFirst_12 rfl rfl (fun _ => ?_) (fun _ => ?_)
  ·
    refine z_aload_n C (i := 0) (pc' := 38) dX2_dropFirst_37 rfl rfl rfl ?_
    refine z_bipush C (pc' := 40) dX2_dropFirst_38 kb_39 rfl ?_
    refine z_putf C (pc' := 43) flRX2_14 fn2_1 fb2_1 dX2_dropFirst_40 rfl (fun u6 => ?_)
    exact z_return C dX2_dropFirst_43
  ·
    refine z_aload_n C (i := 1) (pc' := 16) dX2_dropFirst_15 rfl rfl rfl ?_
    refine z_iload_n C (i := 3) (pc' := 17) dX2_dropFirst_16 rfl rfl rfl ?_
    refine z_aald C (pc' := 18) (by decide) dX2_dropFirst_17 rfl (fun v7 => ?_)
    refine z_astore C (i := 4) (la' := [(4, zR v7), (0, zR x0), (1, zR v1), (2, zI v2), (3, zI v3)]) (pc' := 20) dX2_dropFirst_18 (by decide) rfl rfl ?_
    refine z_aload C (pc' := 22) dX2_dropFirst_20 rfl rfl ?_
    refine z_iconst C (pc' := 23) dX2_dropFirst_22 kc_1 rfl ?_
    refine z_aload C (pc' := 25) dX2_dropFirst_23 rfl rfl ?_
    refine z_iconst C (pc' := 26) dX2_dropFirst_25 kc_0 rfl ?_
    refine z_bipush C (pc' := 28) dX2_dropFirst_26 kb_39 rfl ?_
    refine z_copy C (kd := 20) (pc' := 31) (by decide) waRX2_30 wacn wacs wsys dX2_dropFirst_28 rfl (by decide) (Nat.le_of_ble_eq_true rfl) (fun u8 => ?_)
    refine z_iinc C (i := 3) (la' := [(3, zI (zw32 (v3 + 1))), (4, zR v7), (0, zR x0), (1, zR v1), (2, zI v2)]) (pc' := 34) dX2_dropFirst_31 rfl (by decide) rfl rfl ?_
    refine z_goto C (pc' := 10) dX2_dropFirst_34 rfl ?_
    exact zlocs (lb := [(0, zR x0), (1, zR v1), (2, zI v2), (3, zI (zw32 (v3 + 1)))]) ⟨rfl, rfl, rfl, rfl, trivial⟩ (hk5 _ _)
def fX2_note (x0 x1 x2 x3 x4 : Int) (u0 : zMem) : zRs := zgf 2 1 x0 u0 (fun v1 => zjn (fun (u2 : zMem) => zgf 2 0 x0 u2 (fun v4 => zald 26 v4 0 u2 (fun v5 => zgf 2 1 x0 u2 (fun v6 => zast 20 v5 v6 x1 u2 (fun u7 => zgf 2 0 x0 u7 (fun v8 => zald 26 v8 1 u7 (fun v9 => zgf 2 1 x0 u7 (fun v10 => zast 20 v9 v10 x2 u7 (fun u11 => zgf 2 0 x0 u11 (fun v12 => zald 26 v12 2 u11 (fun v13 => zgf 2 1 x0 u11 (fun v14 => zast 20 v13 v14 x3 u11 (fun u15 => zgf 2 0 x0 u15 (fun v16 => zald 26 v16 3 u15 (fun v17 => zgf 2 1 x0 u15 (fun v18 => zast 20 v17 v18 x4 u15 (fun u19 => zgf 2 1 x0 u19 (fun v20 => zpf 2 1 x0 (zw32 (v20 + 1)) u19 (fun u21 => zgf 2 1 x0 u21 (fun v22 => zpf 2 2 x0 v22 u21 (fun u23 => some (0, u23)))))))))))))))))))))) (fun k3 => if v1 < 40 then (k3 u0) else (zvc 2 x0 (fX2_dropFirst x0 u0) (fun _ u24 => k3 u24))))
set_option maxRecDepth 100000 in
set_option maxHeartbeats 4000000 in
theorem rX2_note (l : Launch) (w : zW) (x0 x1 x2 x3 x4 : Int) (u0 : zMem) : zSpc l w 2 yX2_note cX2_note 5 none 0 [zR x0, zI x1, zI x2, zI x3, zI x4] u0 (fX2_note x0 x1 x2 x3 x4 u0) := by
  refine zSpc_of (own := RX2) pnRX2 rfl (Nat.le_of_ble_eq_true rfl) (fun G p e R s m args below meth c C hini => ?_)
  unfold fX2_note
  refine zlocs (lb := [(0, zR x0), (1, zI x1), (2, zI x2), (3, zI x3), (4, zI x4)]) ⟨rfl, rfl, rfl, rfl, rfl, trivial⟩ ?_
  refine z_aload_n C (i := 0) (pc' := 1) dX2_note_0 rfl rfl rfl ?_
  refine z_getf C (pc' := 4) flRX2_14 dX2_note_1 rfl (fun v1 => ?_)
  refine z_bipush C (pc' := 6) dX2_note_4 kb_40 rfl ?_
  refine zjoin (P := fun (f : zMem → zRs) => ∀ (u2 : zMem), zSim G p l e R s m args below meth c w 5 (znc u0) (zM w 0 (znc u0) below args s) 13 [(0, zR x0), (1, zI x1), (2, zI x2), (3, zI x3), (4, zI x4)] [] u2 (f u2)) (fun u2 => ?_) (fun k3 hk3 => ?_)
  ·
    refine z_aload_n C (i := 0) (pc' := 14) dX2_note_13 rfl rfl rfl ?_
    refine z_getfR C (pc' := 17) flRX2_11 dX2_note_14 rfl (fun v4 => ?_)
    refine z_iconst C (pc' := 18) dX2_note_17 kc_0 rfl ?_
    refine z_aald C (pc' := 19) (by decide) dX2_note_18 rfl (fun v5 => ?_)
    refine z_aload_n C (i := 0) (pc' := 20) dX2_note_19 rfl rfl rfl ?_
    refine z_getf C (pc' := 23) flRX2_14 dX2_note_20 rfl (fun v6 => ?_)
    refine z_iload_n C (i := 1) (pc' := 24) dX2_note_23 rfl rfl rfl ?_
    refine z_iast C (pc' := 25) dX2_note_24 rfl (fun u7 => ?_)
    refine z_aload_n C (i := 0) (pc' := 26) dX2_note_25 rfl rfl rfl ?_
    refine z_getfR C (pc' := 29) flRX2_11 dX2_note_26 rfl (fun v8 => ?_)
    refine z_iconst C (pc' := 30) dX2_note_29 kc_1 rfl ?_
    refine z_aald C (pc' := 31) (by decide) dX2_note_30 rfl (fun v9 => ?_)
    refine z_aload_n C (i := 0) (pc' := 32) dX2_note_31 rfl rfl rfl ?_
    refine z_getf C (pc' := 35) flRX2_14 dX2_note_32 rfl (fun v10 => ?_)
    refine z_iload_n C (i := 2) (pc' := 36) dX2_note_35 rfl rfl rfl ?_
    refine z_iast C (pc' := 37) dX2_note_36 rfl (fun u11 => ?_)
    refine z_aload_n C (i := 0) (pc' := 38) dX2_note_37 rfl rfl rfl ?_
    refine z_getfR C (pc' := 41) flRX2_11 dX2_note_38 rfl (fun v12 => ?_)
    refine z_iconst C (pc' := 42) dX2_note_41 kc_2 rfl ?_
    refine z_aald C (pc' := 43) (by decide) dX2_note_42 rfl (fun v13 => ?_)
    refine z_aload_n C (i := 0) (pc' := 44) dX2_note_43 rfl rfl rfl ?_
    refine z_getf C (pc' := 47) flRX2_14 dX2_note_44 rfl (fun v14 => ?_)
    refine z_iload_n C (i := 3) (pc' := 48) dX2_note_47 rfl rfl rfl ?_
    refine z_iast C (pc' := 49) dX2_note_48 rfl (fun u15 => ?_)
    refine z_aload_n C (i := 0) (pc' := 50) dX2_note_49 rfl rfl rfl ?_
    refine z_getfR C (pc' := 53) flRX2_11 dX2_note_50 rfl (fun v16 => ?_)
    refine z_iconst C (pc' := 54) dX2_note_53 kc_3 rfl ?_
    refine z_aald C (pc' := 55) (by decide) dX2_note_54 rfl (fun v17 => ?_)
    refine z_aload_n C (i := 0) (pc' := 56) dX2_note_55 rfl rfl rfl ?_
    refine z_getf C (pc' := 59) flRX2_14 dX2_note_56 rfl (fun v18 => ?_)
    refine z_iload C (pc' := 61) dX2_note_59 rfl rfl ?_
    refine z_iast C (pc' := 62) dX2_note_61 rfl (fun u19 => ?_)
    refine z_aload_n C (i := 0) (pc' := 63) dX2_note_62 rfl rfl rfl ?_
    refine z_dup C (pc' := 64) dX2_note_63 rfl rfl ?_
    refine z_getf C (pc' := 67) flRX2_14 dX2_note_64 rfl (fun v20 => ?_)
    refine z_iconst C (pc' := 68) dX2_note_67 kc_1 rfl ?_
    refine z_iadd C (pc' := 69) dX2_note_68 rfl ?_
    refine z_putf C (pc' := 72) flRX2_14 fn2_1 fb2_1 dX2_note_69 rfl (fun u21 => ?_)
    refine z_aload_n C (i := 0) (pc' := 73) dX2_note_72 rfl rfl rfl ?_
    refine z_aload_n C (i := 0) (pc' := 74) dX2_note_73 rfl rfl rfl ?_
    refine z_getf C (pc' := 77) flRX2_14 dX2_note_74 rfl (fun v22 => ?_)
    refine z_putf C (pc' := 80) flRX2_18 fn2_2 fb2_2 dX2_note_77 rfl (fun u23 => ?_)
    exact z_return C dX2_note_80
  ·
    refine z_icmp_lt C (pc' := 13) (pf := 9) dX2_note_6 rfl rfl (fun _ => ?_) (fun _ => ?_)
    ·
      exact zlocs (lb := [(0, zR x0), (1, zI x1), (2, zI x2), (3, zI x3), (4, zI x4)]) ⟨rfl, rfl, rfl, rfl, rfl, trivial⟩ (hk3 _)
    ·
      refine z_aload_n C (i := 0) (pc' := 10) dX2_note_9 rfl rfl rfl ?_
      refine z_callV0 C (pc' := 13) lvRX2_21 lc_X2_dropFirst rfl dX2_note_10 rfl (by decide) (rX2_dropFirst l w x0 u0) rfl (Nat.le_of_ble_eq_true rfl) (fun _ u24 => ?_)
      exact zlocs (lb := [(0, zR x0), (1, zI x1), (2, zI x2), (3, zI x3), (4, zI x4)]) ⟨rfl, rfl, rfl, rfl, rfl, trivial⟩ (hk3 _)
def fX5_has (x0 x1 : Int) (u0 : zMem) : zRs := zjn (fun (u1 : zMem) => zbl 0 (some (0, u1))) (fun k2 => if x1 < 0 then (k2 u0) else (zgf 5 1 x0 u0 (fun v3 => if x1 ≥ v3 then (k2 u0) else (zbl 1 (some (1, u0))))))
set_option maxRecDepth 100000 in
set_option maxHeartbeats 4000000 in
theorem rX5_has (l : Launch) (w : zW) (x0 x1 : Int) (u0 : zMem) : zSpc l w 1 yX5_has cX5_has 2 (some .boolean) 1 [zR x0, zI x1] u0 (fX5_has x0 x1 u0) := by
  refine zSpc_of (own := RX5) pnRX5 rfl (Nat.le_of_ble_eq_true rfl) (fun G p e R s m args below meth c C hini => ?_)
  unfold fX5_has
  refine zlocs (lb := [(0, zR x0), (1, zI x1)]) ⟨rfl, rfl, trivial⟩ ?_
  refine z_iload_n C (i := 1) (pc' := 1) dX5_has_0 rfl rfl rfl ?_
  refine zjoin (P := fun (f : zMem → zRs) => ∀ (u1 : zMem), zSim G p l e R s m args below meth c w 2 (znc u0) (zM w 1 (znc u0) below args s) 16 [] [] u1 (f u1)) (fun u1 => ?_) (fun k2 hk2 => ?_)
  ·
    refine z_iconst C (pc' := 17) dX5_has_16 kc_0 rfl ?_
    exact z_zreturn C dX5_has_17
  ·
    refine z_if_lt C (pc' := 16) (pf := 4) dX5_has_1 rfl rfl (fun _ => ?_) (fun _ => ?_)
    ·
      exact zlocs (lb := []) trivial (hk2 _)
    ·
      refine z_iload_n C (i := 1) (pc' := 5) dX5_has_4 rfl rfl rfl ?_
      refine z_aload_n C (i := 0) (pc' := 6) dX5_has_5 rfl rfl rfl ?_
      refine z_getf C (pc' := 9) flRX5_23 dX5_has_6 rfl (fun v3 => ?_)
      refine z_icmp_ge C (pc' := 16) (pf := 12) dX5_has_9 rfl rfl (fun _ => ?_) (fun _ => ?_)
      ·
        exact zlocs (lb := []) trivial (hk2 _)
      ·
        refine z_iconst C (pc' := 13) dX5_has_12 kc_1 rfl ?_
        refine z_goto C (pc' := 17) dX5_has_13 rfl ?_
        exact z_zreturn C dX5_has_17
def fX5_fits (x0 x1 : Int) (u0 : zMem) : zRs := zjn (fun (u1 : zMem) => zbl 0 (some (0, u1))) (fun k2 => if x0 < 0 then (k2 u0) else (if x0 > 3 then (k2 u0) else (zald 20 1 x0 u0 (fun v3 => if x1 < v3 then (k2 u0) else (zald 20 2 x0 u0 (fun v4 => if x1 > v4 then (k2 u0) else (zbl 1 (some (1, u0)))))))))
set_option maxRecDepth 100000 in
set_option maxHeartbeats 4000000 in
theorem rX5_fits (l : Launch) (w : zW) (x0 x1 : Int) (u0 : zMem) : zSpc l w 1 yX5_fits cX5_fits 2 (some .boolean) 1 [zI x0, zI x1] u0 (fX5_fits x0 x1 u0) := by
  refine zSpc_of (own := RX5) pnRX5 rfl (Nat.le_of_ble_eq_true rfl) (fun G p e R s m args below meth c C hini => ?_)
  unfold fX5_fits
  refine zlocs (lb := [(0, zI x0), (1, zI x1)]) ⟨rfl, rfl, trivial⟩ ?_
  refine z_iload_n C (i := 0) (pc' := 1) dX5_fits_0 rfl rfl rfl ?_
  refine zjoin (P := fun (f : zMem → zRs) => ∀ (u1 : zMem), zSim G p l e R s m args below meth c w 2 (znc u0) (zM w 1 (znc u0) below args s) 31 [] [] u1 (f u1)) (fun u1 => ?_) (fun k2 hk2 => ?_)
  ·
    refine z_iconst C (pc' := 32) dX5_fits_31 kc_0 rfl ?_
    exact z_zreturn C dX5_fits_32
  ·
    refine z_if_lt C (pc' := 31) (pf := 4) dX5_fits_1 rfl rfl (fun _ => ?_) (fun _ => ?_)
    ·
      exact zlocs (lb := []) trivial (hk2 _)
    ·
      refine z_iload_n C (i := 0) (pc' := 5) dX5_fits_4 rfl rfl rfl ?_
      refine z_iconst C (pc' := 6) dX5_fits_5 kc_3 rfl ?_
      refine z_icmp_gt C (pc' := 31) (pf := 9) dX5_fits_6 rfl rfl (fun _ => ?_) (fun _ => ?_)
      ·
        exact zlocs (lb := []) trivial (hk2 _)
      ·
        refine z_iload_n C (i := 1) (pc' := 10) dX5_fits_9 rfl rfl rfl ?_
        refine z_gets C (q := 1) (pc' := 13) (by decide) wgRX5_16 dX5_fits_10 rfl ?_
        refine z_iload_n C (i := 0) (pc' := 14) dX5_fits_13 rfl rfl rfl ?_
        refine z_iald C (pc' := 15) dX5_fits_14 rfl (fun v3 => ?_)
        refine z_icmp_lt C (pc' := 31) (pf := 18) dX5_fits_15 rfl rfl (fun _ => ?_) (fun _ => ?_)
        ·
          exact zlocs (lb := []) trivial (hk2 _)
        ·
          refine z_iload_n C (i := 1) (pc' := 19) dX5_fits_18 rfl rfl rfl ?_
          refine z_gets C (q := 2) (pc' := 22) (by decide) wgRX5_20 dX5_fits_19 rfl ?_
          refine z_iload_n C (i := 0) (pc' := 23) dX5_fits_22 rfl rfl rfl ?_
          refine z_iald C (pc' := 24) dX5_fits_23 rfl (fun v4 => ?_)
          refine z_icmp_gt C (pc' := 31) (pf := 27) dX5_fits_24 rfl rfl (fun _ => ?_) (fun _ => ?_)
          ·
            exact zlocs (lb := []) trivial (hk2 _)
          ·
            refine z_iconst C (pc' := 28) dX5_fits_27 kc_1 rfl ?_
            refine z_goto C (pc' := 32) dX5_fits_28 rfl ?_
            exact z_zreturn C dX5_fits_32
def fX5_change (x0 x1 x2 x3 : Int) (u0 : zMem) : zRs := zvc 5 x0 (fX5_has x0 x1 u0) (fun v1 u2 => if v1 = 0 then (some (0, u2)) else (zcall (fX5_fits x2 x3 u2) (fun v3 u4 => if v3 = 0 then (some (0, u4)) else (zgf 5 0 x0 u4 (fun v5 => zald 26 v5 x2 u4 (fun v6 => zast 20 v6 x1 x3 u4 (fun u7 => some (0, u7))))))))
set_option maxRecDepth 100000 in
set_option maxHeartbeats 4000000 in
theorem rX5_change (l : Launch) (w : zW) (x0 x1 x2 x3 : Int) (u0 : zMem) : zSpc l w 2 yX5_change cX5_change 4 none 0 [zR x0, zI x1, zI x2, zI x3] u0 (fX5_change x0 x1 x2 x3 u0) := by
  refine zSpc_of (own := RX5) pnRX5 rfl (Nat.le_of_ble_eq_true rfl) (fun G p e R s m args below meth c C hini => ?_)
  unfold fX5_change
  refine zlocs (lb := [(0, zR x0), (1, zI x1), (2, zI x2), (3, zI x3)]) ⟨rfl, rfl, rfl, rfl, trivial⟩ ?_
  refine z_aload_n C (i := 0) (pc' := 1) dX5_change_0 rfl rfl rfl ?_
  refine z_iload_n C (i := 1) (pc' := 2) dX5_change_1 rfl rfl rfl ?_
  refine z_callV1 C (pc' := 5) lvRX5_31 lc_X5_has rfl dX5_change_2 rfl (by decide) (rX5_has l w x0 x1 u0) rfl (Nat.le_of_ble_eq_true rfl) (fun v1 u2 => ?_)
  refine z_if_eq C (pc' := 25) (pf := 8) dX5_change_5 rfl rfl (fun _ => ?_) (fun _ => ?_)
  ·
    exact z_return C dX5_change_25
  ·
    refine z_iload_n C (i := 2) (pc' := 9) dX5_change_8 rfl rfl rfl ?_
    refine z_iload_n C (i := 3) (pc' := 10) dX5_change_9 rfl rfl rfl ?_
    refine z_callS1 C (pc' := 13) lsRX5_27 lc_X5_fits rfl dX5_change_10 rfl (by decide) (rX5_fits l w x2 x3 u2) rfl (Nat.le_of_ble_eq_true rfl) (fun v3 u4 => ?_)
    refine z_if_eq C (pc' := 25) (pf := 16) dX5_change_13 rfl rfl (fun _ => ?_) (fun _ => ?_)
    ·
      exact z_return C dX5_change_25
    ·
      refine z_aload_n C (i := 0) (pc' := 17) dX5_change_16 rfl rfl rfl ?_
      refine z_getfR C (pc' := 20) flRX5_13 dX5_change_17 rfl (fun v5 => ?_)
      refine z_iload_n C (i := 2) (pc' := 21) dX5_change_20 rfl rfl rfl ?_
      refine z_aald C (pc' := 22) (by decide) dX5_change_21 rfl (fun v6 => ?_)
      refine z_iload_n C (i := 1) (pc' := 23) dX5_change_22 rfl rfl rfl ?_
      refine z_iload_n C (i := 3) (pc' := 24) dX5_change_23 rfl rfl rfl ?_
      refine z_iast C (pc' := 25) dX5_change_24 rfl (fun u7 => ?_)
      exact z_return C dX5_change_25
def fX2_stepBack (x0 x1 : Int) (u0 : zMem) : zRs := zgf 2 1 x0 u0 (fun v1 => if v1 > 0 then (zgf 2 1 x0 u0 (fun v2 => zpf 2 1 x0 (zw32 (v2 - 1)) u0 (fun u3 => zgf 2 0 x0 u3 (fun v4 => zald 26 v4 0 u3 (fun v5 => zgf 2 1 x0 u3 (fun v6 => zald 20 v5 v6 u3 (fun v7 => zgf 2 0 x0 u3 (fun v8 => zald 26 v8 1 u3 (fun v9 => zgf 2 1 x0 u3 (fun v10 => zald 20 v9 v10 u3 (fun v11 => zgf 2 0 x0 u3 (fun v12 => zald 26 v12 2 u3 (fun v13 => zgf 2 1 x0 u3 (fun v14 => zald 20 v13 v14 u3 (fun v15 => zvc 5 x1 (fX5_change x1 v7 v11 v15 u3) (fun _ u16 => zbl 1 (some (1, u16)))))))))))))))))) else (zbl 0 (some (0, u0))))
set_option maxRecDepth 100000 in
set_option maxHeartbeats 4000000 in
theorem rX2_stepBack (l : Launch) (w : zW) (x0 x1 : Int) (u0 : zMem) : zSpc l w 3 yX2_stepBack cX2_stepBack 2 (some .boolean) 1 [zR x0, zR x1] u0 (fX2_stepBack x0 x1 u0) := by
  refine zSpc_of (own := RX2) pnRX2 rfl (Nat.le_of_ble_eq_true rfl) (fun G p e R s m args below meth c C hini => ?_)
  unfold fX2_stepBack
  refine zlocs (lb := [(0, zR x0), (1, zR x1)]) ⟨rfl, rfl, trivial⟩ ?_
  refine z_aload_n C (i := 0) (pc' := 1) dX2_stepBack_0 rfl rfl rfl ?_
  refine z_getf C (pc' := 4) flRX2_14 dX2_stepBack_1 rfl (fun v1 => ?_)
  refine z_if_gt C (pc' := 9) (pf := 7) dX2_stepBack_4 rfl rfl (fun _ => ?_) (fun _ => ?_)
  ·
    refine z_aload_n C (i := 0) (pc' := 10) dX2_stepBack_9 rfl rfl rfl ?_
    refine z_dup C (pc' := 11) dX2_stepBack_10 rfl rfl ?_
    refine z_getf C (pc' := 14) flRX2_14 dX2_stepBack_11 rfl (fun v2 => ?_)
    refine z_iconst C (pc' := 15) dX2_stepBack_14 kc_1 rfl ?_
    refine z_isub C (pc' := 16) dX2_stepBack_15 rfl ?_
    refine z_putf C (pc' := 19) flRX2_14 fn2_1 fb2_1 dX2_stepBack_16 rfl (fun u3 => ?_)
    refine z_aload_n C (i := 1) (pc' := 20) dX2_stepBack_19 rfl rfl rfl ?_
    refine z_aload_n C (i := 0) (pc' := 21) dX2_stepBack_20 rfl rfl rfl ?_
    refine z_getfR C (pc' := 24) flRX2_11 dX2_stepBack_21 rfl (fun v4 => ?_)
    refine z_iconst C (pc' := 25) dX2_stepBack_24 kc_0 rfl ?_
    refine z_aald C (pc' := 26) (by decide) dX2_stepBack_25 rfl (fun v5 => ?_)
    refine z_aload_n C (i := 0) (pc' := 27) dX2_stepBack_26 rfl rfl rfl ?_
    refine z_getf C (pc' := 30) flRX2_14 dX2_stepBack_27 rfl (fun v6 => ?_)
    refine z_iald C (pc' := 31) dX2_stepBack_30 rfl (fun v7 => ?_)
    refine z_aload_n C (i := 0) (pc' := 32) dX2_stepBack_31 rfl rfl rfl ?_
    refine z_getfR C (pc' := 35) flRX2_11 dX2_stepBack_32 rfl (fun v8 => ?_)
    refine z_iconst C (pc' := 36) dX2_stepBack_35 kc_1 rfl ?_
    refine z_aald C (pc' := 37) (by decide) dX2_stepBack_36 rfl (fun v9 => ?_)
    refine z_aload_n C (i := 0) (pc' := 38) dX2_stepBack_37 rfl rfl rfl ?_
    refine z_getf C (pc' := 41) flRX2_14 dX2_stepBack_38 rfl (fun v10 => ?_)
    refine z_iald C (pc' := 42) dX2_stepBack_41 rfl (fun v11 => ?_)
    refine z_aload_n C (i := 0) (pc' := 43) dX2_stepBack_42 rfl rfl rfl ?_
    refine z_getfR C (pc' := 46) flRX2_11 dX2_stepBack_43 rfl (fun v12 => ?_)
    refine z_iconst C (pc' := 47) dX2_stepBack_46 kc_2 rfl ?_
    refine z_aald C (pc' := 48) (by decide) dX2_stepBack_47 rfl (fun v13 => ?_)
    refine z_aload_n C (i := 0) (pc' := 49) dX2_stepBack_48 rfl rfl rfl ?_
    refine z_getf C (pc' := 52) flRX2_14 dX2_stepBack_49 rfl (fun v14 => ?_)
    refine z_iald C (pc' := 53) dX2_stepBack_52 rfl (fun v15 => ?_)
    refine z_callV0 C (pc' := 56) lvRX2_24 lc_X5_change rfl dX2_stepBack_53 rfl (by decide) (rX5_change l w x1 v7 v11 v15 u3) rfl (Nat.le_of_ble_eq_true rfl) (fun _ u16 => ?_)
    refine z_iconst C (pc' := 57) dX2_stepBack_56 kc_1 rfl ?_
    exact z_zreturn C dX2_stepBack_57
  ·
    refine z_iconst C (pc' := 8) dX2_stepBack_7 kc_0 rfl ?_
    exact z_zreturn C dX2_stepBack_8
def fX2_stepOn (x0 x1 : Int) (u0 : zMem) : zRs := zgf 2 1 x0 u0 (fun v1 => zgf 2 2 x0 u0 (fun v2 => if v1 < v2 then (zgf 2 0 x0 u0 (fun v3 => zald 26 v3 0 u0 (fun v4 => zgf 2 1 x0 u0 (fun v5 => zald 20 v4 v5 u0 (fun v6 => zgf 2 0 x0 u0 (fun v7 => zald 26 v7 1 u0 (fun v8 => zgf 2 1 x0 u0 (fun v9 => zald 20 v8 v9 u0 (fun v10 => zgf 2 0 x0 u0 (fun v11 => zald 26 v11 3 u0 (fun v12 => zgf 2 1 x0 u0 (fun v13 => zald 20 v12 v13 u0 (fun v14 => zvc 5 x1 (fX5_change x1 v6 v10 v14 u0) (fun _ u15 => zgf 2 1 x0 u15 (fun v16 => zpf 2 1 x0 (zw32 (v16 + 1)) u15 (fun u17 => zbl 1 (some (1, u17)))))))))))))))))) else (zbl 0 (some (0, u0)))))
set_option maxRecDepth 100000 in
set_option maxHeartbeats 4000000 in
theorem rX2_stepOn (l : Launch) (w : zW) (x0 x1 : Int) (u0 : zMem) : zSpc l w 3 yX2_stepOn cX2_stepOn 2 (some .boolean) 1 [zR x0, zR x1] u0 (fX2_stepOn x0 x1 u0) := by
  refine zSpc_of (own := RX2) pnRX2 rfl (Nat.le_of_ble_eq_true rfl) (fun G p e R s m args below meth c C hini => ?_)
  unfold fX2_stepOn
  refine zlocs (lb := [(0, zR x0), (1, zR x1)]) ⟨rfl, rfl, trivial⟩ ?_
  refine z_aload_n C (i := 0) (pc' := 1) dX2_stepOn_0 rfl rfl rfl ?_
  refine z_getf C (pc' := 4) flRX2_14 dX2_stepOn_1 rfl (fun v1 => ?_)
  refine z_aload_n C (i := 0) (pc' := 5) dX2_stepOn_4 rfl rfl rfl ?_
  refine z_getf C (pc' := 8) flRX2_18 dX2_stepOn_5 rfl (fun v2 => ?_)
  refine z_icmp_lt C (pc' := 13) (pf := 11) dX2_stepOn_8 rfl rfl (fun _ => ?_) (fun _ => ?_)
  ·
    refine z_aload_n C (i := 1) (pc' := 14) dX2_stepOn_13 rfl rfl rfl ?_
    refine z_aload_n C (i := 0) (pc' := 15) dX2_stepOn_14 rfl rfl rfl ?_
    refine z_getfR C (pc' := 18) flRX2_11 dX2_stepOn_15 rfl (fun v3 => ?_)
    refine z_iconst C (pc' := 19) dX2_stepOn_18 kc_0 rfl ?_
    refine z_aald C (pc' := 20) (by decide) dX2_stepOn_19 rfl (fun v4 => ?_)
    refine z_aload_n C (i := 0) (pc' := 21) dX2_stepOn_20 rfl rfl rfl ?_
    refine z_getf C (pc' := 24) flRX2_14 dX2_stepOn_21 rfl (fun v5 => ?_)
    refine z_iald C (pc' := 25) dX2_stepOn_24 rfl (fun v6 => ?_)
    refine z_aload_n C (i := 0) (pc' := 26) dX2_stepOn_25 rfl rfl rfl ?_
    refine z_getfR C (pc' := 29) flRX2_11 dX2_stepOn_26 rfl (fun v7 => ?_)
    refine z_iconst C (pc' := 30) dX2_stepOn_29 kc_1 rfl ?_
    refine z_aald C (pc' := 31) (by decide) dX2_stepOn_30 rfl (fun v8 => ?_)
    refine z_aload_n C (i := 0) (pc' := 32) dX2_stepOn_31 rfl rfl rfl ?_
    refine z_getf C (pc' := 35) flRX2_14 dX2_stepOn_32 rfl (fun v9 => ?_)
    refine z_iald C (pc' := 36) dX2_stepOn_35 rfl (fun v10 => ?_)
    refine z_aload_n C (i := 0) (pc' := 37) dX2_stepOn_36 rfl rfl rfl ?_
    refine z_getfR C (pc' := 40) flRX2_11 dX2_stepOn_37 rfl (fun v11 => ?_)
    refine z_iconst C (pc' := 41) dX2_stepOn_40 kc_3 rfl ?_
    refine z_aald C (pc' := 42) (by decide) dX2_stepOn_41 rfl (fun v12 => ?_)
    refine z_aload_n C (i := 0) (pc' := 43) dX2_stepOn_42 rfl rfl rfl ?_
    refine z_getf C (pc' := 46) flRX2_14 dX2_stepOn_43 rfl (fun v13 => ?_)
    refine z_iald C (pc' := 47) dX2_stepOn_46 rfl (fun v14 => ?_)
    refine z_callV0 C (pc' := 50) lvRX2_24 lc_X5_change rfl dX2_stepOn_47 rfl (by decide) (rX5_change l w x1 v6 v10 v14 u0) rfl (Nat.le_of_ble_eq_true rfl) (fun _ u15 => ?_)
    refine z_aload_n C (i := 0) (pc' := 51) dX2_stepOn_50 rfl rfl rfl ?_
    refine z_dup C (pc' := 52) dX2_stepOn_51 rfl rfl ?_
    refine z_getf C (pc' := 55) flRX2_14 dX2_stepOn_52 rfl (fun v16 => ?_)
    refine z_iconst C (pc' := 56) dX2_stepOn_55 kc_1 rfl ?_
    refine z_iadd C (pc' := 57) dX2_stepOn_56 rfl ?_
    refine z_putf C (pc' := 60) flRX2_14 fn2_1 fb2_1 dX2_stepOn_57 rfl (fun u17 => ?_)
    refine z_iconst C (pc' := 61) dX2_stepOn_60 kc_1 rfl ?_
    exact z_zreturn C dX2_stepOn_61
  ·
    refine z_iconst C (pc' := 12) dX2_stepOn_11 kc_0 rfl ?_
    exact z_zreturn C dX2_stepOn_12
def fX5_init (x0 : Int) (u0 : zMem) : zRs := if 0 ≤ x0 then (zmna 4 16 u0 (fun v1 u2 => zpf 5 0 x0 v1 u2 (fun u3 => some (0, u3)))) else none
set_option maxRecDepth 100000 in
set_option maxHeartbeats 4000000 in
theorem rX5_init (l : Launch) (w : zW) (x0 : Int) (u0 : zMem) : zSpc l w 1 yX5_init cX5_init 1 none 0 [zR x0] u0 (fX5_init x0 u0) := by
  refine zSpc_of (own := RX5) pnRX5 rfl (Nat.le_of_ble_eq_true rfl) (fun G p e R s m args below meth c C hini => ?_)
  unfold fX5_init
  refine zlocs (lb := [(0, zR x0)]) ⟨rfl, trivial⟩ ?_
  refine z_aload_n C (i := 0) (pc' := 1) dX5_init_0 rfl rfl rfl ?_
  refine z_objinit C (pc' := 4) woRX5_3 woi woc dX5_init_1 rfl (by decide) (Nat.le_of_ble_eq_true rfl) ?_
  refine z_aload_n C (i := 0) (pc' := 5) dX5_init_4 rfl rfl rfl ?_
  refine z_iconst C (pc' := 6) dX5_init_5 kc_4 rfl ?_
  refine z_bipush C (pc' := 8) dX5_init_6 kb_16 rfl ?_
  refine z_mna C (pc' := 12) wkRX5_11 wy20 dX5_init_8 rfl (fun v1 u2 => ?_)
  refine z_putfRi C (pc' := 15) flRX5_13 hini rfl fb5_0 dX5_init_12 rfl (fun u3 => ?_)
  exact z_return C dX5_init_15
def fX5_append (x0 x1 x2 x3 x4 : Int) (u0 : zMem) : zRs := zcall (fX5_fits 0 x1 u0) (fun v1 u2 => if v1 = 0 then (some ((-1), u2)) else (zcall (fX5_fits 1 x2 u2) (fun v3 u4 => if v3 = 0 then (some ((-1), u4)) else (zcall (fX5_fits 2 x3 u4) (fun v5 u6 => if v5 = 0 then (some ((-1), u6)) else (zcall (fX5_fits 3 x4 u6) (fun v7 u8 => if v7 ≠ 0 then (zgf 5 1 x0 u8 (fun v9 => if v9 < 16 then (zgf 5 0 x0 u8 (fun v10 => zald 26 v10 0 u8 (fun v11 => zgf 5 1 x0 u8 (fun v12 => zast 20 v11 v12 x1 u8 (fun u13 => zgf 5 0 x0 u13 (fun v14 => zald 26 v14 1 u13 (fun v15 => zgf 5 1 x0 u13 (fun v16 => zast 20 v15 v16 x2 u13 (fun u17 => zgf 5 0 x0 u17 (fun v18 => zald 26 v18 2 u17 (fun v19 => zgf 5 1 x0 u17 (fun v20 => zast 20 v19 v20 x3 u17 (fun u21 => zgf 5 0 x0 u21 (fun v22 => zald 26 v22 3 u21 (fun v23 => zgf 5 1 x0 u21 (fun v24 => zast 20 v23 v24 x4 u21 (fun u25 => zgf 5 1 x0 u25 (fun v26 => zpf 5 1 x0 (zw32 (v26 + 1)) u25 (fun u27 => zgf 5 1 x0 u27 (fun v28 => some ((zw32 (v28 - 1)), u27))))))))))))))))))))) else (some ((-3), u8)))) else (some ((-1), u8)))))))))
set_option maxRecDepth 100000 in
set_option maxHeartbeats 4000000 in
theorem rX5_append (l : Launch) (w : zW) (x0 x1 x2 x3 x4 : Int) (u0 : zMem) : zSpc l w 2 yX5_append cX5_append 5 (some .int) 1 [zR x0, zI x1, zI x2, zI x3, zI x4] u0 (fX5_append x0 x1 x2 x3 x4 u0) := by
  refine zSpc_of (own := RX5) pnRX5 rfl (Nat.le_of_ble_eq_true rfl) (fun G p e R s m args below meth c C hini => ?_)
  unfold fX5_append
  refine zlocs (lb := [(0, zR x0), (1, zI x1), (2, zI x2), (3, zI x3), (4, zI x4)]) ⟨rfl, rfl, rfl, rfl, rfl, trivial⟩ ?_
  refine z_iconst C (pc' := 1) dX5_append_0 kc_0 rfl ?_
  refine z_iload_n C (i := 1) (pc' := 2) dX5_append_1 rfl rfl rfl ?_
  refine z_callS1 C (pc' := 5) lsRX5_27 lc_X5_fits rfl dX5_append_2 rfl (by decide) (rX5_fits l w 0 x1 u0) rfl (Nat.le_of_ble_eq_true rfl) (fun v1 u2 => ?_)
  refine z_if_eq C (pc' := 33) (pf := 8) dX5_append_5 rfl rfl (fun _ => ?_) (fun _ => ?_)
  ·
    refine z_iconst C (pc' := 34) dX5_append_33 kc_m1 rfl ?_
    exact z_ireturn C dX5_append_34
  ·
    refine z_iconst C (pc' := 9) dX5_append_8 kc_1 rfl ?_
    refine z_iload_n C (i := 2) (pc' := 10) dX5_append_9 rfl rfl rfl ?_
    refine z_callS1 C (pc' := 13) lsRX5_27 lc_X5_fits rfl dX5_append_10 rfl (by decide) (rX5_fits l w 1 x2 u2) rfl (Nat.le_of_ble_eq_true rfl) (fun v3 u4 => ?_)
    refine z_if_eq C (pc' := 33) (pf := 16) dX5_append_13 rfl rfl (fun _ => ?_) (fun _ => ?_)
    ·
      refine z_iconst C (pc' := 34) dX5_append_33 kc_m1 rfl ?_
      exact z_ireturn C dX5_append_34
    ·
      refine z_iconst C (pc' := 17) dX5_append_16 kc_2 rfl ?_
      refine z_iload_n C (i := 3) (pc' := 18) dX5_append_17 rfl rfl rfl ?_
      refine z_callS1 C (pc' := 21) lsRX5_27 lc_X5_fits rfl dX5_append_18 rfl (by decide) (rX5_fits l w 2 x3 u4) rfl (Nat.le_of_ble_eq_true rfl) (fun v5 u6 => ?_)
      refine z_if_eq C (pc' := 33) (pf := 24) dX5_append_21 rfl rfl (fun _ => ?_) (fun _ => ?_)
      ·
        refine z_iconst C (pc' := 34) dX5_append_33 kc_m1 rfl ?_
        exact z_ireturn C dX5_append_34
      ·
        refine z_iconst C (pc' := 25) dX5_append_24 kc_3 rfl ?_
        refine z_iload C (pc' := 27) dX5_append_25 rfl rfl ?_
        refine z_callS1 C (pc' := 30) lsRX5_27 lc_X5_fits rfl dX5_append_27 rfl (by decide) (rX5_fits l w 3 x4 u6) rfl (Nat.le_of_ble_eq_true rfl) (fun v7 u8 => ?_)
        refine z_if_ne C (pc' := 35) (pf := 33) dX5_append_30 rfl rfl (fun _ => ?_) (fun _ => ?_)
        ·
          refine z_aload_n C (i := 0) (pc' := 36) dX5_append_35 rfl rfl rfl ?_
          refine z_getf C (pc' := 39) flRX5_23 dX5_append_36 rfl (fun v9 => ?_)
          refine z_bipush C (pc' := 41) dX5_append_39 kb_16 rfl ?_
          refine z_icmp_lt C (pc' := 47) (pf := 44) dX5_append_41 rfl rfl (fun _ => ?_) (fun _ => ?_)
          ·
            refine z_aload_n C (i := 0) (pc' := 48) dX5_append_47 rfl rfl rfl ?_
            refine z_getfR C (pc' := 51) flRX5_13 dX5_append_48 rfl (fun v10 => ?_)
            refine z_iconst C (pc' := 52) dX5_append_51 kc_0 rfl ?_
            refine z_aald C (pc' := 53) (by decide) dX5_append_52 rfl (fun v11 => ?_)
            refine z_aload_n C (i := 0) (pc' := 54) dX5_append_53 rfl rfl rfl ?_
            refine z_getf C (pc' := 57) flRX5_23 dX5_append_54 rfl (fun v12 => ?_)
            refine z_iload_n C (i := 1) (pc' := 58) dX5_append_57 rfl rfl rfl ?_
            refine z_iast C (pc' := 59) dX5_append_58 rfl (fun u13 => ?_)
            refine z_aload_n C (i := 0) (pc' := 60) dX5_append_59 rfl rfl rfl ?_
            refine z_getfR C (pc' := 63) flRX5_13 dX5_append_60 rfl (fun v14 => ?_)
            refine z_iconst C (pc' := 64) dX5_append_63 kc_1 rfl ?_
            refine z_aald C (pc' := 65) (by decide) dX5_append_64 rfl (fun v15 => ?_)
            refine z_aload_n C (i := 0) (pc' := 66) dX5_append_65 rfl rfl rfl ?_
            refine z_getf C (pc' := 69) flRX5_23 dX5_append_66 rfl (fun v16 => ?_)
            refine z_iload_n C (i := 2) (pc' := 70) dX5_append_69 rfl rfl rfl ?_
            refine z_iast C (pc' := 71) dX5_append_70 rfl (fun u17 => ?_)
            refine z_aload_n C (i := 0) (pc' := 72) dX5_append_71 rfl rfl rfl ?_
            refine z_getfR C (pc' := 75) flRX5_13 dX5_append_72 rfl (fun v18 => ?_)
            refine z_iconst C (pc' := 76) dX5_append_75 kc_2 rfl ?_
            refine z_aald C (pc' := 77) (by decide) dX5_append_76 rfl (fun v19 => ?_)
            refine z_aload_n C (i := 0) (pc' := 78) dX5_append_77 rfl rfl rfl ?_
            refine z_getf C (pc' := 81) flRX5_23 dX5_append_78 rfl (fun v20 => ?_)
            refine z_iload_n C (i := 3) (pc' := 82) dX5_append_81 rfl rfl rfl ?_
            refine z_iast C (pc' := 83) dX5_append_82 rfl (fun u21 => ?_)
            refine z_aload_n C (i := 0) (pc' := 84) dX5_append_83 rfl rfl rfl ?_
            refine z_getfR C (pc' := 87) flRX5_13 dX5_append_84 rfl (fun v22 => ?_)
            refine z_iconst C (pc' := 88) dX5_append_87 kc_3 rfl ?_
            refine z_aald C (pc' := 89) (by decide) dX5_append_88 rfl (fun v23 => ?_)
            refine z_aload_n C (i := 0) (pc' := 90) dX5_append_89 rfl rfl rfl ?_
            refine z_getf C (pc' := 93) flRX5_23 dX5_append_90 rfl (fun v24 => ?_)
            refine z_iload C (pc' := 95) dX5_append_93 rfl rfl ?_
            refine z_iast C (pc' := 96) dX5_append_95 rfl (fun u25 => ?_)
            refine z_aload_n C (i := 0) (pc' := 97) dX5_append_96 rfl rfl rfl ?_
            refine z_dup C (pc' := 98) dX5_append_97 rfl rfl ?_
            refine z_getf C (pc' := 101) flRX5_23 dX5_append_98 rfl (fun v26 => ?_)
            refine z_iconst C (pc' := 102) dX5_append_101 kc_1 rfl ?_
            refine z_iadd C (pc' := 103) dX5_append_102 rfl ?_
            refine z_putf C (pc' := 106) flRX5_23 fn5_1 fb5_1 dX5_append_103 rfl (fun u27 => ?_)
            refine z_aload_n C (i := 0) (pc' := 107) dX5_append_106 rfl rfl rfl ?_
            refine z_getf C (pc' := 110) flRX5_23 dX5_append_107 rfl (fun v28 => ?_)
            refine z_iconst C (pc' := 111) dX5_append_110 kc_1 rfl ?_
            refine z_isub C (pc' := 112) dX5_append_111 rfl ?_
            exact z_ireturn C dX5_append_112
          ·
            refine z_bipush C (pc' := 46) dX5_append_44 kb_m3 rfl ?_
            exact z_ireturn C dX5_append_46
        ·
          refine z_iconst C (pc' := 34) dX5_append_33 kc_m1 rfl ?_
          exact z_ireturn C dX5_append_34
def fX8_init (x0 : Int) (u0 : zMem) : zRs := if 0 ≤ x0 then (znar 21 60 u0 (fun v1 u2 => zpf 8 0 x0 v1 u2 (fun u3 => zpf 8 1 x0 (-1) u3 (fun u4 => zpf 8 2 x0 (-1) u4 (fun u5 => some (0, u5)))))) else none
set_option maxRecDepth 100000 in
set_option maxHeartbeats 4000000 in
theorem rX8_init (l : Launch) (w : zW) (x0 : Int) (u0 : zMem) : zSpc l w 1 yX8_init cX8_init 1 none 0 [zR x0] u0 (fX8_init x0 u0) := by
  refine zSpc_of (own := RX8) pnRX8 rfl (Nat.le_of_ble_eq_true rfl) (fun G p e R s m args below meth c C hini => ?_)
  unfold fX8_init
  refine zlocs (lb := [(0, zR x0)]) ⟨rfl, trivial⟩ ?_
  refine z_aload_n C (i := 0) (pc' := 1) dX8_init_0 rfl rfl rfl ?_
  refine z_objinit C (pc' := 4) woRX8_1 woi woc dX8_init_1 rfl (by decide) (Nat.le_of_ble_eq_true rfl) ?_
  refine z_aload_n C (i := 0) (pc' := 5) dX8_init_4 rfl rfl rfl ?_
  refine z_bipush C (pc' := 7) dX8_init_5 kb_60 rfl ?_
  refine z_newarr C (kd := 21) (aty := .long) (pc' := 9) (by decide) rfl wy21 dX8_init_7 rfl (fun v1 u2 => ?_)
  refine z_putfRi C (pc' := 12) flRX8_9 hini rfl fb8_0 dX8_init_9 rfl (fun u3 => ?_)
  refine z_aload_n C (i := 0) (pc' := 13) dX8_init_12 rfl rfl rfl ?_
  refine z_iconst C (pc' := 14) dX8_init_13 kc_m1 rfl ?_
  refine z_putf C (pc' := 17) flRX8_13 fn8_1 fb8_1 dX8_init_14 rfl (fun u4 => ?_)
  refine z_aload_n C (i := 0) (pc' := 18) dX8_init_17 rfl rfl rfl ?_
  refine z_iconst C (pc' := 19) dX8_init_18 kc_m1 rfl ?_
  refine z_putf C (pc' := 22) flRX8_17 fn8_2 fb8_2 dX8_init_19 rfl (fun u5 => ?_)
  exact z_return C dX8_init_22
def fX8_isRowSort (x0 : Int) (u0 : zMem) : zRs := zjn (fun (u1 : zMem) => zbl 0 (some (0, u1))) (fun k2 => if x0 < 0 then (k2 u0) else (if x0 > 4 then (k2 u0) else (zbl 1 (some (1, u0)))))
set_option maxRecDepth 100000 in
set_option maxHeartbeats 4000000 in
theorem rX8_isRowSort (l : Launch) (w : zW) (x0 : Int) (u0 : zMem) : zSpc l w 1 yX8_isRowSort cX8_isRowSort 1 (some .boolean) 1 [zI x0] u0 (fX8_isRowSort x0 u0) := by
  refine zSpc_of (own := RX8) pnRX8 rfl (Nat.le_of_ble_eq_true rfl) (fun G p e R s m args below meth c C hini => ?_)
  unfold fX8_isRowSort
  refine zlocs (lb := [(0, zI x0)]) ⟨rfl, trivial⟩ ?_
  refine z_iload_n C (i := 0) (pc' := 1) dX8_isRowSort_0 rfl rfl rfl ?_
  refine zjoin (P := fun (f : zMem → zRs) => ∀ (u1 : zMem), zSim G p l e R s m args below meth c w 1 (znc u0) (zM w 1 (znc u0) below args s) 13 [] [] u1 (f u1)) (fun u1 => ?_) (fun k2 hk2 => ?_)
  ·
    refine z_iconst C (pc' := 14) dX8_isRowSort_13 kc_0 rfl ?_
    exact z_zreturn C dX8_isRowSort_14
  ·
    refine z_if_lt C (pc' := 13) (pf := 4) dX8_isRowSort_1 rfl rfl (fun _ => ?_) (fun _ => ?_)
    ·
      exact zlocs (lb := []) trivial (hk2 _)
    ·
      refine z_iload_n C (i := 0) (pc' := 5) dX8_isRowSort_4 rfl rfl rfl ?_
      refine z_iconst C (pc' := 6) dX8_isRowSort_5 kc_4 rfl ?_
      refine z_icmp_gt C (pc' := 13) (pf := 9) dX8_isRowSort_6 rfl rfl (fun _ => ?_) (fun _ => ?_)
      ·
        exact zlocs (lb := []) trivial (hk2 _)
      ·
        refine z_iconst C (pc' := 10) dX8_isRowSort_9 kc_1 rfl ?_
        refine z_goto C (pc' := 14) dX8_isRowSort_10 rfl ?_
        exact z_zreturn C dX8_isRowSort_14
def fX8_isBare (x0 : Int) (u0 : zMem) : zRs := zgf 8 1 x0 u0 (fun v1 => zjn (fun (u2 : zMem) => zbl 0 (some (0, u2))) (fun k3 => if v1 ≠ (-1) then (k3 u0) else (zgf 8 2 x0 u0 (fun v4 => if v4 ≠ (-1) then (k3 u0) else (zbl 1 (some (1, u0)))))))
set_option maxRecDepth 100000 in
set_option maxHeartbeats 4000000 in
theorem rX8_isBare (l : Launch) (w : zW) (x0 : Int) (u0 : zMem) : zSpc l w 1 yX8_isBare cX8_isBare 1 (some .boolean) 1 [zR x0] u0 (fX8_isBare x0 u0) := by
  refine zSpc_of (own := RX8) pnRX8 rfl (Nat.le_of_ble_eq_true rfl) (fun G p e R s m args below meth c C hini => ?_)
  unfold fX8_isBare
  refine zlocs (lb := [(0, zR x0)]) ⟨rfl, trivial⟩ ?_
  refine z_aload_n C (i := 0) (pc' := 1) dX8_isBare_0 rfl rfl rfl ?_
  refine z_getf C (pc' := 4) flRX8_13 dX8_isBare_1 rfl (fun v1 => ?_)
  refine z_iconst C (pc' := 5) dX8_isBare_4 kc_m1 rfl ?_
  refine zjoin (P := fun (f : zMem → zRs) => ∀ (u2 : zMem), zSim G p l e R s m args below meth c w 1 (znc u0) (zM w 1 (znc u0) below args s) 20 [] [] u2 (f u2)) (fun u2 => ?_) (fun k3 hk3 => ?_)
  ·
    refine z_iconst C (pc' := 21) dX8_isBare_20 kc_0 rfl ?_
    exact z_zreturn C dX8_isBare_21
  ·
    refine z_icmp_ne C (pc' := 20) (pf := 8) dX8_isBare_5 rfl rfl (fun _ => ?_) (fun _ => ?_)
    ·
      exact zlocs (lb := []) trivial (hk3 _)
    ·
      refine z_aload_n C (i := 0) (pc' := 9) dX8_isBare_8 rfl rfl rfl ?_
      refine z_getf C (pc' := 12) flRX8_17 dX8_isBare_9 rfl (fun v4 => ?_)
      refine z_iconst C (pc' := 13) dX8_isBare_12 kc_m1 rfl ?_
      refine z_icmp_ne C (pc' := 20) (pf := 16) dX8_isBare_13 rfl rfl (fun _ => ?_) (fun _ => ?_)
      ·
        exact zlocs (lb := []) trivial (hk3 _)
      ·
        refine z_iconst C (pc' := 17) dX8_isBare_16 kc_1 rfl ?_
        refine z_goto C (pc' := 21) dX8_isBare_17 rfl ?_
        exact z_zreturn C dX8_isBare_21
def fX8_holdsRow (x0 : Int) (u0 : zMem) : zRs := zgf 8 2 x0 u0 (fun v1 => if v1 = (-1) then (zbl 0 (some (0, u0))) else (zbl 1 (some (1, u0))))
set_option maxRecDepth 100000 in
set_option maxHeartbeats 4000000 in
theorem rX8_holdsRow (l : Launch) (w : zW) (x0 : Int) (u0 : zMem) : zSpc l w 1 yX8_holdsRow cX8_holdsRow 1 (some .boolean) 1 [zR x0] u0 (fX8_holdsRow x0 u0) := by
  refine zSpc_of (own := RX8) pnRX8 rfl (Nat.le_of_ble_eq_true rfl) (fun G p e R s m args below meth c C hini => ?_)
  unfold fX8_holdsRow
  refine zlocs (lb := [(0, zR x0)]) ⟨rfl, trivial⟩ ?_
  refine z_aload_n C (i := 0) (pc' := 1) dX8_holdsRow_0 rfl rfl rfl ?_
  refine z_getf C (pc' := 4) flRX8_17 dX8_holdsRow_1 rfl (fun v1 => ?_)
  refine z_iconst C (pc' := 5) dX8_holdsRow_4 kc_m1 rfl ?_
  refine z_icmp_eq C (pc' := 12) (pf := 8) dX8_holdsRow_5 rfl rfl (fun _ => ?_) (fun _ => ?_)
  ·
    refine z_iconst C (pc' := 13) dX8_holdsRow_12 kc_0 rfl ?_
    exact z_zreturn C dX8_holdsRow_13
  ·
    refine z_iconst C (pc' := 9) dX8_holdsRow_8 kc_1 rfl ?_
    refine z_goto C (pc' := 13) dX8_holdsRow_9 rfl ?_
    exact z_zreturn C dX8_holdsRow_13
def fX8_holdsBytes (x0 : Int) (u0 : zMem) : zRs := zgf 8 2 x0 u0 (fun v1 => if v1 ≠ 0 then (zbl 0 (some (0, u0))) else (zbl 1 (some (1, u0))))
set_option maxRecDepth 100000 in
set_option maxHeartbeats 4000000 in
theorem rX8_holdsBytes (l : Launch) (w : zW) (x0 : Int) (u0 : zMem) : zSpc l w 1 yX8_holdsBytes cX8_holdsBytes 1 (some .boolean) 1 [zR x0] u0 (fX8_holdsBytes x0 u0) := by
  refine zSpc_of (own := RX8) pnRX8 rfl (Nat.le_of_ble_eq_true rfl) (fun G p e R s m args below meth c C hini => ?_)
  unfold fX8_holdsBytes
  refine zlocs (lb := [(0, zR x0)]) ⟨rfl, trivial⟩ ?_
  refine z_aload_n C (i := 0) (pc' := 1) dX8_holdsBytes_0 rfl rfl rfl ?_
  refine z_getf C (pc' := 4) flRX8_17 dX8_holdsBytes_1 rfl (fun v1 => ?_)
  refine z_if_ne C (pc' := 11) (pf := 7) dX8_holdsBytes_4 rfl rfl (fun _ => ?_) (fun _ => ?_)
  ·
    refine z_iconst C (pc' := 12) dX8_holdsBytes_11 kc_0 rfl ?_
    exact z_zreturn C dX8_holdsBytes_12
  ·
    refine z_iconst C (pc' := 8) dX8_holdsBytes_7 kc_1 rfl ?_
    refine z_goto C (pc' := 12) dX8_holdsBytes_8 rfl ?_
    exact z_zreturn C dX8_holdsBytes_12
def fX8_heldBody (x0 : Int) (u0 : zMem) : zRs := zgf 8 1 x0 u0 (fun v1 => some (v1, u0))
set_option maxRecDepth 100000 in
set_option maxHeartbeats 4000000 in
theorem rX8_heldBody (l : Launch) (w : zW) (x0 : Int) (u0 : zMem) : zSpc l w 1 yX8_heldBody cX8_heldBody 1 (some .int) 1 [zR x0] u0 (fX8_heldBody x0 u0) := by
  refine zSpc_of (own := RX8) pnRX8 rfl (Nat.le_of_ble_eq_true rfl) (fun G p e R s m args below meth c C hini => ?_)
  unfold fX8_heldBody
  refine zlocs (lb := [(0, zR x0)]) ⟨rfl, trivial⟩ ?_
  refine z_aload_n C (i := 0) (pc' := 1) dX8_heldBody_0 rfl rfl rfl ?_
  refine z_getf C (pc' := 4) flRX8_13 dX8_heldBody_1 rfl (fun v1 => ?_)
  exact z_ireturn C dX8_heldBody_4
def fX8_sort (x0 : Int) (u0 : zMem) : zRs := zgf 8 2 x0 u0 (fun v1 => some (v1, u0))
set_option maxRecDepth 100000 in
set_option maxHeartbeats 4000000 in
theorem rX8_sort (l : Launch) (w : zW) (x0 : Int) (u0 : zMem) : zSpc l w 1 yX8_sort cX8_sort 1 (some .int) 1 [zR x0] u0 (fX8_sort x0 u0) := by
  refine zSpc_of (own := RX8) pnRX8 rfl (Nat.le_of_ble_eq_true rfl) (fun G p e R s m args below meth c C hini => ?_)
  unfold fX8_sort
  refine zlocs (lb := [(0, zR x0)]) ⟨rfl, trivial⟩ ?_
  refine z_aload_n C (i := 0) (pc' := 1) dX8_sort_0 rfl rfl rfl ?_
  refine z_getf C (pc' := 4) flRX8_17 dX8_sort_1 rfl (fun v1 => ?_)
  exact z_ireturn C dX8_sort_4
def fX8_length (x0 : Int) (u0 : zMem) : zRs := zgf 8 3 x0 u0 (fun v1 => some (v1, u0))
set_option maxRecDepth 100000 in
set_option maxHeartbeats 4000000 in
theorem rX8_length (l : Launch) (w : zW) (x0 : Int) (u0 : zMem) : zSpc l w 1 yX8_length cX8_length 1 (some .int) 1 [zR x0] u0 (fX8_length x0 u0) := by
  refine zSpc_of (own := RX8) pnRX8 rfl (Nat.le_of_ble_eq_true rfl) (fun G p e R s m args below meth c C hini => ?_)
  unfold fX8_length
  refine zlocs (lb := [(0, zR x0)]) ⟨rfl, trivial⟩ ?_
  refine z_aload_n C (i := 0) (pc' := 1) dX8_length_0 rfl rfl rfl ?_
  refine z_getf C (pc' := 4) flRX8_20 dX8_length_1 rfl (fun v1 => ?_)
  exact z_ireturn C dX8_length_4
def fX8_holdBody (x0 x1 : Int) (u0 : zMem) : zRs := zpf 8 1 x0 x1 u0 (fun u1 => zpf 8 2 x0 (-1) u1 (fun u2 => zpf 8 3 x0 0 u2 (fun u3 => some (0, u3))))
set_option maxRecDepth 100000 in
set_option maxHeartbeats 4000000 in
theorem rX8_holdBody (l : Launch) (w : zW) (x0 x1 : Int) (u0 : zMem) : zSpc l w 1 yX8_holdBody cX8_holdBody 2 none 0 [zR x0, zI x1] u0 (fX8_holdBody x0 x1 u0) := by
  refine zSpc_of (own := RX8) pnRX8 rfl (Nat.le_of_ble_eq_true rfl) (fun G p e R s m args below meth c C hini => ?_)
  unfold fX8_holdBody
  refine zlocs (lb := [(0, zR x0), (1, zI x1)]) ⟨rfl, rfl, trivial⟩ ?_
  refine z_aload_n C (i := 0) (pc' := 1) dX8_holdBody_0 rfl rfl rfl ?_
  refine z_iload_n C (i := 1) (pc' := 2) dX8_holdBody_1 rfl rfl rfl ?_
  refine z_putf C (pc' := 5) flRX8_13 fn8_1 fb8_1 dX8_holdBody_2 rfl (fun u1 => ?_)
  refine z_aload_n C (i := 0) (pc' := 6) dX8_holdBody_5 rfl rfl rfl ?_
  refine z_iconst C (pc' := 7) dX8_holdBody_6 kc_m1 rfl ?_
  refine z_putf C (pc' := 10) flRX8_17 fn8_2 fb8_2 dX8_holdBody_7 rfl (fun u2 => ?_)
  refine z_aload_n C (i := 0) (pc' := 11) dX8_holdBody_10 rfl rfl rfl ?_
  refine z_iconst C (pc' := 12) dX8_holdBody_11 kc_0 rfl ?_
  refine z_putf C (pc' := 15) flRX8_20 fn8_3 fb8_3 dX8_holdBody_12 rfl (fun u3 => ?_)
  exact z_return C dX8_holdBody_15
def fX8_holdRow (x0 x1 x2 : Int) (u0 : zMem) : zRs := zpf 8 1 x0 (-1) u0 (fun u1 => zpf 8 2 x0 x1 u1 (fun u2 => zpf 8 3 x0 (zmx 0 (zmi 60 x2)) u2 (fun u3 => zlp (fun _ _ => none) (fun k6 (v4 : Int) (u5 : zMem) => zgf 8 3 x0 u5 (fun v7 => if v4 ≥ v7 then (some (0, u5)) else (zgf 8 0 x0 u5 (fun v8 => zast 21 v8 v4 0 u5 (fun u9 => k6 (zw32 (v4 + 1)) u9))))) 1000000 0 u3)))
set_option maxRecDepth 100000 in
set_option maxHeartbeats 4000000 in
theorem rX8_holdRow (l : Launch) (w : zW) (x0 x1 x2 : Int) (u0 : zMem) : zSpc l w 1 yX8_holdRow cX8_holdRow 4 none 0 [zR x0, zI x1, zI x2] u0 (fX8_holdRow x0 x1 x2 u0) := by
  refine zSpc_of (own := RX8) pnRX8 rfl (Nat.le_of_ble_eq_true rfl) (fun G p e R s m args below meth c C hini => ?_)
  unfold fX8_holdRow
  refine zlocs (lb := [(0, zR x0), (1, zI x1), (2, zI x2)]) ⟨rfl, rfl, rfl, trivial⟩ ?_
  refine z_aload_n C (i := 0) (pc' := 1) dX8_holdRow_0 rfl rfl rfl ?_
  refine z_iconst C (pc' := 2) dX8_holdRow_1 kc_m1 rfl ?_
  refine z_putf C (pc' := 5) flRX8_13 fn8_1 fb8_1 dX8_holdRow_2 rfl (fun u1 => ?_)
  refine z_aload_n C (i := 0) (pc' := 6) dX8_holdRow_5 rfl rfl rfl ?_
  refine z_iload_n C (i := 1) (pc' := 7) dX8_holdRow_6 rfl rfl rfl ?_
  refine z_putf C (pc' := 10) flRX8_17 fn8_2 fb8_2 dX8_holdRow_7 rfl (fun u2 => ?_)
  refine z_aload_n C (i := 0) (pc' := 11) dX8_holdRow_10 rfl rfl rfl ?_
  refine z_iconst C (pc' := 12) dX8_holdRow_11 kc_0 rfl ?_
  refine z_bipush C (pc' := 14) dX8_holdRow_12 kb_60 rfl ?_
  refine z_iload_n C (i := 2) (pc' := 15) dX8_holdRow_14 rfl rfl rfl ?_
  refine z_mmin C (pc' := 18) wmRX8_23 wms_min wmi wmc_min dX8_holdRow_15 rfl (by decide) (Nat.le_of_ble_eq_true rfl) ?_
  refine z_mmax C (pc' := 21) wmRX8_29 wms_max wmi wmc_max dX8_holdRow_18 rfl (by decide) (Nat.le_of_ble_eq_true rfl) ?_
  refine z_putf C (pc' := 24) flRX8_20 fn8_3 fb8_3 dX8_holdRow_21 rfl (fun u3 => ?_)
  refine z_iconst C (pc' := 25) dX8_holdRow_24 kc_0 rfl ?_
  refine z_istore_n C (i := 3) (la' := [(3, zI 0), (0, zR x0), (1, zI x1), (2, zI x2)]) (pc' := 26) dX8_holdRow_25 rfl (by decide) rfl rfl ?_
  refine zlocs (lb := [(0, zR x0), (3, zI 0)]) ⟨rfl, rfl, trivial⟩ ?_
  refine zlp_ind (fun (f : Int → zMem → zRs) => ∀ (v4 : Int) (u5 : zMem), zSim G p l e R s m args below meth c w 4 (znc u0) (zM w 0 (znc u0) below args s) 26 [(0, zR x0), (3, zI v4)] [] u5 (f v4 u5)) (fun _ _ => znone) (fun k6 hk6 v4 u5 => ?_) _ _ _
  refine z_iload_n C (i := 3) (pc' := 27) dX8_holdRow_26 rfl rfl rfl ?_
  refine z_aload_n C (i := 0) (pc' := 28) dX8_holdRow_27 rfl rfl rfl ?_
  refine z_getf C (pc' := 31) flRX8_20 dX8_holdRow_28 rfl (fun v7 => ?_)
  refine z_icmp_ge C (pc' := 47) (pf := 34) dX8_holdRow_31 rfl rfl (fun _ => ?_) (fun _ => ?_)
  ·
    exact z_return C dX8_holdRow_47
  ·
    refine z_aload_n C (i := 0) (pc' := 35) dX8_holdRow_34 rfl rfl rfl ?_
    refine z_getfR C (pc' := 38) flRX8_9 dX8_holdRow_35 rfl (fun v8 => ?_)
    refine z_iload_n C (i := 3) (pc' := 39) dX8_holdRow_38 rfl rfl rfl ?_
    refine z_lconst C (pc' := 40) dX8_holdRow_39 kl_0 rfl ?_
    refine z_last C (pc' := 41) dX8_holdRow_40 rfl (fun u9 => ?_)
    refine z_iinc C (i := 3) (la' := [(3, zI (zw32 (v4 + 1))), (0, zR x0)]) (pc' := 44) dX8_holdRow_41 rfl (by decide) rfl rfl ?_
    refine z_goto C (pc' := 26) dX8_holdRow_44 rfl ?_
    exact zlocs (lb := [(0, zR x0), (3, zI (zw32 (v4 + 1)))]) ⟨rfl, rfl, trivial⟩ (hk6 _ _)
def fX8_hasRange (x0 x1 x2 : Int) (u0 : zMem) : zRs := zjn (fun (u1 : zMem) => zbl 0 (some (0, u1))) (fun k2 => if x1 < 0 then (k2 u0) else (if x2 < 0 then (k2 u0) else (zgf 8 3 x0 u0 (fun v3 => if (zcmp (zw64 (x1 + x2)) v3) > 0 then (k2 u0) else (zbl 1 (some (1, u0)))))))
set_option maxRecDepth 100000 in
set_option maxHeartbeats 4000000 in
theorem rX8_hasRange (l : Launch) (w : zW) (x0 x1 x2 : Int) (u0 : zMem) : zSpc l w 1 yX8_hasRange cX8_hasRange 3 (some .boolean) 1 [zR x0, zI x1, zI x2] u0 (fX8_hasRange x0 x1 x2 u0) := by
  refine zSpc_of (own := RX8) pnRX8 rfl (Nat.le_of_ble_eq_true rfl) (fun G p e R s m args below meth c C hini => ?_)
  unfold fX8_hasRange
  refine zlocs (lb := [(0, zR x0), (1, zI x1), (2, zI x2)]) ⟨rfl, rfl, rfl, trivial⟩ ?_
  refine z_iload_n C (i := 1) (pc' := 1) dX8_hasRange_0 rfl rfl rfl ?_
  refine zjoin (P := fun (f : zMem → zRs) => ∀ (u1 : zMem), zSim G p l e R s m args below meth c w 3 (znc u0) (zM w 1 (znc u0) below args s) 26 [] [] u1 (f u1)) (fun u1 => ?_) (fun k2 hk2 => ?_)
  ·
    refine z_iconst C (pc' := 27) dX8_hasRange_26 kc_0 rfl ?_
    exact z_zreturn C dX8_hasRange_27
  ·
    refine z_if_lt C (pc' := 26) (pf := 4) dX8_hasRange_1 rfl rfl (fun _ => ?_) (fun _ => ?_)
    ·
      exact zlocs (lb := []) trivial (hk2 _)
    ·
      refine z_iload_n C (i := 2) (pc' := 5) dX8_hasRange_4 rfl rfl rfl ?_
      refine z_if_lt C (pc' := 26) (pf := 8) dX8_hasRange_5 rfl rfl (fun _ => ?_) (fun _ => ?_)
      ·
        exact zlocs (lb := []) trivial (hk2 _)
      ·
        refine z_iload_n C (i := 1) (pc' := 9) dX8_hasRange_8 rfl rfl rfl ?_
        refine z_i2l C (pc' := 10) dX8_hasRange_9 rfl ?_
        refine z_iload_n C (i := 2) (pc' := 11) dX8_hasRange_10 rfl rfl rfl ?_
        refine z_i2l C (pc' := 12) dX8_hasRange_11 rfl ?_
        refine z_ladd C (pc' := 13) dX8_hasRange_12 rfl ?_
        refine z_aload_n C (i := 0) (pc' := 14) dX8_hasRange_13 rfl rfl rfl ?_
        refine z_getf C (pc' := 17) flRX8_20 dX8_hasRange_14 rfl (fun v3 => ?_)
        refine z_i2l C (pc' := 18) dX8_hasRange_17 rfl ?_
        refine z_lcmp C (pc' := 19) dX8_hasRange_18 rfl ?_
        refine z_if_gt C (pc' := 26) (pf := 22) dX8_hasRange_19 rfl rfl (fun _ => ?_) (fun _ => ?_)
        ·
          exact zlocs (lb := []) trivial (hk2 _)
        ·
          refine z_iconst C (pc' := 23) dX8_hasRange_22 kc_1 rfl ?_
          refine z_goto C (pc' := 27) dX8_hasRange_23 rfl ?_
          exact z_zreturn C dX8_hasRange_27
def fX8_at (x0 x1 : Int) (u0 : zMem) : zRs := zvc 8 x0 (fX8_hasRange x0 x1 1 u0) (fun v1 u2 => if v1 = 0 then (some (0, u2)) else (zgf 8 0 x0 u2 (fun v3 => zald 21 v3 x1 u2 (fun v4 => some (v4, u2)))))
set_option maxRecDepth 100000 in
set_option maxHeartbeats 4000000 in
theorem rX8_at (l : Launch) (w : zW) (x0 x1 : Int) (u0 : zMem) : zSpc l w 2 yX8_at cX8_at 2 (some .long) 2 [zR x0, zI x1] u0 (fX8_at x0 x1 u0) := by
  refine zSpc_of (own := RX8) pnRX8 rfl (Nat.le_of_ble_eq_true rfl) (fun G p e R s m args below meth c C hini => ?_)
  unfold fX8_at
  refine zlocs (lb := [(0, zR x0), (1, zI x1)]) ⟨rfl, rfl, trivial⟩ ?_
  refine z_aload_n C (i := 0) (pc' := 1) dX8_at_0 rfl rfl rfl ?_
  refine z_iload_n C (i := 1) (pc' := 2) dX8_at_1 rfl rfl rfl ?_
  refine z_iconst C (pc' := 3) dX8_at_2 kc_1 rfl ?_
  refine z_callV1 C (pc' := 6) lvRX8_32 lc_X8_hasRange rfl dX8_at_3 rfl (by decide) (rX8_hasRange l w x0 x1 1 u0) rfl (Nat.le_of_ble_eq_true rfl) (fun v1 u2 => ?_)
  refine z_if_eq C (pc' := 18) (pf := 9) dX8_at_6 rfl rfl (fun _ => ?_) (fun _ => ?_)
  ·
    refine z_lconst C (pc' := 19) dX8_at_18 kl_0 rfl ?_
    exact z_lreturn C dX8_at_19
  ·
    refine z_aload_n C (i := 0) (pc' := 10) dX8_at_9 rfl rfl rfl ?_
    refine z_getfR C (pc' := 13) flRX8_9 dX8_at_10 rfl (fun v3 => ?_)
    refine z_iload_n C (i := 1) (pc' := 14) dX8_at_13 rfl rfl rfl ?_
    refine z_lald C (pc' := 15) dX8_at_14 rfl (fun v4 => ?_)
    refine z_goto C (pc' := 19) dX8_at_15 rfl ?_
    exact z_lreturn C dX8_at_19
def fX8_lowest (x0 x1 : Int) (u0 : zMem) : zRs := zgf 8 2 x0 u0 (fun v1 => if v1 = 0 then (some ((zw8 (zw32 x1)), u0)) else (if v1 = 1 then (some ((zw16 (zw32 x1)), u0)) else (if v1 = 2 then (some ((zw32 x1), u0)) else (if v1 = 3 then (some (x1, u0)) else (if (zcmp x1 0) = 0 then (some (0, u0)) else (some (1, u0)))))))
set_option maxRecDepth 100000 in
set_option maxHeartbeats 4000000 in
theorem rX8_lowest (l : Launch) (w : zW) (x0 x1 : Int) (u0 : zMem) : zSpc l w 1 yX8_lowest cX8_lowest 3 (some .long) 2 [zR x0, zL x1] u0 (fX8_lowest x0 x1 u0) := by
  refine zSpc_of (own := RX8) pnRX8 rfl (Nat.le_of_ble_eq_true rfl) (fun G p e R s m args below meth c C hini => ?_)
  unfold fX8_lowest
  refine zlocs (lb := [(0, zR x0), (1, zL x1)]) ⟨rfl, rfl, trivial⟩ ?_
  refine z_aload_n C (i := 0) (pc' := 1) dX8_lowest_0 rfl rfl rfl ?_
  refine z_getf C (pc' := 4) flRX8_17 dX8_lowest_1 rfl (fun v1 => ?_)
  refine z_tcase C (pc' := 36) dX8_lowest_4 0 (by decide) (by decide) rfl rfl (fun _ => ?_) (fun h2 => ?_)
  ·
    refine z_lload_n C (i := 1) (pc' := 37) dX8_lowest_36 rfl rfl rfl ?_
    refine z_l2i C (pc' := 38) dX8_lowest_37 rfl ?_
    refine z_i2b C (pc' := 39) dX8_lowest_38 rfl ?_
    refine z_i2l C (pc' := 40) dX8_lowest_39 rfl ?_
    exact z_lreturn C dX8_lowest_40
  ·
    refine z_tcase C (pc' := 41) dX8_lowest_4 1 (by decide) (by decide) rfl rfl (fun _ => ?_) (fun h3 => ?_)
    ·
      refine z_lload_n C (i := 1) (pc' := 42) dX8_lowest_41 rfl rfl rfl ?_
      refine z_l2i C (pc' := 43) dX8_lowest_42 rfl ?_
      refine z_i2s C (pc' := 44) dX8_lowest_43 rfl ?_
      refine z_i2l C (pc' := 45) dX8_lowest_44 rfl ?_
      exact z_lreturn C dX8_lowest_45
    ·
      refine z_tcase C (pc' := 46) dX8_lowest_4 2 (by decide) (by decide) rfl rfl (fun _ => ?_) (fun h4 => ?_)
      ·
        refine z_lload_n C (i := 1) (pc' := 47) dX8_lowest_46 rfl rfl rfl ?_
        refine z_l2i C (pc' := 48) dX8_lowest_47 rfl ?_
        refine z_i2l C (pc' := 49) dX8_lowest_48 rfl ?_
        exact z_lreturn C dX8_lowest_49
      ·
        refine z_tcase C (pc' := 50) dX8_lowest_4 3 (by decide) (by decide) rfl rfl (fun _ => ?_) (fun h5 => ?_)
        ·
          refine z_lload_n C (i := 1) (pc' := 51) dX8_lowest_50 rfl rfl rfl ?_
          exact z_lreturn C dX8_lowest_51
        ·
          refine z_tdef C (pc' := 52) dX8_lowest_4 (by omega) rfl ?_
          refine z_lload_n C (i := 1) (pc' := 53) dX8_lowest_52 rfl rfl rfl ?_
          refine z_lconst C (pc' := 54) dX8_lowest_53 kl_0 rfl ?_
          refine z_lcmp C (pc' := 55) dX8_lowest_54 rfl ?_
          refine z_if_eq C (pc' := 62) (pf := 58) dX8_lowest_55 rfl rfl (fun _ => ?_) (fun _ => ?_)
          ·
            refine z_lconst C (pc' := 63) dX8_lowest_62 kl_0 rfl ?_
            exact z_lreturn C dX8_lowest_63
          ·
            refine z_lconst C (pc' := 59) dX8_lowest_58 kl_1 rfl ?_
            refine z_goto C (pc' := 63) dX8_lowest_59 rfl ?_
            exact z_lreturn C dX8_lowest_63
def fX8_set (x0 x1 x2 : Int) (u0 : zMem) : zRs := zvc 8 x0 (fX8_hasRange x0 x1 1 u0) (fun v1 u2 => if v1 = 0 then (some (0, u2)) else (zgf 8 0 x0 u2 (fun v3 => zvc 8 x0 (fX8_lowest x0 x2 u2) (fun v4 u5 => zast 21 v3 x1 v4 u5 (fun u6 => some (0, u6))))))
set_option maxRecDepth 100000 in
set_option maxHeartbeats 4000000 in
theorem rX8_set (l : Launch) (w : zW) (x0 x1 x2 : Int) (u0 : zMem) : zSpc l w 2 yX8_set cX8_set 4 none 0 [zR x0, zI x1, zL x2] u0 (fX8_set x0 x1 x2 u0) := by
  refine zSpc_of (own := RX8) pnRX8 rfl (Nat.le_of_ble_eq_true rfl) (fun G p e R s m args below meth c C hini => ?_)
  unfold fX8_set
  refine zlocs (lb := [(0, zR x0), (1, zI x1), (2, zL x2)]) ⟨rfl, rfl, rfl, trivial⟩ ?_
  refine z_aload_n C (i := 0) (pc' := 1) dX8_set_0 rfl rfl rfl ?_
  refine z_iload_n C (i := 1) (pc' := 2) dX8_set_1 rfl rfl rfl ?_
  refine z_iconst C (pc' := 3) dX8_set_2 kc_1 rfl ?_
  refine z_callV1 C (pc' := 6) lvRX8_32 lc_X8_hasRange rfl dX8_set_3 rfl (by decide) (rX8_hasRange l w x0 x1 1 u0) rfl (Nat.le_of_ble_eq_true rfl) (fun v1 u2 => ?_)
  refine z_if_eq C (pc' := 20) (pf := 9) dX8_set_6 rfl rfl (fun _ => ?_) (fun _ => ?_)
  ·
    exact z_return C dX8_set_20
  ·
    refine z_aload_n C (i := 0) (pc' := 10) dX8_set_9 rfl rfl rfl ?_
    refine z_getfR C (pc' := 13) flRX8_9 dX8_set_10 rfl (fun v3 => ?_)
    refine z_iload_n C (i := 1) (pc' := 14) dX8_set_13 rfl rfl rfl ?_
    refine z_aload_n C (i := 0) (pc' := 15) dX8_set_14 rfl rfl rfl ?_
    refine z_lload_n C (i := 2) (pc' := 16) dX8_set_15 rfl rfl rfl ?_
    refine z_callV2 C (pc' := 19) lvRX8_36 lc_X8_lowest rfl dX8_set_16 rfl (by decide) (rX8_lowest l w x0 x2 u2) rfl (Nat.le_of_ble_eq_true rfl) (fun v4 u5 => ?_)
    refine z_last C (pc' := 20) dX8_set_19 rfl (fun u6 => ?_)
    exact z_return C dX8_set_20
def fX8_copyTo (x0 x1 x2 x3 x4 : Int) (u0 : zMem) : zRs := zvc 8 x0 (fX8_hasRange x0 x1 x4 u0) (fun v1 u2 => if v1 = 0 then (some (0, u2)) else (zvc 8 x2 (fX8_hasRange x2 x3 x4 u2) (fun v3 u4 => if v3 = 0 then (some (0, u4)) else (zgf 8 0 x0 u4 (fun v5 => zgf 8 0 x2 u4 (fun v6 => zcopy 21 v5 x1 v6 x3 x4 u4 (fun u7 => some (0, u7))))))))
set_option maxRecDepth 100000 in
set_option maxHeartbeats 4000000 in
theorem rX8_copyTo (l : Launch) (w : zW) (x0 x1 x2 x3 x4 : Int) (u0 : zMem) : zSpc l w 2 yX8_copyTo cX8_copyTo 5 none 0 [zR x0, zI x1, zR x2, zI x3, zI x4] u0 (fX8_copyTo x0 x1 x2 x3 x4 u0) := by
  refine zSpc_of (own := RX8) pnRX8 rfl (Nat.le_of_ble_eq_true rfl) (fun G p e R s m args below meth c C hini => ?_)
  unfold fX8_copyTo
  refine zlocs (lb := [(0, zR x0), (1, zI x1), (2, zR x2), (3, zI x3), (4, zI x4)]) ⟨rfl, rfl, rfl, rfl, rfl, trivial⟩ ?_
  refine z_aload_n C (i := 0) (pc' := 1) dX8_copyTo_0 rfl rfl rfl ?_
  refine z_iload_n C (i := 1) (pc' := 2) dX8_copyTo_1 rfl rfl rfl ?_
  refine z_iload C (pc' := 4) dX8_copyTo_2 rfl rfl ?_
  refine z_callV1 C (pc' := 7) lvRX8_32 lc_X8_hasRange rfl dX8_copyTo_4 rfl (by decide) (rX8_hasRange l w x0 x1 x4 u0) rfl (Nat.le_of_ble_eq_true rfl) (fun v1 u2 => ?_)
  refine z_if_eq C (pc' := 35) (pf := 10) dX8_copyTo_7 rfl rfl (fun _ => ?_) (fun _ => ?_)
  ·
    exact z_return C dX8_copyTo_35
  ·
    refine z_aload_n C (i := 2) (pc' := 11) dX8_copyTo_10 rfl rfl rfl ?_
    refine z_iload_n C (i := 3) (pc' := 12) dX8_copyTo_11 rfl rfl rfl ?_
    refine z_iload C (pc' := 14) dX8_copyTo_12 rfl rfl ?_
    refine z_callV1 C (pc' := 17) lvRX8_32 lc_X8_hasRange rfl dX8_copyTo_14 rfl (by decide) (rX8_hasRange l w x2 x3 x4 u2) rfl (Nat.le_of_ble_eq_true rfl) (fun v3 u4 => ?_)
    refine z_if_eq C (pc' := 35) (pf := 20) dX8_copyTo_17 rfl rfl (fun _ => ?_) (fun _ => ?_)
    ·
      exact z_return C dX8_copyTo_35
    ·
      refine z_aload_n C (i := 0) (pc' := 21) dX8_copyTo_20 rfl rfl rfl ?_
      refine z_getfR C (pc' := 24) flRX8_9 dX8_copyTo_21 rfl (fun v5 => ?_)
      refine z_iload_n C (i := 1) (pc' := 25) dX8_copyTo_24 rfl rfl rfl ?_
      refine z_aload_n C (i := 2) (pc' := 26) dX8_copyTo_25 rfl rfl rfl ?_
      refine z_getfR C (pc' := 29) flRX8_9 dX8_copyTo_26 rfl (fun v6 => ?_)
      refine z_iload_n C (i := 3) (pc' := 30) dX8_copyTo_29 rfl rfl rfl ?_
      refine z_iload C (pc' := 32) dX8_copyTo_30 rfl rfl ?_
      refine z_copy C (kd := 21) (pc' := 35) (by decide) waRX8_40 wacn wacs wsys dX8_copyTo_32 rfl (by decide) (Nat.le_of_ble_eq_true rfl) (fun u7 => ?_)
      exact z_return C dX8_copyTo_35

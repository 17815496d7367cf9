theorem dX4_isSelf_0 : decode cX4_isSelf 0 = .ok (.iload_n 1, 1) := by decide +kernel
theorem dX4_isSelf_1 : decode cX4_isSelf 1 = .ok (.aload_n 0, 1) := by decide +kernel
theorem dX4_isSelf_2 : decode cX4_isSelf 2 = .ok (.getfield 23, 3) := by decide +kernel
theorem dX4_isSelf_5 : decode cX4_isSelf 5 = .ok (.if_icmp .ne 7, 3) := by decide +kernel
theorem dX4_isSelf_8 : decode cX4_isSelf 8 = .ok (.iconst 1, 1) := by decide +kernel
theorem dX4_isSelf_9 : decode cX4_isSelf 9 = .ok (.goto 4, 3) := by decide +kernel
theorem dX4_isSelf_12 : decode cX4_isSelf 12 = .ok (.iconst 0, 1) := by decide +kernel
theorem dX4_isSelf_13 : decode cX4_isSelf 13 = .ok (.ireturn, 1) := by decide +kernel
theorem dX4_size_0 : decode cX4_size 0 = .ok (.aload_n 0, 1) := by decide +kernel
theorem dX4_size_1 : decode cX4_size 1 = .ok (.getfield 19, 3) := by decide +kernel
theorem dX4_size_4 : decode cX4_size 4 = .ok (.ireturn, 1) := by decide +kernel
theorem dX4_codeAt_0 : decode cX4_codeAt 0 = .ok (.iload_n 1, 1) := by decide +kernel
theorem dX4_codeAt_1 : decode cX4_codeAt 1 = .ok (.ifCond .lt 20, 3) := by decide +kernel
theorem dX4_codeAt_4 : decode cX4_codeAt 4 = .ok (.iload_n 1, 1) := by decide +kernel
theorem dX4_codeAt_5 : decode cX4_codeAt 5 = .ok (.aload_n 0, 1) := by decide +kernel
theorem dX4_codeAt_6 : decode cX4_codeAt 6 = .ok (.getfield 19, 3) := by decide +kernel
theorem dX4_codeAt_9 : decode cX4_codeAt 9 = .ok (.if_icmp .ge 12, 3) := by decide +kernel
theorem dX4_codeAt_12 : decode cX4_codeAt 12 = .ok (.aload_n 0, 1) := by decide +kernel
theorem dX4_codeAt_13 : decode cX4_codeAt 13 = .ok (.getfield 9, 3) := by decide +kernel
theorem dX4_codeAt_16 : decode cX4_codeAt 16 = .ok (.iload_n 1, 1) := by decide +kernel
theorem dX4_codeAt_17 : decode cX4_codeAt 17 = .ok (.iaload, 1) := by decide +kernel
theorem dX4_codeAt_18 : decode cX4_codeAt 18 = .ok (.goto 4, 3) := by decide +kernel
theorem dX4_codeAt_21 : decode cX4_codeAt 21 = .ok (.iconst 0, 1) := by decide +kernel
theorem dX4_codeAt_22 : decode cX4_codeAt 22 = .ok (.ireturn, 1) := by decide +kernel
theorem dX9_nameOf_0 : decode cX9_nameOf 0 = .ok (.iload_n 0, 1) := by decide +kernel
theorem dX9_nameOf_1 : decode cX9_nameOf 1 = .ok (.tableswitch 93 105 119 #[83, 93, 77, 81, 85, 90, 79, 93, 93, 93, 87, 93, 93, 93, 75], 75) := by decide +kernel
theorem dX9_nameOf_76 : decode cX9_nameOf 76 = .ok (.iconst 0, 1) := by decide +kernel
theorem dX9_nameOf_77 : decode cX9_nameOf 77 = .ok (.ireturn, 1) := by decide +kernel
theorem dX9_nameOf_78 : decode cX9_nameOf 78 = .ok (.iconst 1, 1) := by decide +kernel
theorem dX9_nameOf_79 : decode cX9_nameOf 79 = .ok (.ireturn, 1) := by decide +kernel
theorem dX9_nameOf_80 : decode cX9_nameOf 80 = .ok (.iconst 2, 1) := by decide +kernel
theorem dX9_nameOf_81 : decode cX9_nameOf 81 = .ok (.ireturn, 1) := by decide +kernel
theorem dX9_nameOf_82 : decode cX9_nameOf 82 = .ok (.iconst 3, 1) := by decide +kernel
theorem dX9_nameOf_83 : decode cX9_nameOf 83 = .ok (.ireturn, 1) := by decide +kernel
theorem dX9_nameOf_84 : decode cX9_nameOf 84 = .ok (.iconst 4, 1) := by decide +kernel
theorem dX9_nameOf_85 : decode cX9_nameOf 85 = .ok (.ireturn, 1) := by decide +kernel
theorem dX9_nameOf_86 : decode cX9_nameOf 86 = .ok (.iconst 5, 1) := by decide +kernel
theorem dX9_nameOf_87 : decode cX9_nameOf 87 = .ok (.ireturn, 1) := by decide +kernel
theorem dX9_nameOf_88 : decode cX9_nameOf 88 = .ok (.bipush 6, 2) := by decide +kernel
theorem dX9_nameOf_90 : decode cX9_nameOf 90 = .ok (.ireturn, 1) := by decide +kernel
theorem dX9_nameOf_91 : decode cX9_nameOf 91 = .ok (.bipush 7, 2) := by decide +kernel
theorem dX9_nameOf_93 : decode cX9_nameOf 93 = .ok (.ireturn, 1) := by decide +kernel
theorem dX9_nameOf_94 : decode cX9_nameOf 94 = .ok (.iconst (-1), 1) := by decide +kernel
theorem dX9_nameOf_95 : decode cX9_nameOf 95 = .ok (.ireturn, 1) := by decide +kernel
theorem dX4_init_0 : decode cX4_init 0 = .ok (.aload_n 0, 1) := by decide +kernel
theorem dX4_init_1 : decode cX4_init 1 = .ok (.invokespecial 1, 3) := by decide +kernel
theorem dX4_init_4 : decode cX4_init 4 = .ok (.aload_n 0, 1) := by decide +kernel
theorem dX4_init_5 : decode cX4_init 5 = .ok (.bipush 121, 2) := by decide +kernel
theorem dX4_init_7 : decode cX4_init 7 = .ok (.newarray .int, 2) := by decide +kernel
theorem dX4_init_9 : decode cX4_init 9 = .ok (.putfield 9, 3) := by decide +kernel
theorem dX4_init_12 : decode cX4_init 12 = .ok (.return_, 1) := by decide +kernel
theorem dX9_copyCodes_0 : decode cX9_copyCodes 0 = .ok (.aload_n 0, 1) := by decide +kernel
theorem dX9_copyCodes_1 : decode cX9_copyCodes 1 = .ok (.getfield 20, 3) := by decide +kernel
theorem dX9_copyCodes_4 : decode cX9_copyCodes 4 = .ok (.aload_n 1, 1) := by decide +kernel
theorem dX9_copyCodes_5 : decode cX9_copyCodes 5 = .ok (.arraylength, 1) := by decide +kernel
theorem dX9_copyCodes_6 : decode cX9_copyCodes 6 = .ok (.invokestatic 23, 3) := by decide +kernel
theorem dX9_copyCodes_9 : decode cX9_copyCodes 9 = .ok (.istore_n 2, 1) := by decide +kernel
theorem dX9_copyCodes_10 : decode cX9_copyCodes 10 = .ok (.aload_n 0, 1) := by decide +kernel
theorem dX9_copyCodes_11 : decode cX9_copyCodes 11 = .ok (.getfield 13, 3) := by decide +kernel
theorem dX9_copyCodes_14 : decode cX9_copyCodes 14 = .ok (.iconst 0, 1) := by decide +kernel
theorem dX9_copyCodes_15 : decode cX9_copyCodes 15 = .ok (.aload_n 1, 1) := by decide +kernel
theorem dX9_copyCodes_16 : decode cX9_copyCodes 16 = .ok (.iconst 0, 1) := by decide +kernel
theorem dX9_copyCodes_17 : decode cX9_copyCodes 17 = .ok (.iload_n 2, 1) := by decide +kernel
theorem dX9_copyCodes_18 : decode cX9_copyCodes 18 = .ok (.invokestatic 29, 3) := by decide +kernel
theorem dX9_copyCodes_21 : decode cX9_copyCodes 21 = .ok (.iload_n 2, 1) := by decide +kernel
theorem dX9_copyCodes_22 : decode cX9_copyCodes 22 = .ok (.ireturn, 1) := by decide +kernel
theorem dX4_become_0 : decode cX4_become 0 = .ok (.aload_n 0, 1) := by decide +kernel
theorem dX4_become_1 : decode cX4_become 1 = .ok (.aload_n 1, 1) := by decide +kernel
theorem dX4_become_2 : decode cX4_become 2 = .ok (.aload_n 0, 1) := by decide +kernel
theorem dX4_become_3 : decode cX4_become 3 = .ok (.getfield 9, 3) := by decide +kernel
theorem dX4_become_6 : decode cX4_become 6 = .ok (.invokevirtual 15, 3) := by decide +kernel
theorem dX4_become_9 : decode cX4_become 9 = .ok (.putfield 19, 3) := by decide +kernel
theorem dX4_become_12 : decode cX4_become 12 = .ok (.aload_n 0, 1) := by decide +kernel
theorem dX4_become_13 : decode cX4_become 13 = .ok (.iload_n 2, 1) := by decide +kernel
theorem dX4_become_14 : decode cX4_become 14 = .ok (.putfield 23, 3) := by decide +kernel
theorem dX4_become_17 : decode cX4_become 17 = .ok (.aload_n 0, 1) := by decide +kernel
theorem dX4_become_18 : decode cX4_become 18 = .ok (.iload_n 3, 1) := by decide +kernel
theorem dX4_become_19 : decode cX4_become 19 = .ok (.putfield 26, 3) := by decide +kernel
theorem dX4_become_22 : decode cX4_become 22 = .ok (.return_, 1) := by decide +kernel
theorem dX4_has_0 : decode cX4_has 0 = .ok (.aload_n 0, 1) := by decide +kernel
theorem dX4_has_1 : decode cX4_has 1 = .ok (.getfield 26, 3) := by decide +kernel
theorem dX4_has_4 : decode cX4_has 4 = .ok (.iload_n 1, 1) := by decide +kernel
theorem dX4_has_5 : decode cX4_has 5 = .ok (.iand, 1) := by decide +kernel
theorem dX4_has_6 : decode cX4_has 6 = .ok (.ifCond .eq 7, 3) := by decide +kernel
theorem dX4_has_9 : decode cX4_has 9 = .ok (.iconst 1, 1) := by decide +kernel
theorem dX4_has_10 : decode cX4_has 10 = .ok (.goto 4, 3) := by decide +kernel
theorem dX4_has_13 : decode cX4_has 13 = .ok (.iconst 0, 1) := by decide +kernel
theorem dX4_has_14 : decode cX4_has 14 = .ok (.ireturn, 1) := by decide +kernel
theorem dX9_init_0 : decode cX9_init 0 = .ok (.aload_n 0, 1) := by decide +kernel
theorem dX9_init_1 : decode cX9_init 1 = .ok (.invokespecial 3, 3) := by decide +kernel
theorem dX9_init_4 : decode cX9_init 4 = .ok (.aload_n 0, 1) := by decide +kernel
theorem dX9_init_5 : decode cX9_init 5 = .ok (.bipush 120, 2) := by decide +kernel
theorem dX9_init_7 : decode cX9_init 7 = .ok (.newarray .int, 2) := by decide +kernel
theorem dX9_init_9 : decode cX9_init 9 = .ok (.putfield 9, 3) := by decide +kernel
theorem dX9_init_12 : decode cX9_init 12 = .ok (.aload_n 0, 1) := by decide +kernel
theorem dX9_init_13 : decode cX9_init 13 = .ok (.bipush 121, 2) := by decide +kernel
theorem dX9_init_15 : decode cX9_init 15 = .ok (.newarray .int, 2) := by decide +kernel
theorem dX9_init_17 : decode cX9_init 17 = .ok (.putfield 13, 3) := by decide +kernel
theorem dX9_init_20 : decode cX9_init 20 = .ok (.return_, 1) := by decide +kernel
theorem dX9_length_0 : decode cX9_length 0 = .ok (.aload_n 0, 1) := by decide +kernel
theorem dX9_length_1 : decode cX9_length 1 = .ok (.getfield 16, 3) := by decide +kernel
theorem dX9_length_4 : decode cX9_length 4 = .ok (.ireturn, 1) := by decide +kernel
theorem dX9_append_0 : decode cX9_append 0 = .ok (.aload_n 0, 1) := by decide +kernel
theorem dX9_append_1 : decode cX9_append 1 = .ok (.getfield 16, 3) := by decide +kernel
theorem dX9_append_4 : decode cX9_append 4 = .ok (.bipush 120, 2) := by decide +kernel
theorem dX9_append_6 : decode cX9_append 6 = .ok (.if_icmp .lt 5, 3) := by decide +kernel
theorem dX9_append_9 : decode cX9_append 9 = .ok (.iconst 0, 1) := by decide +kernel
theorem dX9_append_10 : decode cX9_append 10 = .ok (.ireturn, 1) := by decide +kernel
theorem dX9_append_11 : decode cX9_append 11 = .ok (.aload_n 0, 1) := by decide +kernel
theorem dX9_append_12 : decode cX9_append 12 = .ok (.getfield 9, 3) := by decide +kernel
theorem dX9_append_15 : decode cX9_append 15 = .ok (.aload_n 0, 1) := by decide +kernel
theorem dX9_append_16 : decode cX9_append 16 = .ok (.getfield 16, 3) := by decide +kernel
theorem dX9_append_19 : decode cX9_append 19 = .ok (.iload_n 1, 1) := by decide +kernel
theorem dX9_append_20 : decode cX9_append 20 = .ok (.iastore, 1) := by decide +kernel
theorem dX9_append_21 : decode cX9_append 21 = .ok (.aload_n 0, 1) := by decide +kernel
theorem dX9_append_22 : decode cX9_append 22 = .ok (.dup, 1) := by decide +kernel
theorem dX9_append_23 : decode cX9_append 23 = .ok (.getfield 16, 3) := by decide +kernel
theorem dX9_append_26 : decode cX9_append 26 = .ok (.iconst 1, 1) := by decide +kernel
theorem dX9_append_27 : decode cX9_append 27 = .ok (.iadd, 1) := by decide +kernel
theorem dX9_append_28 : decode cX9_append 28 = .ok (.putfield 16, 3) := by decide +kernel
theorem dX9_append_31 : decode cX9_append 31 = .ok (.iconst 1, 1) := by decide +kernel
theorem dX9_append_32 : decode cX9_append 32 = .ok (.ireturn, 1) := by decide +kernel
theorem dX9_clear_0 : decode cX9_clear 0 = .ok (.aload_n 0, 1) := by decide +kernel
theorem dX9_clear_1 : decode cX9_clear 1 = .ok (.iconst 0, 1) := by decide +kernel
theorem dX9_clear_2 : decode cX9_clear 2 = .ok (.putfield 16, 3) := by decide +kernel
theorem dX9_clear_5 : decode cX9_clear 5 = .ok (.return_, 1) := by decide +kernel
theorem dX9_sign_0 : decode cX9_sign 0 = .ok (.aload_n 0, 1) := by decide +kernel
theorem dX9_sign_1 : decode cX9_sign 1 = .ok (.getfield 38, 3) := by decide +kernel
theorem dX9_sign_4 : decode cX9_sign 4 = .ok (.ifCond .ge 26, 3) := by decide +kernel
theorem dX9_sign_7 : decode cX9_sign 7 = .ok (.aload_n 0, 1) := by decide +kernel
theorem dX9_sign_8 : decode cX9_sign 8 = .ok (.getfield 35, 3) := by decide +kernel
theorem dX9_sign_11 : decode cX9_sign 11 = .ok (.aload_n 0, 1) := by decide +kernel
theorem dX9_sign_12 : decode cX9_sign 12 = .ok (.getfield 16, 3) := by decide +kernel
theorem dX9_sign_15 : decode cX9_sign 15 = .ok (.if_icmp .ge 15, 3) := by decide +kernel
theorem dX9_sign_18 : decode cX9_sign 18 = .ok (.aload_n 0, 1) := by decide +kernel
theorem dX9_sign_19 : decode cX9_sign 19 = .ok (.getfield 9, 3) := by decide +kernel
theorem dX9_sign_22 : decode cX9_sign 22 = .ok (.aload_n 0, 1) := by decide +kernel
theorem dX9_sign_23 : decode cX9_sign 23 = .ok (.getfield 35, 3) := by decide +kernel
theorem dX9_sign_26 : decode cX9_sign 26 = .ok (.iaload, 1) := by decide +kernel
theorem dX9_sign_27 : decode cX9_sign 27 = .ok (.goto 4, 3) := by decide +kernel
theorem dX9_sign_30 : decode cX9_sign 30 = .ok (.iconst (-1), 1) := by decide +kernel
theorem dX9_sign_31 : decode cX9_sign 31 = .ok (.ireturn, 1) := by decide +kernel
theorem dX9_isDigit_0 : decode cX9_isDigit 0 = .ok (.iload_n 0, 1) := by decide +kernel
theorem dX9_isDigit_1 : decode cX9_isDigit 1 = .ok (.bipush 48, 2) := by decide +kernel
theorem dX9_isDigit_3 : decode cX9_isDigit 3 = .ok (.if_icmp .lt 13, 3) := by decide +kernel
theorem dX9_isDigit_6 : decode cX9_isDigit 6 = .ok (.iload_n 0, 1) := by decide +kernel
theorem dX9_isDigit_7 : decode cX9_isDigit 7 = .ok (.bipush 57, 2) := by decide +kernel
theorem dX9_isDigit_9 : decode cX9_isDigit 9 = .ok (.if_icmp .gt 7, 3) := by decide +kernel
theorem dX9_isDigit_12 : decode cX9_isDigit 12 = .ok (.iconst 1, 1) := by decide +kernel
theorem dX9_isDigit_13 : decode cX9_isDigit 13 = .ok (.goto 4, 3) := by decide +kernel
theorem dX9_isDigit_16 : decode cX9_isDigit 16 = .ok (.iconst 0, 1) := by decide +kernel
theorem dX9_isDigit_17 : decode cX9_isDigit 17 = .ok (.ireturn, 1) := by decide +kernel
theorem dX9_code_0 : decode cX9_code 0 = .ok (.aload_n 0, 1) := by decide +kernel
theorem dX9_code_1 : decode cX9_code 1 = .ok (.getfield 20, 3) := by decide +kernel
theorem dX9_code_4 : decode cX9_code 4 = .ok (.bipush 121, 2) := by decide +kernel
theorem dX9_code_6 : decode cX9_code 6 = .ok (.if_icmp .ge 23, 3) := by decide +kernel
theorem dX9_code_9 : decode cX9_code 9 = .ok (.aload_n 0, 1) := by decide +kernel
theorem dX9_code_10 : decode cX9_code 10 = .ok (.getfield 13, 3) := by decide +kernel
theorem dX9_code_13 : decode cX9_code 13 = .ok (.aload_n 0, 1) := by decide +kernel
theorem dX9_code_14 : decode cX9_code 14 = .ok (.getfield 20, 3) := by decide +kernel
theorem dX9_code_17 : decode cX9_code 17 = .ok (.iload_n 1, 1) := by decide +kernel
theorem dX9_code_18 : decode cX9_code 18 = .ok (.iastore, 1) := by decide +kernel
theorem dX9_code_19 : decode cX9_code 19 = .ok (.aload_n 0, 1) := by decide +kernel
theorem dX9_code_20 : decode cX9_code 20 = .ok (.dup, 1) := by decide +kernel
theorem dX9_code_21 : decode cX9_code 21 = .ok (.getfield 20, 3) := by decide +kernel
theorem dX9_code_24 : decode cX9_code 24 = .ok (.iconst 1, 1) := by decide +kernel
theorem dX9_code_25 : decode cX9_code 25 = .ok (.iadd, 1) := by decide +kernel
theorem dX9_code_26 : decode cX9_code 26 = .ok (.putfield 20, 3) := by decide +kernel
theorem dX9_code_29 : decode cX9_code 29 = .ok (.return_, 1) := by decide +kernel
theorem dX9_number_0 : decode cX9_number 0 = .ok (.iconst 0, 1) := by decide +kernel
theorem dX9_number_1 : decode cX9_number 1 = .ok (.istore_n 1, 1) := by decide +kernel
theorem dX9_number_2 : decode cX9_number 2 = .ok (.iconst 0, 1) := by decide +kernel
theorem dX9_number_3 : decode cX9_number 3 = .ok (.istore_n 2, 1) := by decide +kernel
theorem dX9_number_4 : decode cX9_number 4 = .ok (.iload_n 2, 1) := by decide +kernel
theorem dX9_number_5 : decode cX9_number 5 = .ok (.iconst 4, 1) := by decide +kernel
theorem dX9_number_6 : decode cX9_number 6 = .ok (.if_icmp .ge 42, 3) := by decide +kernel
theorem dX9_number_9 : decode cX9_number 9 = .ok (.aload_n 0, 1) := by decide +kernel
theorem dX9_number_10 : decode cX9_number 10 = .ok (.invokevirtual 77, 3) := by decide +kernel
theorem dX9_number_13 : decode cX9_number 13 = .ok (.invokestatic 81, 3) := by decide +kernel
theorem dX9_number_16 : decode cX9_number 16 = .ok (.ifCond .eq 32, 3) := by decide +kernel
theorem dX9_number_19 : decode cX9_number 19 = .ok (.iload_n 1, 1) := by decide +kernel
theorem dX9_number_20 : decode cX9_number 20 = .ok (.bipush 10, 2) := by decide +kernel
theorem dX9_number_22 : decode cX9_number 22 = .ok (.imul, 1) := by decide +kernel
theorem dX9_number_23 : decode cX9_number 23 = .ok (.aload_n 0, 1) := by decide +kernel
theorem dX9_number_24 : decode cX9_number 24 = .ok (.invokevirtual 77, 3) := by decide +kernel
theorem dX9_number_27 : decode cX9_number 27 = .ok (.iadd, 1) := by decide +kernel
theorem dX9_number_28 : decode cX9_number 28 = .ok (.bipush 48, 2) := by decide +kernel
theorem dX9_number_30 : decode cX9_number 30 = .ok (.isub, 1) := by decide +kernel
theorem dX9_number_31 : decode cX9_number 31 = .ok (.istore_n 1, 1) := by decide +kernel
theorem dX9_number_32 : decode cX9_number 32 = .ok (.aload_n 0, 1) := by decide +kernel
theorem dX9_number_33 : decode cX9_number 33 = .ok (.dup, 1) := by decide +kernel
theorem dX9_number_34 : decode cX9_number 34 = .ok (.getfield 35, 3) := by decide +kernel
theorem dX9_number_37 : decode cX9_number 37 = .ok (.iconst 1, 1) := by decide +kernel
theorem dX9_number_38 : decode cX9_number 38 = .ok (.iadd, 1) := by decide +kernel
theorem dX9_number_39 : decode cX9_number 39 = .ok (.putfield 35, 3) := by decide +kernel
theorem dX9_number_42 : decode cX9_number 42 = .ok (.iinc 2 1, 3) := by decide +kernel
theorem dX9_number_45 : decode cX9_number 45 = .ok (.goto (-41), 3) := by decide +kernel
theorem dX9_number_48 : decode cX9_number 48 = .ok (.aload_n 0, 1) := by decide +kernel
theorem dX9_number_49 : decode cX9_number 49 = .ok (.iload_n 1, 1) := by decide +kernel
theorem dX9_number_50 : decode cX9_number 50 = .ok (.invokevirtual 91, 3) := by decide +kernel
theorem dX9_number_53 : decode cX9_number 53 = .ok (.return_, 1) := by decide +kernel
theorem dX9_emit_0 : decode cX9_emit 0 = .ok (.aload_n 0, 1) := by decide +kernel
theorem dX9_emit_1 : decode cX9_emit 1 = .ok (.sipush 10000, 3) := by decide +kernel
theorem dX9_emit_4 : decode cX9_emit 4 = .ok (.iload_n 1, 1) := by decide +kernel
theorem dX9_emit_5 : decode cX9_emit 5 = .ok (.iadd, 1) := by decide +kernel
theorem dX9_emit_6 : decode cX9_emit 6 = .ok (.invokevirtual 91, 3) := by decide +kernel
theorem dX9_emit_9 : decode cX9_emit 9 = .ok (.return_, 1) := by decide +kernel
theorem dX9_passes_0 : decode cX9_passes 0 = .ok (.aload_n 0, 1) := by decide +kernel
theorem dX9_passes_1 : decode cX9_passes 1 = .ok (.invokevirtual 77, 3) := by decide +kernel
theorem dX9_passes_4 : decode cX9_passes 4 = .ok (.iload_n 1, 1) := by decide +kernel
theorem dX9_passes_5 : decode cX9_passes 5 = .ok (.if_icmp .eq 5, 3) := by decide +kernel
theorem dX9_passes_8 : decode cX9_passes 8 = .ok (.iconst 0, 1) := by decide +kernel
theorem dX9_passes_9 : decode cX9_passes 9 = .ok (.ireturn, 1) := by decide +kernel
theorem dX9_passes_10 : decode cX9_passes 10 = .ok (.aload_n 0, 1) := by decide +kernel
theorem dX9_passes_11 : decode cX9_passes 11 = .ok (.dup, 1) := by decide +kernel
theorem dX9_passes_12 : decode cX9_passes 12 = .ok (.getfield 35, 3) := by decide +kernel
theorem dX9_passes_15 : decode cX9_passes 15 = .ok (.iconst 1, 1) := by decide +kernel
theorem dX9_passes_16 : decode cX9_passes 16 = .ok (.iadd, 1) := by decide +kernel
theorem dX9_passes_17 : decode cX9_passes 17 = .ok (.putfield 35, 3) := by decide +kernel
theorem dX9_passes_20 : decode cX9_passes 20 = .ok (.iconst 1, 1) := by decide +kernel
theorem dX9_passes_21 : decode cX9_passes 21 = .ok (.ireturn, 1) := by decide +kernel
theorem dX9_fail_0 : decode cX9_fail 0 = .ok (.aload_n 0, 1) := by decide +kernel
theorem dX9_fail_1 : decode cX9_fail 1 = .ok (.getfield 38, 3) := by decide +kernel
theorem dX9_fail_4 : decode cX9_fail 4 = .ok (.ifCond .ge 11, 3) := by decide +kernel
theorem dX9_fail_7 : decode cX9_fail 7 = .ok (.aload_n 0, 1) := by decide +kernel
theorem dX9_fail_8 : decode cX9_fail 8 = .ok (.aload_n 0, 1) := by decide +kernel
theorem dX9_fail_9 : decode cX9_fail 9 = .ok (.getfield 35, 3) := by decide +kernel
theorem dX9_fail_12 : decode cX9_fail 12 = .ok (.putfield 38, 3) := by decide +kernel
theorem dX9_fail_15 : decode cX9_fail 15 = .ok (.return_, 1) := by decide +kernel
theorem dX9_passesOneOf_0 : decode cX9_passesOneOf 0 = .ok (.aload_n 0, 1) := by decide +kernel
theorem dX9_passesOneOf_1 : decode cX9_passesOneOf 1 = .ok (.invokevirtual 77, 3) := by decide +kernel
theorem dX9_passesOneOf_4 : decode cX9_passesOneOf 4 = .ok (.istore 4, 2) := by decide +kernel
theorem dX9_passesOneOf_6 : decode cX9_passesOneOf 6 = .ok (.iload 4, 2) := by decide +kernel
theorem dX9_passesOneOf_8 : decode cX9_passesOneOf 8 = .ok (.ifCond .lt 35, 3) := by decide +kernel
theorem dX9_passesOneOf_11 : decode cX9_passesOneOf 11 = .ok (.iload 4, 2) := by decide +kernel
theorem dX9_passesOneOf_13 : decode cX9_passesOneOf 13 = .ok (.iload_n 1, 1) := by decide +kernel
theorem dX9_passesOneOf_14 : decode cX9_passesOneOf 14 = .ok (.if_icmp .eq 15, 3) := by decide +kernel
theorem dX9_passesOneOf_17 : decode cX9_passesOneOf 17 = .ok (.iload 4, 2) := by decide +kernel
theorem dX9_passesOneOf_19 : decode cX9_passesOneOf 19 = .ok (.iload_n 2, 1) := by decide +kernel
theorem dX9_passesOneOf_20 : decode cX9_passesOneOf 20 = .ok (.if_icmp .eq 9, 3) := by decide +kernel
theorem dX9_passesOneOf_23 : decode cX9_passesOneOf 23 = .ok (.iload 4, 2) := by decide +kernel
theorem dX9_passesOneOf_25 : decode cX9_passesOneOf 25 = .ok (.iload_n 3, 1) := by decide +kernel
theorem dX9_passesOneOf_26 : decode cX9_passesOneOf 26 = .ok (.if_icmp .ne 17, 3) := by decide +kernel
theorem dX9_passesOneOf_29 : decode cX9_passesOneOf 29 = .ok (.aload_n 0, 1) := by decide +kernel
theorem dX9_passesOneOf_30 : decode cX9_passesOneOf 30 = .ok (.iload 4, 2) := by decide +kernel
theorem dX9_passesOneOf_32 : decode cX9_passesOneOf 32 = .ok (.invokevirtual 44, 3) := by decide +kernel
theorem dX9_passesOneOf_35 : decode cX9_passesOneOf 35 = .ok (.ifCond .eq 8, 3) := by decide +kernel
theorem dX9_passesOneOf_38 : decode cX9_passesOneOf 38 = .ok (.iload 4, 2) := by decide +kernel
theorem dX9_passesOneOf_40 : decode cX9_passesOneOf 40 = .ok (.goto 4, 3) := by decide +kernel
theorem dX9_passesOneOf_43 : decode cX9_passesOneOf 43 = .ok (.iconst (-1), 1) := by decide +kernel
theorem dX9_passesOneOf_44 : decode cX9_passesOneOf 44 = .ok (.ireturn, 1) := by decide +kernel
theorem dX9_either_0 : decode cX9_either 0 = .ok (.aload_n 0, 1) := by decide +kernel
theorem dX9_either_1 : decode cX9_either 1 = .ok (.iload_n 1, 1) := by decide +kernel
theorem dX9_either_2 : decode cX9_either 2 = .ok (.invokevirtual 58, 3) := by decide +kernel
theorem dX9_either_5 : decode cX9_either 5 = .ok (.iconst 0, 1) := by decide +kernel
theorem dX9_either_6 : decode cX9_either 6 = .ok (.istore_n 2, 1) := by decide +kernel
theorem dX9_either_7 : decode cX9_either 7 = .ok (.iload_n 2, 1) := by decide +kernel
theorem dX9_either_8 : decode cX9_either 8 = .ok (.bipush 120, 2) := by decide +kernel
theorem dX9_either_10 : decode cX9_either 10 = .ok (.if_icmp .ge 29, 3) := by decide +kernel
theorem dX9_either_13 : decode cX9_either 13 = .ok (.aload_n 0, 1) := by decide +kernel
theorem dX9_either_14 : decode cX9_either 14 = .ok (.bipush 124, 2) := by decide +kernel
theorem dX9_either_16 : decode cX9_either 16 = .ok (.invokevirtual 44, 3) := by decide +kernel
theorem dX9_either_19 : decode cX9_either 19 = .ok (.ifCond .eq 20, 3) := by decide +kernel
theorem dX9_either_22 : decode cX9_either 22 = .ok (.aload_n 0, 1) := by decide +kernel
theorem dX9_either_23 : decode cX9_either 23 = .ok (.iload_n 1, 1) := by decide +kernel
theorem dX9_either_24 : decode cX9_either 24 = .ok (.invokevirtual 58, 3) := by decide +kernel
theorem dX9_either_27 : decode cX9_either 27 = .ok (.aload_n 0, 1) := by decide +kernel
theorem dX9_either_28 : decode cX9_either 28 = .ok (.bipush 124, 2) := by decide +kernel
theorem dX9_either_30 : decode cX9_either 30 = .ok (.invokevirtual 55, 3) := by decide +kernel
theorem dX9_either_33 : decode cX9_either 33 = .ok (.iinc 2 1, 3) := by decide +kernel
theorem dX9_either_36 : decode cX9_either 36 = .ok (.goto (-29), 3) := by decide +kernel
theorem dX9_either_39 : decode cX9_either 39 = .ok (.return_, 1) := by decide +kernel
theorem dX9_both_0 : decode cX9_both 0 = .ok (.aload_n 0, 1) := by decide +kernel
theorem dX9_both_1 : decode cX9_both 1 = .ok (.iload_n 1, 1) := by decide +kernel
theorem dX9_both_2 : decode cX9_both 2 = .ok (.invokevirtual 61, 3) := by decide +kernel
theorem dX9_both_5 : decode cX9_both 5 = .ok (.iconst 0, 1) := by decide +kernel
theorem dX9_both_6 : decode cX9_both 6 = .ok (.istore_n 2, 1) := by decide +kernel
theorem dX9_both_7 : decode cX9_both 7 = .ok (.iload_n 2, 1) := by decide +kernel
theorem dX9_both_8 : decode cX9_both 8 = .ok (.bipush 120, 2) := by decide +kernel
theorem dX9_both_10 : decode cX9_both 10 = .ok (.if_icmp .ge 29, 3) := by decide +kernel
theorem dX9_both_13 : decode cX9_both 13 = .ok (.aload_n 0, 1) := by decide +kernel
theorem dX9_both_14 : decode cX9_both 14 = .ok (.bipush 38, 2) := by decide +kernel
theorem dX9_both_16 : decode cX9_both 16 = .ok (.invokevirtual 44, 3) := by decide +kernel
theorem dX9_both_19 : decode cX9_both 19 = .ok (.ifCond .eq 20, 3) := by decide +kernel
theorem dX9_both_22 : decode cX9_both 22 = .ok (.aload_n 0, 1) := by decide +kernel
theorem dX9_both_23 : decode cX9_both 23 = .ok (.iload_n 1, 1) := by decide +kernel
theorem dX9_both_24 : decode cX9_both 24 = .ok (.invokevirtual 61, 3) := by decide +kernel
theorem dX9_both_27 : decode cX9_both 27 = .ok (.aload_n 0, 1) := by decide +kernel
theorem dX9_both_28 : decode cX9_both 28 = .ok (.bipush 38, 2) := by decide +kernel
theorem dX9_both_30 : decode cX9_both 30 = .ok (.invokevirtual 55, 3) := by decide +kernel
theorem dX9_both_33 : decode cX9_both 33 = .ok (.iinc 2 1, 3) := by decide +kernel
theorem dX9_both_36 : decode cX9_both 36 = .ok (.goto (-29), 3) := by decide +kernel
theorem dX9_both_39 : decode cX9_both 39 = .ok (.return_, 1) := by decide +kernel
theorem dX9_compared_0 : decode cX9_compared 0 = .ok (.aload_n 0, 1) := by decide +kernel
theorem dX9_compared_1 : decode cX9_compared 1 = .ok (.iload_n 1, 1) := by decide +kernel
theorem dX9_compared_2 : decode cX9_compared 2 = .ok (.invokevirtual 64, 3) := by decide +kernel
theorem dX9_compared_5 : decode cX9_compared 5 = .ok (.aload_n 0, 1) := by decide +kernel
theorem dX9_compared_6 : decode cX9_compared 6 = .ok (.bipush 60, 2) := by decide +kernel
theorem dX9_compared_8 : decode cX9_compared 8 = .ok (.bipush 61, 2) := by decide +kernel
theorem dX9_compared_10 : decode cX9_compared 10 = .ok (.bipush 62, 2) := by decide +kernel
theorem dX9_compared_12 : decode cX9_compared 12 = .ok (.invokevirtual 67, 3) := by decide +kernel
theorem dX9_compared_15 : decode cX9_compared 15 = .ok (.istore_n 2, 1) := by decide +kernel
theorem dX9_compared_16 : decode cX9_compared 16 = .ok (.iload_n 2, 1) := by decide +kernel
theorem dX9_compared_17 : decode cX9_compared 17 = .ok (.ifCond .lt 13, 3) := by decide +kernel
theorem dX9_compared_20 : decode cX9_compared 20 = .ok (.aload_n 0, 1) := by decide +kernel
theorem dX9_compared_21 : decode cX9_compared 21 = .ok (.iload_n 1, 1) := by decide +kernel
theorem dX9_compared_22 : decode cX9_compared 22 = .ok (.invokevirtual 64, 3) := by decide +kernel
theorem dX9_compared_25 : decode cX9_compared 25 = .ok (.aload_n 0, 1) := by decide +kernel
theorem dX9_compared_26 : decode cX9_compared 26 = .ok (.iload_n 2, 1) := by decide +kernel
theorem dX9_compared_27 : decode cX9_compared 27 = .ok (.invokevirtual 55, 3) := by decide +kernel
theorem dX9_compared_30 : decode cX9_compared 30 = .ok (.return_, 1) := by decide +kernel
theorem dX9_sum_0 : decode cX9_sum 0 = .ok (.aload_n 0, 1) := by decide +kernel
theorem dX9_sum_1 : decode cX9_sum 1 = .ok (.iload_n 1, 1) := by decide +kernel
theorem dX9_sum_2 : decode cX9_sum 2 = .ok (.invokevirtual 71, 3) := by decide +kernel
theorem dX9_sum_5 : decode cX9_sum 5 = .ok (.aload_n 0, 1) := by decide +kernel
theorem dX9_sum_6 : decode cX9_sum 6 = .ok (.bipush 43, 2) := by decide +kernel
theorem dX9_sum_8 : decode cX9_sum 8 = .ok (.bipush 45, 2) := by decide +kernel
theorem dX9_sum_10 : decode cX9_sum 10 = .ok (.bipush 45, 2) := by decide +kernel
theorem dX9_sum_12 : decode cX9_sum 12 = .ok (.invokevirtual 67, 3) := by decide +kernel
theorem dX9_sum_15 : decode cX9_sum 15 = .ok (.istore_n 2, 1) := by decide +kernel
theorem dX9_sum_16 : decode cX9_sum 16 = .ok (.iconst 0, 1) := by decide +kernel
theorem dX9_sum_17 : decode cX9_sum 17 = .ok (.istore_n 3, 1) := by decide +kernel
theorem dX9_sum_18 : decode cX9_sum 18 = .ok (.iload_n 3, 1) := by decide +kernel
theorem dX9_sum_19 : decode cX9_sum 19 = .ok (.bipush 120, 2) := by decide +kernel
theorem dX9_sum_21 : decode cX9_sum 21 = .ok (.if_icmp .ge 34, 3) := by decide +kernel
theorem dX9_sum_24 : decode cX9_sum 24 = .ok (.iload_n 2, 1) := by decide +kernel
theorem dX9_sum_25 : decode cX9_sum 25 = .ok (.ifCond .lt 30, 3) := by decide +kernel
theorem dX9_sum_28 : decode cX9_sum 28 = .ok (.aload_n 0, 1) := by decide +kernel
theorem dX9_sum_29 : decode cX9_sum 29 = .ok (.iload_n 1, 1) := by decide +kernel
theorem dX9_sum_30 : decode cX9_sum 30 = .ok (.invokevirtual 71, 3) := by decide +kernel
theorem dX9_sum_33 : decode cX9_sum 33 = .ok (.aload_n 0, 1) := by decide +kernel
theorem dX9_sum_34 : decode cX9_sum 34 = .ok (.iload_n 2, 1) := by decide +kernel
theorem dX9_sum_35 : decode cX9_sum 35 = .ok (.invokevirtual 55, 3) := by decide +kernel
theorem dX9_sum_38 : decode cX9_sum 38 = .ok (.aload_n 0, 1) := by decide +kernel
theorem dX9_sum_39 : decode cX9_sum 39 = .ok (.bipush 43, 2) := by decide +kernel
theorem dX9_sum_41 : decode cX9_sum 41 = .ok (.bipush 45, 2) := by decide +kernel
theorem dX9_sum_43 : decode cX9_sum 43 = .ok (.bipush 45, 2) := by decide +kernel
theorem dX9_sum_45 : decode cX9_sum 45 = .ok (.invokevirtual 67, 3) := by decide +kernel
theorem dX9_sum_48 : decode cX9_sum 48 = .ok (.istore_n 2, 1) := by decide +kernel
theorem dX9_sum_49 : decode cX9_sum 49 = .ok (.iinc 3 1, 3) := by decide +kernel
theorem dX9_sum_52 : decode cX9_sum 52 = .ok (.goto (-34), 3) := by decide +kernel
theorem dX9_sum_55 : decode cX9_sum 55 = .ok (.return_, 1) := by decide +kernel
theorem dX9_product_0 : decode cX9_product 0 = .ok (.aload_n 0, 1) := by decide +kernel
theorem dX9_product_1 : decode cX9_product 1 = .ok (.iload_n 1, 1) := by decide +kernel
theorem dX9_product_2 : decode cX9_product 2 = .ok (.invokevirtual 74, 3) := by decide +kernel
theorem dX9_product_5 : decode cX9_product 5 = .ok (.aload_n 0, 1) := by decide +kernel
theorem dX9_product_6 : decode cX9_product 6 = .ok (.bipush 42, 2) := by decide +kernel
theorem dX9_product_8 : decode cX9_product 8 = .ok (.bipush 47, 2) := by decide +kernel
theorem dX9_product_10 : decode cX9_product 10 = .ok (.bipush 37, 2) := by decide +kernel
theorem dX9_product_12 : decode cX9_product 12 = .ok (.invokevirtual 67, 3) := by decide +kernel
theorem dX9_product_15 : decode cX9_product 15 = .ok (.istore_n 2, 1) := by decide +kernel
theorem dX9_product_16 : decode cX9_product 16 = .ok (.iconst 0, 1) := by decide +kernel
theorem dX9_product_17 : decode cX9_product 17 = .ok (.istore_n 3, 1) := by decide +kernel
theorem dX9_product_18 : decode cX9_product 18 = .ok (.iload_n 3, 1) := by decide +kernel
theorem dX9_product_19 : decode cX9_product 19 = .ok (.bipush 120, 2) := by decide +kernel
theorem dX9_product_21 : decode cX9_product 21 = .ok (.if_icmp .ge 34, 3) := by decide +kernel
theorem dX9_product_24 : decode cX9_product 24 = .ok (.iload_n 2, 1) := by decide +kernel
theorem dX9_product_25 : decode cX9_product 25 = .ok (.ifCond .lt 30, 3) := by decide +kernel
theorem dX9_product_28 : decode cX9_product 28 = .ok (.aload_n 0, 1) := by decide +kernel
theorem dX9_product_29 : decode cX9_product 29 = .ok (.iload_n 1, 1) := by decide +kernel
theorem dX9_product_30 : decode cX9_product 30 = .ok (.invokevirtual 74, 3) := by decide +kernel
theorem dX9_product_33 : decode cX9_product 33 = .ok (.aload_n 0, 1) := by decide +kernel
theorem dX9_product_34 : decode cX9_product 34 = .ok (.iload_n 2, 1) := by decide +kernel
theorem dX9_product_35 : decode cX9_product 35 = .ok (.invokevirtual 55, 3) := by decide +kernel
theorem dX9_product_38 : decode cX9_product 38 = .ok (.aload_n 0, 1) := by decide +kernel
theorem dX9_product_39 : decode cX9_product 39 = .ok (.bipush 42, 2) := by decide +kernel
theorem dX9_product_41 : decode cX9_product 41 = .ok (.bipush 47, 2) := by decide +kernel
theorem dX9_product_43 : decode cX9_product 43 = .ok (.bipush 37, 2) := by decide +kernel
theorem dX9_product_45 : decode cX9_product 45 = .ok (.invokevirtual 67, 3) := by decide +kernel
theorem dX9_product_48 : decode cX9_product 48 = .ok (.istore_n 2, 1) := by decide +kernel
theorem dX9_product_49 : decode cX9_product 49 = .ok (.iinc 3 1, 3) := by decide +kernel
theorem dX9_product_52 : decode cX9_product 52 = .ok (.goto (-34), 3) := by decide +kernel
theorem dX9_product_55 : decode cX9_product 55 = .ok (.return_, 1) := by decide +kernel
theorem dX9_operand_0 : decode cX9_operand 0 = .ok (.aload_n 0, 1) := by decide +kernel
theorem dX9_operand_1 : decode cX9_operand 1 = .ok (.invokevirtual 77, 3) := by decide +kernel
theorem dX9_operand_4 : decode cX9_operand 4 = .ok (.istore_n 2, 1) := by decide +kernel
theorem dX9_operand_5 : decode cX9_operand 5 = .ok (.iload_n 2, 1) := by decide +kernel
theorem dX9_operand_6 : decode cX9_operand 6 = .ok (.invokestatic 81, 3) := by decide +kernel
theorem dX9_operand_9 : decode cX9_operand 9 = .ok (.ifCond .eq 10, 3) := by decide +kernel
theorem dX9_operand_12 : decode cX9_operand 12 = .ok (.aload_n 0, 1) := by decide +kernel
theorem dX9_operand_13 : decode cX9_operand 13 = .ok (.invokevirtual 84, 3) := by decide +kernel
theorem dX9_operand_16 : decode cX9_operand 16 = .ok (.goto 132, 3) := by decide +kernel
theorem dX9_operand_19 : decode cX9_operand 19 = .ok (.iload_n 2, 1) := by decide +kernel
theorem dX9_operand_20 : decode cX9_operand 20 = .ok (.invokestatic 87, 3) := by decide +kernel
theorem dX9_operand_23 : decode cX9_operand 23 = .ok (.ifCond .lt 21, 3) := by decide +kernel
theorem dX9_operand_26 : decode cX9_operand 26 = .ok (.aload_n 0, 1) := by decide +kernel
theorem dX9_operand_27 : decode cX9_operand 27 = .ok (.dup, 1) := by decide +kernel
theorem dX9_operand_28 : decode cX9_operand 28 = .ok (.getfield 35, 3) := by decide +kernel
theorem dX9_operand_31 : decode cX9_operand 31 = .ok (.iconst 1, 1) := by decide +kernel
theorem dX9_operand_32 : decode cX9_operand 32 = .ok (.iadd, 1) := by decide +kernel
theorem dX9_operand_33 : decode cX9_operand 33 = .ok (.putfield 35, 3) := by decide +kernel
theorem dX9_operand_36 : decode cX9_operand 36 = .ok (.aload_n 0, 1) := by decide +kernel
theorem dX9_operand_37 : decode cX9_operand 37 = .ok (.iload_n 2, 1) := by decide +kernel
theorem dX9_operand_38 : decode cX9_operand 38 = .ok (.invokevirtual 55, 3) := by decide +kernel
theorem dX9_operand_41 : decode cX9_operand 41 = .ok (.goto 107, 3) := by decide +kernel
theorem dX9_operand_44 : decode cX9_operand 44 = .ok (.iload_n 1, 1) := by decide +kernel
theorem dX9_operand_45 : decode cX9_operand 45 = .ok (.bipush 6, 2) := by decide +kernel
theorem dX9_operand_47 : decode cX9_operand 47 = .ok (.if_icmp .ge 35, 3) := by decide +kernel
theorem dX9_operand_50 : decode cX9_operand 50 = .ok (.aload_n 0, 1) := by decide +kernel
theorem dX9_operand_51 : decode cX9_operand 51 = .ok (.bipush 40, 2) := by decide +kernel
theorem dX9_operand_53 : decode cX9_operand 53 = .ok (.invokevirtual 44, 3) := by decide +kernel
theorem dX9_operand_56 : decode cX9_operand 56 = .ok (.ifCond .eq 26, 3) := by decide +kernel
theorem dX9_operand_59 : decode cX9_operand 59 = .ok (.aload_n 0, 1) := by decide +kernel
theorem dX9_operand_60 : decode cX9_operand 60 = .ok (.iload_n 1, 1) := by decide +kernel
theorem dX9_operand_61 : decode cX9_operand 61 = .ok (.iconst 1, 1) := by decide +kernel
theorem dX9_operand_62 : decode cX9_operand 62 = .ok (.iadd, 1) := by decide +kernel
theorem dX9_operand_63 : decode cX9_operand 63 = .ok (.invokevirtual 51, 3) := by decide +kernel
theorem dX9_operand_66 : decode cX9_operand 66 = .ok (.aload_n 0, 1) := by decide +kernel
theorem dX9_operand_67 : decode cX9_operand 67 = .ok (.bipush 41, 2) := by decide +kernel
theorem dX9_operand_69 : decode cX9_operand 69 = .ok (.invokevirtual 44, 3) := by decide +kernel
theorem dX9_operand_72 : decode cX9_operand 72 = .ok (.ifCond .ne 76, 3) := by decide +kernel
theorem dX9_operand_75 : decode cX9_operand 75 = .ok (.aload_n 0, 1) := by decide +kernel
theorem dX9_operand_76 : decode cX9_operand 76 = .ok (.invokevirtual 48, 3) := by decide +kernel
theorem dX9_operand_79 : decode cX9_operand 79 = .ok (.goto 69, 3) := by decide +kernel
theorem dX9_operand_82 : decode cX9_operand 82 = .ok (.iload_n 1, 1) := by decide +kernel
theorem dX9_operand_83 : decode cX9_operand 83 = .ok (.bipush 6, 2) := by decide +kernel
theorem dX9_operand_85 : decode cX9_operand 85 = .ok (.if_icmp .ge 28, 3) := by decide +kernel
theorem dX9_operand_88 : decode cX9_operand 88 = .ok (.aload_n 0, 1) := by decide +kernel
theorem dX9_operand_89 : decode cX9_operand 89 = .ok (.bipush 33, 2) := by decide +kernel
theorem dX9_operand_91 : decode cX9_operand 91 = .ok (.invokevirtual 44, 3) := by decide +kernel
theorem dX9_operand_94 : decode cX9_operand 94 = .ok (.ifCond .eq 19, 3) := by decide +kernel
theorem dX9_operand_97 : decode cX9_operand 97 = .ok (.aload_n 0, 1) := by decide +kernel
theorem dX9_operand_98 : decode cX9_operand 98 = .ok (.iload_n 1, 1) := by decide +kernel
theorem dX9_operand_99 : decode cX9_operand 99 = .ok (.iconst 1, 1) := by decide +kernel
theorem dX9_operand_100 : decode cX9_operand 100 = .ok (.iadd, 1) := by decide +kernel
theorem dX9_operand_101 : decode cX9_operand 101 = .ok (.invokevirtual 74, 3) := by decide +kernel
theorem dX9_operand_104 : decode cX9_operand 104 = .ok (.aload_n 0, 1) := by decide +kernel
theorem dX9_operand_105 : decode cX9_operand 105 = .ok (.bipush 33, 2) := by decide +kernel
theorem dX9_operand_107 : decode cX9_operand 107 = .ok (.invokevirtual 55, 3) := by decide +kernel
theorem dX9_operand_110 : decode cX9_operand 110 = .ok (.goto 38, 3) := by decide +kernel
theorem dX9_operand_113 : decode cX9_operand 113 = .ok (.iload_n 1, 1) := by decide +kernel
theorem dX9_operand_114 : decode cX9_operand 114 = .ok (.bipush 6, 2) := by decide +kernel
theorem dX9_operand_116 : decode cX9_operand 116 = .ok (.if_icmp .ge 28, 3) := by decide +kernel
theorem dX9_operand_119 : decode cX9_operand 119 = .ok (.aload_n 0, 1) := by decide +kernel
theorem dX9_operand_120 : decode cX9_operand 120 = .ok (.bipush 45, 2) := by decide +kernel
theorem dX9_operand_122 : decode cX9_operand 122 = .ok (.invokevirtual 44, 3) := by decide +kernel
theorem dX9_operand_125 : decode cX9_operand 125 = .ok (.ifCond .eq 19, 3) := by decide +kernel
theorem dX9_operand_128 : decode cX9_operand 128 = .ok (.aload_n 0, 1) := by decide +kernel
theorem dX9_operand_129 : decode cX9_operand 129 = .ok (.iload_n 1, 1) := by decide +kernel
theorem dX9_operand_130 : decode cX9_operand 130 = .ok (.iconst 1, 1) := by decide +kernel
theorem dX9_operand_131 : decode cX9_operand 131 = .ok (.iadd, 1) := by decide +kernel
theorem dX9_operand_132 : decode cX9_operand 132 = .ok (.invokevirtual 74, 3) := by decide +kernel
theorem dX9_operand_135 : decode cX9_operand 135 = .ok (.aload_n 0, 1) := by decide +kernel
theorem dX9_operand_136 : decode cX9_operand 136 = .ok (.bipush 126, 2) := by decide +kernel
theorem dX9_operand_138 : decode cX9_operand 138 = .ok (.invokevirtual 55, 3) := by decide +kernel
theorem dX9_operand_141 : decode cX9_operand 141 = .ok (.goto 7, 3) := by decide +kernel
theorem dX9_operand_144 : decode cX9_operand 144 = .ok (.aload_n 0, 1) := by decide +kernel
theorem dX9_operand_145 : decode cX9_operand 145 = .ok (.invokevirtual 48, 3) := by decide +kernel
theorem dX9_operand_148 : decode cX9_operand 148 = .ok (.return_, 1) := by decide +kernel
theorem dX9_line_0 : decode cX9_line 0 = .ok (.aload_n 0, 1) := by decide +kernel
theorem dX9_line_1 : decode cX9_line 1 = .ok (.iconst 0, 1) := by decide +kernel
theorem dX9_line_2 : decode cX9_line 2 = .ok (.invokevirtual 51, 3) := by decide +kernel
theorem dX9_line_5 : decode cX9_line 5 = .ok (.aload_n 0, 1) := by decide +kernel
theorem dX9_line_6 : decode cX9_line 6 = .ok (.bipush 63, 2) := by decide +kernel
theorem dX9_line_8 : decode cX9_line 8 = .ok (.invokevirtual 44, 3) := by decide +kernel
theorem dX9_line_11 : decode cX9_line 11 = .ok (.ifCond .eq 14, 3) := by decide +kernel
theorem dX9_line_14 : decode cX9_line 14 = .ok (.aload_n 0, 1) := by decide +kernel
theorem dX9_line_15 : decode cX9_line 15 = .ok (.bipush 63, 2) := by decide +kernel
theorem dX9_line_17 : decode cX9_line 17 = .ok (.invokevirtual 55, 3) := by decide +kernel
theorem dX9_line_20 : decode cX9_line 20 = .ok (.aload_n 0, 1) := by decide +kernel
theorem dX9_line_21 : decode cX9_line 21 = .ok (.iconst 0, 1) := by decide +kernel
theorem dX9_line_22 : decode cX9_line 22 = .ok (.invokevirtual 51, 3) := by decide +kernel
theorem dX9_line_25 : decode cX9_line 25 = .ok (.aload_n 0, 1) := by decide +kernel
theorem dX9_line_26 : decode cX9_line 26 = .ok (.bipush 59, 2) := by decide +kernel
theorem dX9_line_28 : decode cX9_line 28 = .ok (.invokevirtual 55, 3) := by decide +kernel
theorem dX9_line_31 : decode cX9_line 31 = .ok (.return_, 1) := by decide +kernel
theorem dX9_parse_0 : decode cX9_parse 0 = .ok (.aload_n 0, 1) := by decide +kernel
theorem dX9_parse_1 : decode cX9_parse 1 = .ok (.iconst 0, 1) := by decide +kernel
theorem dX9_parse_2 : decode cX9_parse 2 = .ok (.putfield 35, 3) := by decide +kernel
theorem dX9_parse_5 : decode cX9_parse 5 = .ok (.aload_n 0, 1) := by decide +kernel
theorem dX9_parse_6 : decode cX9_parse 6 = .ok (.iconst 0, 1) := by decide +kernel
theorem dX9_parse_7 : decode cX9_parse 7 = .ok (.putfield 20, 3) := by decide +kernel
theorem dX9_parse_10 : decode cX9_parse 10 = .ok (.aload_n 0, 1) := by decide +kernel
theorem dX9_parse_11 : decode cX9_parse 11 = .ok (.iconst (-1), 1) := by decide +kernel
theorem dX9_parse_12 : decode cX9_parse 12 = .ok (.putfield 38, 3) := by decide +kernel
theorem dX9_parse_15 : decode cX9_parse 15 = .ok (.aload_n 0, 1) := by decide +kernel
theorem dX9_parse_16 : decode cX9_parse 16 = .ok (.invokevirtual 41, 3) := by decide +kernel
theorem dX9_parse_19 : decode cX9_parse 19 = .ok (.iconst 0, 1) := by decide +kernel
theorem dX9_parse_20 : decode cX9_parse 20 = .ok (.istore_n 1, 1) := by decide +kernel
theorem dX9_parse_21 : decode cX9_parse 21 = .ok (.iload_n 1, 1) := by decide +kernel
theorem dX9_parse_22 : decode cX9_parse 22 = .ok (.bipush 120, 2) := by decide +kernel
theorem dX9_parse_24 : decode cX9_parse 24 = .ok (.if_icmp .ge 22, 3) := by decide +kernel
theorem dX9_parse_27 : decode cX9_parse 27 = .ok (.aload_n 0, 1) := by decide +kernel
theorem dX9_parse_28 : decode cX9_parse 28 = .ok (.bipush 59, 2) := by decide +kernel
theorem dX9_parse_30 : decode cX9_parse 30 = .ok (.invokevirtual 44, 3) := by decide +kernel
theorem dX9_parse_33 : decode cX9_parse 33 = .ok (.ifCond .eq 13, 3) := by decide +kernel
theorem dX9_parse_36 : decode cX9_parse 36 = .ok (.aload_n 0, 1) := by decide +kernel
theorem dX9_parse_37 : decode cX9_parse 37 = .ok (.invokevirtual 41, 3) := by decide +kernel
theorem dX9_parse_40 : decode cX9_parse 40 = .ok (.iinc 1 1, 3) := by decide +kernel
theorem dX9_parse_43 : decode cX9_parse 43 = .ok (.goto (-22), 3) := by decide +kernel
theorem dX9_parse_46 : decode cX9_parse 46 = .ok (.aload_n 0, 1) := by decide +kernel
theorem dX9_parse_47 : decode cX9_parse 47 = .ok (.getfield 35, 3) := by decide +kernel
theorem dX9_parse_50 : decode cX9_parse 50 = .ok (.aload_n 0, 1) := by decide +kernel
theorem dX9_parse_51 : decode cX9_parse 51 = .ok (.getfield 16, 3) := by decide +kernel
theorem dX9_parse_54 : decode cX9_parse 54 = .ok (.if_icmp .ge 7, 3) := by decide +kernel
theorem dX9_parse_57 : decode cX9_parse 57 = .ok (.aload_n 0, 1) := by decide +kernel
theorem dX9_parse_58 : decode cX9_parse 58 = .ok (.invokevirtual 48, 3) := by decide +kernel
theorem dX9_parse_61 : decode cX9_parse 61 = .ok (.aload_n 0, 1) := by decide +kernel
theorem dX9_parse_62 : decode cX9_parse 62 = .ok (.getfield 38, 3) := by decide +kernel
theorem dX9_parse_65 : decode cX9_parse 65 = .ok (.ireturn, 1) := by decide +kernel
def fX4_isSelf (x0 x1 : Int) (u0 : zMem) : zRs := zgf 4 2 x0 u0 (fun v1 => if x1 ≠ v1 then (zbl 0 (some (0, u0))) else (zbl 1 (some (1, u0))))
set_option maxRecDepth 100000 in
set_option maxHeartbeats 4000000 in
theorem rX4_isSelf (l : Launch) (w : zW) (x0 x1 : Int) (u0 : zMem) : zSpc l w 1 yX4_isSelf cX4_isSelf 2 (some .boolean) 1 [zR x0, zI x1] u0 (fX4_isSelf x0 x1 u0) := by
  refine zSpc_of (own := RX4) pnRX4 rfl (Nat.le_of_ble_eq_true rfl) (fun G p e R s m args below meth c C hini => ?_)
  unfold fX4_isSelf
  refine zlocs (lb := [(0, zR x0), (1, zI x1)]) ⟨rfl, rfl, trivial⟩ ?_
  refine z_iload_n C (i := 1) (pc' := 1) dX4_isSelf_0 rfl rfl rfl ?_
  refine z_aload_n C (i := 0) (pc' := 2) dX4_isSelf_1 rfl rfl rfl ?_
  refine z_getf C (pc' := 5) flRX4_23 dX4_isSelf_2 rfl (fun v1 => ?_)
  refine z_icmp_ne C (pc' := 12) (pf := 8) dX4_isSelf_5 rfl rfl (fun _ => ?_) (fun _ => ?_)
  ·
    refine z_iconst C (pc' := 13) dX4_isSelf_12 kc_0 rfl ?_
    exact z_zreturn C dX4_isSelf_13
  ·
    refine z_iconst C (pc' := 9) dX4_isSelf_8 kc_1 rfl ?_
    refine z_goto C (pc' := 13) dX4_isSelf_9 rfl ?_
    exact z_zreturn C dX4_isSelf_13
def fX4_size (x0 : Int) (u0 : zMem) : zRs := zgf 4 1 x0 u0 (fun v1 => some (v1, u0))
set_option maxRecDepth 100000 in
set_option maxHeartbeats 4000000 in
theorem rX4_size (l : Launch) (w : zW) (x0 : Int) (u0 : zMem) : zSpc l w 1 yX4_size cX4_size 1 (some .int) 1 [zR x0] u0 (fX4_size x0 u0) := by
  refine zSpc_of (own := RX4) pnRX4 rfl (Nat.le_of_ble_eq_true rfl) (fun G p e R s m args below meth c C hini => ?_)
  unfold fX4_size
  refine zlocs (lb := [(0, zR x0)]) ⟨rfl, trivial⟩ ?_
  refine z_aload_n C (i := 0) (pc' := 1) dX4_size_0 rfl rfl rfl ?_
  refine z_getf C (pc' := 4) flRX4_19 dX4_size_1 rfl (fun v1 => ?_)
  exact z_ireturn C dX4_size_4
def fX4_codeAt (x0 x1 : Int) (u0 : zMem) : zRs := zjn (fun (u1 : zMem) => some (0, u1)) (fun k2 => if x1 < 0 then (k2 u0) else (zgf 4 1 x0 u0 (fun v3 => if x1 ≥ v3 then (k2 u0) else (zgf 4 0 x0 u0 (fun v4 => zald 20 v4 x1 u0 (fun v5 => some (v5, u0)))))))
set_option maxRecDepth 100000 in
set_option maxHeartbeats 4000000 in
theorem rX4_codeAt (l : Launch) (w : zW) (x0 x1 : Int) (u0 : zMem) : zSpc l w 1 yX4_codeAt cX4_codeAt 2 (some .int) 1 [zR x0, zI x1] u0 (fX4_codeAt x0 x1 u0) := by
  refine zSpc_of (own := RX4) pnRX4 rfl (Nat.le_of_ble_eq_true rfl) (fun G p e R s m args below meth c C hini => ?_)
  unfold fX4_codeAt
  refine zlocs (lb := [(0, zR x0), (1, zI x1)]) ⟨rfl, rfl, trivial⟩ ?_
  refine z_iload_n C (i := 1) (pc' := 1) dX4_codeAt_0 rfl rfl rfl ?_
  refine zjoin (P := fun (f : zMem → zRs) => ∀ (u1 : zMem), zSim G p l e R s m args below meth c w 2 (znc u0) (zM w 1 (znc u0) below args s) 21 [] [] u1 (f u1)) (fun u1 => ?_) (fun k2 hk2 => ?_)
  ·
    refine z_iconst C (pc' := 22) dX4_codeAt_21 kc_0 rfl ?_
    exact z_ireturn C dX4_codeAt_22
  ·
    refine z_if_lt C (pc' := 21) (pf := 4) dX4_codeAt_1 rfl rfl (fun _ => ?_) (fun _ => ?_)
    ·
      exact zlocs (lb := []) trivial (hk2 _)
    ·
      refine z_iload_n C (i := 1) (pc' := 5) dX4_codeAt_4 rfl rfl rfl ?_
      refine z_aload_n C (i := 0) (pc' := 6) dX4_codeAt_5 rfl rfl rfl ?_
      refine z_getf C (pc' := 9) flRX4_19 dX4_codeAt_6 rfl (fun v3 => ?_)
      refine z_icmp_ge C (pc' := 21) (pf := 12) dX4_codeAt_9 rfl rfl (fun _ => ?_) (fun _ => ?_)
      ·
        exact zlocs (lb := []) trivial (hk2 _)
      ·
        refine z_aload_n C (i := 0) (pc' := 13) dX4_codeAt_12 rfl rfl rfl ?_
        refine z_getfR C (pc' := 16) flRX4_9 dX4_codeAt_13 rfl (fun v4 => ?_)
        refine z_iload_n C (i := 1) (pc' := 17) dX4_codeAt_16 rfl rfl rfl ?_
        refine z_iald C (pc' := 18) dX4_codeAt_17 rfl (fun v5 => ?_)
        refine z_goto C (pc' := 22) dX4_codeAt_18 rfl ?_
        exact z_ireturn C dX4_codeAt_22
def fX9_nameOf (x0 : Int) (u0 : zMem) : zRs := if x0 = 105 then (some (4, u0)) else (if x0 = 106 then (some ((-1), u0)) else (if x0 = 107 then (some (1, u0)) else (if x0 = 108 then (some (3, u0)) else (if x0 = 109 then (some (5, u0)) else (if x0 = 110 then (some (7, u0)) else (if x0 = 111 then (some (2, u0)) else (if x0 = 112 then (some ((-1), u0)) else (if x0 = 113 then (some ((-1), u0)) else (if x0 = 114 then (some ((-1), u0)) else (if x0 = 115 then (some (6, u0)) else (if x0 = 116 then (some ((-1), u0)) else (if x0 = 117 then (some ((-1), u0)) else (if x0 = 118 then (some ((-1), u0)) else (if x0 = 119 then (some (0, u0)) else (some ((-1), u0))))))))))))))))
set_option maxRecDepth 100000 in
set_option maxHeartbeats 4000000 in
theorem rX9_nameOf (l : Launch) (w : zW) (x0 : Int) (u0 : zMem) : zSpc l w 1 yX9_nameOf cX9_nameOf 1 (some .int) 1 [zI x0] u0 (fX9_nameOf x0 u0) := by
  refine zSpc_of (own := RX9) pnRX9 rfl (Nat.le_of_ble_eq_true rfl) (fun G p e R s m args below meth c C hini => ?_)
  unfold fX9_nameOf
  refine zlocs (lb := [(0, zI x0)]) ⟨rfl, trivial⟩ ?_
  refine z_iload_n C (i := 0) (pc' := 1) dX9_nameOf_0 rfl rfl rfl ?_
  refine z_tcase C (pc' := 84) dX9_nameOf_1 105 (by decide) (by decide) rfl rfl (fun _ => ?_) (fun h1 => ?_)
  ·
    refine z_iconst C (pc' := 85) dX9_nameOf_84 kc_4 rfl ?_
    exact z_ireturn C dX9_nameOf_85
  ·
    refine z_tcase C (pc' := 94) dX9_nameOf_1 106 (by decide) (by decide) rfl rfl (fun _ => ?_) (fun h2 => ?_)
    ·
      refine z_iconst C (pc' := 95) dX9_nameOf_94 kc_m1 rfl ?_
      exact z_ireturn C dX9_nameOf_95
    ·
      refine z_tcase C (pc' := 78) dX9_nameOf_1 107 (by decide) (by decide) rfl rfl (fun _ => ?_) (fun h3 => ?_)
      ·
        refine z_iconst C (pc' := 79) dX9_nameOf_78 kc_1 rfl ?_
        exact z_ireturn C dX9_nameOf_79
      ·
        refine z_tcase C (pc' := 82) dX9_nameOf_1 108 (by decide) (by decide) rfl rfl (fun _ => ?_) (fun h4 => ?_)
        ·
          refine z_iconst C (pc' := 83) dX9_nameOf_82 kc_3 rfl ?_
          exact z_ireturn C dX9_nameOf_83
        ·
          refine z_tcase C (pc' := 86) dX9_nameOf_1 109 (by decide) (by decide) rfl rfl (fun _ => ?_) (fun h5 => ?_)
          ·
            refine z_iconst C (pc' := 87) dX9_nameOf_86 kc_5 rfl ?_
            exact z_ireturn C dX9_nameOf_87
          ·
            refine z_tcase C (pc' := 91) dX9_nameOf_1 110 (by decide) (by decide) rfl rfl (fun _ => ?_) (fun h6 => ?_)
            ·
              refine z_bipush C (pc' := 93) dX9_nameOf_91 kb_7 rfl ?_
              exact z_ireturn C dX9_nameOf_93
            ·
              refine z_tcase C (pc' := 80) dX9_nameOf_1 111 (by decide) (by decide) rfl rfl (fun _ => ?_) (fun h7 => ?_)
              ·
                refine z_iconst C (pc' := 81) dX9_nameOf_80 kc_2 rfl ?_
                exact z_ireturn C dX9_nameOf_81
              ·
                refine z_tcase C (pc' := 94) dX9_nameOf_1 112 (by decide) (by decide) rfl rfl (fun _ => ?_) (fun h8 => ?_)
                ·
                  refine z_iconst C (pc' := 95) dX9_nameOf_94 kc_m1 rfl ?_
                  exact z_ireturn C dX9_nameOf_95
                ·
                  refine z_tcase C (pc' := 94) dX9_nameOf_1 113 (by decide) (by decide) rfl rfl (fun _ => ?_) (fun h9 => ?_)
                  ·
                    refine z_iconst C (pc' := 95) dX9_nameOf_94 kc_m1 rfl ?_
                    exact z_ireturn C dX9_nameOf_95
                  ·
                    refine z_tcase C (pc' := 94) dX9_nameOf_1 114 (by decide) (by decide) rfl rfl (fun _ => ?_) (fun h10 => ?_)
                    ·
                      refine z_iconst C (pc' := 95) dX9_nameOf_94 kc_m1 rfl ?_
                      exact z_ireturn C dX9_nameOf_95
                    ·
                      refine z_tcase C (pc' := 88) dX9_nameOf_1 115 (by decide) (by decide) rfl rfl (fun _ => ?_) (fun h11 => ?_)
                      ·
                        refine z_bipush C (pc' := 90) dX9_nameOf_88 kb_6 rfl ?_
                        exact z_ireturn C dX9_nameOf_90
                      ·
                        refine z_tcase C (pc' := 94) dX9_nameOf_1 116 (by decide) (by decide) rfl rfl (fun _ => ?_) (fun h12 => ?_)
                        ·
                          refine z_iconst C (pc' := 95) dX9_nameOf_94 kc_m1 rfl ?_
                          exact z_ireturn C dX9_nameOf_95
                        ·
                          refine z_tcase C (pc' := 94) dX9_nameOf_1 117 (by decide) (by decide) rfl rfl (fun _ => ?_) (fun h13 => ?_)
                          ·
                            refine z_iconst C (pc' := 95) dX9_nameOf_94 kc_m1 rfl ?_
                            exact z_ireturn C dX9_nameOf_95
                          ·
                            refine z_tcase C (pc' := 94) dX9_nameOf_1 118 (by decide) (by decide) rfl rfl (fun _ => ?_) (fun h14 => ?_)
                            ·
                              refine z_iconst C (pc' := 95) dX9_nameOf_94 kc_m1 rfl ?_
                              exact z_ireturn C dX9_nameOf_95
                            ·
                              refine z_tcase C (pc' := 76) dX9_nameOf_1 119 (by decide) (by decide) rfl rfl (fun _ => ?_) (fun h15 => ?_)
                              ·
                                refine z_iconst C (pc' := 77) dX9_nameOf_76 kc_0 rfl ?_
                                exact z_ireturn C dX9_nameOf_77
                              ·
                                refine z_tdef C (pc' := 94) dX9_nameOf_1 (by omega) rfl ?_
                                refine z_iconst C (pc' := 95) dX9_nameOf_94 kc_m1 rfl ?_
                                exact z_ireturn C dX9_nameOf_95
def fX4_init (x0 : Int) (u0 : zMem) : zRs := if 0 ≤ x0 then (znar 20 121 u0 (fun v1 u2 => zpf 4 0 x0 v1 u2 (fun u3 => some (0, u3)))) else none
set_option maxRecDepth 100000 in
set_option maxHeartbeats 4000000 in
theorem rX4_init (l : Launch) (w : zW) (x0 : Int) (u0 : zMem) : zSpc l w 1 yX4_init cX4_init 1 none 0 [zR x0] u0 (fX4_init x0 u0) := by
  refine zSpc_of (own := RX4) pnRX4 rfl (Nat.le_of_ble_eq_true rfl) (fun G p e R s m args below meth c C hini => ?_)
  unfold fX4_init
  refine zlocs (lb := [(0, zR x0)]) ⟨rfl, trivial⟩ ?_
  refine z_aload_n C (i := 0) (pc' := 1) dX4_init_0 rfl rfl rfl ?_
  refine z_objinit C (pc' := 4) woRX4_1 woi woc dX4_init_1 rfl (by decide) (Nat.le_of_ble_eq_true rfl) ?_
  refine z_aload_n C (i := 0) (pc' := 5) dX4_init_4 rfl rfl rfl ?_
  refine z_bipush C (pc' := 7) dX4_init_5 kb_121 rfl ?_
  refine z_newarr C (kd := 20) (aty := .int) (pc' := 9) (by decide) rfl wy20 dX4_init_7 rfl (fun v1 u2 => ?_)
  refine z_putfRi C (pc' := 12) flRX4_9 hini rfl fb4_0 dX4_init_9 rfl (fun u3 => ?_)
  exact z_return C dX4_init_12
def fX9_copyCodes (x0 x1 : Int) (u0 : zMem) : zRs := zgf 9 3 x0 u0 (fun v1 => zlen 20 x1 (fun v2 => zgf 9 1 x0 u0 (fun v3 => zcopy 20 v3 0 x1 0 (zmi v1 v2) u0 (fun u4 => some ((zmi v1 v2), u4)))))
set_option maxRecDepth 100000 in
set_option maxHeartbeats 4000000 in
theorem rX9_copyCodes (l : Launch) (w : zW) (x0 x1 : Int) (u0 : zMem) : zSpc l w 1 yX9_copyCodes cX9_copyCodes 3 (some .int) 1 [zR x0, zR x1] u0 (fX9_copyCodes x0 x1 u0) := by
  refine zSpc_of (own := RX9) pnRX9 rfl (Nat.le_of_ble_eq_true rfl) (fun G p e R s m args below meth c C hini => ?_)
  unfold fX9_copyCodes
  refine zlocs (lb := [(0, zR x0), (1, zR x1)]) ⟨rfl, rfl, trivial⟩ ?_
  refine z_aload_n C (i := 0) (pc' := 1) dX9_copyCodes_0 rfl rfl rfl ?_
  refine z_getf C (pc' := 4) flRX9_20 dX9_copyCodes_1 rfl (fun v1 => ?_)
  refine z_aload_n C (i := 1) (pc' := 5) dX9_copyCodes_4 rfl rfl rfl ?_
  refine z_alen C (kd := 20) (pc' := 6) (by decide) dX9_copyCodes_5 rfl (fun v2 => ?_)
  refine z_mmin C (pc' := 9) wmRX9_23 wms_min wmi wmc_min dX9_copyCodes_6 rfl (by decide) (Nat.le_of_ble_eq_true rfl) ?_
  refine z_istore_n C (i := 2) (la' := [(2, zI (zmi v1 v2)), (0, zR x0), (1, zR x1)]) (pc' := 10) dX9_copyCodes_9 rfl (by decide) rfl rfl ?_
  refine z_aload_n C (i := 0) (pc' := 11) dX9_copyCodes_10 rfl rfl rfl ?_
  refine z_getfR C (pc' := 14) flRX9_13 dX9_copyCodes_11 rfl (fun v3 => ?_)
  refine z_iconst C (pc' := 15) dX9_copyCodes_14 kc_0 rfl ?_
  refine z_aload_n C (i := 1) (pc' := 16) dX9_copyCodes_15 rfl rfl rfl ?_
  refine z_iconst C (pc' := 17) dX9_copyCodes_16 kc_0 rfl ?_
  refine z_iload_n C (i := 2) (pc' := 18) dX9_copyCodes_17 rfl rfl rfl ?_
  refine z_copy C (kd := 20) (pc' := 21) (by decide) waRX9_29 wacn wacs wsys dX9_copyCodes_18 rfl (by decide) (Nat.le_of_ble_eq_true rfl) (fun u4 => ?_)
  refine z_iload_n C (i := 2) (pc' := 22) dX9_copyCodes_21 rfl rfl rfl ?_
  exact z_ireturn C dX9_copyCodes_22
def fX4_become (x0 x1 x2 x3 : Int) (u0 : zMem) : zRs := zgf 4 0 x0 u0 (fun v1 => zvc 9 x1 (fX9_copyCodes x1 v1 u0) (fun v2 u3 => zpf 4 1 x0 v2 u3 (fun u4 => zpf 4 2 x0 x2 u4 (fun u5 => zpf 4 3 x0 x3 u5 (fun u6 => some (0, u6))))))
set_option maxRecDepth 100000 in
set_option maxHeartbeats 4000000 in
theorem rX4_become (l : Launch) (w : zW) (x0 x1 x2 x3 : Int) (u0 : zMem) : zSpc l w 2 yX4_become cX4_become 4 none 0 [zR x0, zR x1, zI x2, zI x3] u0 (fX4_become x0 x1 x2 x3 u0) := by
  refine zSpc_of (own := RX4) pnRX4 rfl (Nat.le_of_ble_eq_true rfl) (fun G p e R s m args below meth c C hini => ?_)
  unfold fX4_become
  refine zlocs (lb := [(0, zR x0), (1, zR x1), (2, zI x2), (3, zI x3)]) ⟨rfl, rfl, rfl, rfl, trivial⟩ ?_
  refine z_aload_n C (i := 0) (pc' := 1) dX4_become_0 rfl rfl rfl ?_
  refine z_aload_n C (i := 1) (pc' := 2) dX4_become_1 rfl rfl rfl ?_
  refine z_aload_n C (i := 0) (pc' := 3) dX4_become_2 rfl rfl rfl ?_
  refine z_getfR C (pc' := 6) flRX4_9 dX4_become_3 rfl (fun v1 => ?_)
  refine z_callV1 C (pc' := 9) lvRX4_15 lc_X9_copyCodes rfl dX4_become_6 rfl (by decide) (rX9_copyCodes l w x1 v1 u0) rfl (Nat.le_of_ble_eq_true rfl) (fun v2 u3 => ?_)
  refine z_putf C (pc' := 12) flRX4_19 fn4_1 fb4_1 dX4_become_9 rfl (fun u4 => ?_)
  refine z_aload_n C (i := 0) (pc' := 13) dX4_become_12 rfl rfl rfl ?_
  refine z_iload_n C (i := 2) (pc' := 14) dX4_become_13 rfl rfl rfl ?_
  refine z_putf C (pc' := 17) flRX4_23 fn4_2 fb4_2 dX4_become_14 rfl (fun u5 => ?_)
  refine z_aload_n C (i := 0) (pc' := 18) dX4_become_17 rfl rfl rfl ?_
  refine z_iload_n C (i := 3) (pc' := 19) dX4_become_18 rfl rfl rfl ?_
  refine z_putf C (pc' := 22) flRX4_26 fn4_3 fb4_3 dX4_become_19 rfl (fun u6 => ?_)
  exact z_return C dX4_become_22
def fX4_has (x0 x1 : Int) (u0 : zMem) : zRs := zgf 4 3 x0 u0 (fun v1 => if (zand v1 x1) = 0 then (zbl 0 (some (0, u0))) else (zbl 1 (some (1, u0))))
set_option maxRecDepth 100000 in
set_option maxHeartbeats 4000000 in
theorem rX4_has (l : Launch) (w : zW) (x0 x1 : Int) (u0 : zMem) : zSpc l w 1 yX4_has cX4_has 2 (some .boolean) 1 [zR x0, zI x1] u0 (fX4_has x0 x1 u0) := by
  refine zSpc_of (own := RX4) pnRX4 rfl (Nat.le_of_ble_eq_true rfl) (fun G p e R s m args below meth c C hini => ?_)
  unfold fX4_has
  refine zlocs (lb := [(0, zR x0), (1, zI x1)]) ⟨rfl, rfl, trivial⟩ ?_
  refine z_aload_n C (i := 0) (pc' := 1) dX4_has_0 rfl rfl rfl ?_
  refine z_getf C (pc' := 4) flRX4_26 dX4_has_1 rfl (fun v1 => ?_)
  refine z_iload_n C (i := 1) (pc' := 5) dX4_has_4 rfl rfl rfl ?_
  refine z_iand C (pc' := 6) dX4_has_5 rfl ?_
  refine z_if_eq C (pc' := 13) (pf := 9) dX4_has_6 rfl rfl (fun _ => ?_) (fun _ => ?_)
  ·
    refine z_iconst C (pc' := 14) dX4_has_13 kc_0 rfl ?_
    exact z_zreturn C dX4_has_14
  ·
    refine z_iconst C (pc' := 10) dX4_has_9 kc_1 rfl ?_
    refine z_goto C (pc' := 14) dX4_has_10 rfl ?_
    exact z_zreturn C dX4_has_14
def fX9_init (x0 : Int) (u0 : zMem) : zRs := if 0 ≤ x0 then (znar 20 120 u0 (fun v1 u2 => zpf 9 0 x0 v1 u2 (fun u3 => znar 20 121 u3 (fun v4 u5 => zpf 9 1 x0 v4 u5 (fun u6 => some (0, u6)))))) else none
set_option maxRecDepth 100000 in
set_option maxHeartbeats 4000000 in
theorem rX9_init (l : Launch) (w : zW) (x0 : Int) (u0 : zMem) : zSpc l w 1 yX9_init cX9_init 1 none 0 [zR x0] u0 (fX9_init x0 u0) := by
  refine zSpc_of (own := RX9) pnRX9 rfl (Nat.le_of_ble_eq_true rfl) (fun G p e R s m args below meth c C hini => ?_)
  unfold fX9_init
  refine zlocs (lb := [(0, zR x0)]) ⟨rfl, trivial⟩ ?_
  refine z_aload_n C (i := 0) (pc' := 1) dX9_init_0 rfl rfl rfl ?_
  refine z_objinit C (pc' := 4) woRX9_3 woi woc dX9_init_1 rfl (by decide) (Nat.le_of_ble_eq_true rfl) ?_
  refine z_aload_n C (i := 0) (pc' := 5) dX9_init_4 rfl rfl rfl ?_
  refine z_bipush C (pc' := 7) dX9_init_5 kb_120 rfl ?_
  refine z_newarr C (kd := 20) (aty := .int) (pc' := 9) (by decide) rfl wy20 dX9_init_7 rfl (fun v1 u2 => ?_)
  refine z_putfRi C (pc' := 12) flRX9_9 hini rfl fb9_0 dX9_init_9 rfl (fun u3 => ?_)
  refine z_aload_n C (i := 0) (pc' := 13) dX9_init_12 rfl rfl rfl ?_
  refine z_bipush C (pc' := 15) dX9_init_13 kb_121 rfl ?_
  refine z_newarr C (kd := 20) (aty := .int) (pc' := 17) (by decide) rfl wy20 dX9_init_15 rfl (fun v4 u5 => ?_)
  refine z_putfRi C (pc' := 20) flRX9_13 hini rfl fb9_1 dX9_init_17 rfl (fun u6 => ?_)
  exact z_return C dX9_init_20
def fX9_length (x0 : Int) (u0 : zMem) : zRs := zgf 9 2 x0 u0 (fun v1 => some (v1, u0))
set_option maxRecDepth 100000 in
set_option maxHeartbeats 4000000 in
theorem rX9_length (l : Launch) (w : zW) (x0 : Int) (u0 : zMem) : zSpc l w 1 yX9_length cX9_length 1 (some .int) 1 [zR x0] u0 (fX9_length x0 u0) := by
  refine zSpc_of (own := RX9) pnRX9 rfl (Nat.le_of_ble_eq_true rfl) (fun G p e R s m args below meth c C hini => ?_)
  unfold fX9_length
  refine zlocs (lb := [(0, zR x0)]) ⟨rfl, trivial⟩ ?_
  refine z_aload_n C (i := 0) (pc' := 1) dX9_length_0 rfl rfl rfl ?_
  refine z_getf C (pc' := 4) flRX9_16 dX9_length_1 rfl (fun v1 => ?_)
  exact z_ireturn C dX9_length_4
def fX9_append (x0 x1 : Int) (u0 : zMem) : zRs := zgf 9 2 x0 u0 (fun v1 => if v1 < 120 then (zgf 9 0 x0 u0 (fun v2 => zgf 9 2 x0 u0 (fun v3 => zast 20 v2 v3 x1 u0 (fun u4 => zgf 9 2 x0 u4 (fun v5 => zpf 9 2 x0 (zw32 (v5 + 1)) u4 (fun u6 => zbl 1 (some (1, u6)))))))) else (zbl 0 (some (0, u0))))
set_option maxRecDepth 100000 in
set_option maxHeartbeats 4000000 in
theorem rX9_append (l : Launch) (w : zW) (x0 x1 : Int) (u0 : zMem) : zSpc l w 1 yX9_append cX9_append 2 (some .boolean) 1 [zR x0, zI x1] u0 (fX9_append x0 x1 u0) := by
  refine zSpc_of (own := RX9) pnRX9 rfl (Nat.le_of_ble_eq_true rfl) (fun G p e R s m args below meth c C hini => ?_)
  unfold fX9_append
  refine zlocs (lb := [(0, zR x0), (1, zI x1)]) ⟨rfl, rfl, trivial⟩ ?_
  refine z_aload_n C (i := 0) (pc' := 1) dX9_append_0 rfl rfl rfl ?_
  refine z_getf C (pc' := 4) flRX9_16 dX9_append_1 rfl (fun v1 => ?_)
  refine z_bipush C (pc' := 6) dX9_append_4 kb_120 rfl ?_
  refine z_icmp_lt C (pc' := 11) (pf := 9) dX9_append_6 rfl rfl (fun _ => ?_) (fun _ => ?_)
  ·
    refine z_aload_n C (i := 0) (pc' := 12) dX9_append_11 rfl rfl rfl ?_
    refine z_getfR C (pc' := 15) flRX9_9 dX9_append_12 rfl (fun v2 => ?_)
    refine z_aload_n C (i := 0) (pc' := 16) dX9_append_15 rfl rfl rfl ?_
    refine z_getf C (pc' := 19) flRX9_16 dX9_append_16 rfl (fun v3 => ?_)
    refine z_iload_n C (i := 1) (pc' := 20) dX9_append_19 rfl rfl rfl ?_
    refine z_iast C (pc' := 21) dX9_append_20 rfl (fun u4 => ?_)
    refine z_aload_n C (i := 0) (pc' := 22) dX9_append_21 rfl rfl rfl ?_
    refine z_dup C (pc' := 23) dX9_append_22 rfl rfl ?_
    refine z_getf C (pc' := 26) flRX9_16 dX9_append_23 rfl (fun v5 => ?_)
    refine z_iconst C (pc' := 27) dX9_append_26 kc_1 rfl ?_
    refine z_iadd C (pc' := 28) dX9_append_27 rfl ?_
    refine z_putf C (pc' := 31) flRX9_16 fn9_2 fb9_2 dX9_append_28 rfl (fun u6 => ?_)
    refine z_iconst C (pc' := 32) dX9_append_31 kc_1 rfl ?_
    exact z_zreturn C dX9_append_32
  ·
    refine z_iconst C (pc' := 10) dX9_append_9 kc_0 rfl ?_
    exact z_zreturn C dX9_append_10
def fX9_clear (x0 : Int) (u0 : zMem) : zRs := zpf 9 2 x0 0 u0 (fun u1 => some (0, u1))
set_option maxRecDepth 100000 in
set_option maxHeartbeats 4000000 in
theorem rX9_clear (l : Launch) (w : zW) (x0 : Int) (u0 : zMem) : zSpc l w 1 yX9_clear cX9_clear 1 none 0 [zR x0] u0 (fX9_clear x0 u0) := by
  refine zSpc_of (own := RX9) pnRX9 rfl (Nat.le_of_ble_eq_true rfl) (fun G p e R s m args below meth c C hini => ?_)
  unfold fX9_clear
  refine zlocs (lb := [(0, zR x0)]) ⟨rfl, trivial⟩ ?_
  refine z_aload_n C (i := 0) (pc' := 1) dX9_clear_0 rfl rfl rfl ?_
  refine z_iconst C (pc' := 2) dX9_clear_1 kc_0 rfl ?_
  refine z_putf C (pc' := 5) flRX9_16 fn9_2 fb9_2 dX9_clear_2 rfl (fun u1 => ?_)
  exact z_return C dX9_clear_5
def fX9_sign (x0 : Int) (u0 : zMem) : zRs := zgf 9 5 x0 u0 (fun v1 => zjn (fun (u2 : zMem) => some ((-1), u2)) (fun k3 => if v1 ≥ 0 then (k3 u0) else (zgf 9 4 x0 u0 (fun v4 => zgf 9 2 x0 u0 (fun v5 => if v4 ≥ v5 then (k3 u0) else (zgf 9 0 x0 u0 (fun v6 => zgf 9 4 x0 u0 (fun v7 => zald 20 v6 v7 u0 (fun v8 => some (v8, u0))))))))))
set_option maxRecDepth 100000 in
set_option maxHeartbeats 4000000 in
theorem rX9_sign (l : Launch) (w : zW) (x0 : Int) (u0 : zMem) : zSpc l w 1 yX9_sign cX9_sign 1 (some .int) 1 [zR x0] u0 (fX9_sign x0 u0) := by
  refine zSpc_of (own := RX9) pnRX9 rfl (Nat.le_of_ble_eq_true rfl) (fun G p e R s m args below meth c C hini => ?_)
  unfold fX9_sign
  refine zlocs (lb := [(0, zR x0)]) ⟨rfl, trivial⟩ ?_
  refine z_aload_n C (i := 0) (pc' := 1) dX9_sign_0 rfl rfl rfl ?_
  refine z_getf C (pc' := 4) flRX9_38 dX9_sign_1 rfl (fun v1 => ?_)
  refine zjoin (P := fun (f : zMem → zRs) => ∀ (u2 : zMem), zSim G p l e R s m args below meth c w 1 (znc u0) (zM w 1 (znc u0) below args s) 30 [] [] u2 (f u2)) (fun u2 => ?_) (fun k3 hk3 => ?_)
  ·
    refine z_iconst C (pc' := 31) dX9_sign_30 kc_m1 rfl ?_
    exact z_ireturn C dX9_sign_31
  ·
    refine z_if_ge C (pc' := 30) (pf := 7) dX9_sign_4 rfl rfl (fun _ => ?_) (fun _ => ?_)
    ·
      exact zlocs (lb := []) trivial (hk3 _)
    ·
      refine z_aload_n C (i := 0) (pc' := 8) dX9_sign_7 rfl rfl rfl ?_
      refine z_getf C (pc' := 11) flRX9_35 dX9_sign_8 rfl (fun v4 => ?_)
      refine z_aload_n C (i := 0) (pc' := 12) dX9_sign_11 rfl rfl rfl ?_
      refine z_getf C (pc' := 15) flRX9_16 dX9_sign_12 rfl (fun v5 => ?_)
      refine z_icmp_ge C (pc' := 30) (pf := 18) dX9_sign_15 rfl rfl (fun _ => ?_) (fun _ => ?_)
      ·
        exact zlocs (lb := []) trivial (hk3 _)
      ·
        refine z_aload_n C (i := 0) (pc' := 19) dX9_sign_18 rfl rfl rfl ?_
        refine z_getfR C (pc' := 22) flRX9_9 dX9_sign_19 rfl (fun v6 => ?_)
        refine z_aload_n C (i := 0) (pc' := 23) dX9_sign_22 rfl rfl rfl ?_
        refine z_getf C (pc' := 26) flRX9_35 dX9_sign_23 rfl (fun v7 => ?_)
        refine z_iald C (pc' := 27) dX9_sign_26 rfl (fun v8 => ?_)
        refine z_goto C (pc' := 31) dX9_sign_27 rfl ?_
        exact z_ireturn C dX9_sign_31
def fX9_isDigit (x0 : Int) (u0 : zMem) : zRs := zjn (fun (u1 : zMem) => zbl 0 (some (0, u1))) (fun k2 => if x0 < 48 then (k2 u0) else (if x0 > 57 then (k2 u0) else (zbl 1 (some (1, u0)))))
set_option maxRecDepth 100000 in
set_option maxHeartbeats 4000000 in
theorem rX9_isDigit (l : Launch) (w : zW) (x0 : Int) (u0 : zMem) : zSpc l w 1 yX9_isDigit cX9_isDigit 1 (some .boolean) 1 [zI x0] u0 (fX9_isDigit x0 u0) := by
  refine zSpc_of (own := RX9) pnRX9 rfl (Nat.le_of_ble_eq_true rfl) (fun G p e R s m args below meth c C hini => ?_)
  unfold fX9_isDigit
  refine zlocs (lb := [(0, zI x0)]) ⟨rfl, trivial⟩ ?_
  refine z_iload_n C (i := 0) (pc' := 1) dX9_isDigit_0 rfl rfl rfl ?_
  refine z_bipush C (pc' := 3) dX9_isDigit_1 kb_48 rfl ?_
  refine zjoin (P := fun (f : zMem → zRs) => ∀ (u1 : zMem), zSim G p l e R s m args below meth c w 1 (znc u0) (zM w 1 (znc u0) below args s) 16 [] [] u1 (f u1)) (fun u1 => ?_) (fun k2 hk2 => ?_)
  ·
    refine z_iconst C (pc' := 17) dX9_isDigit_16 kc_0 rfl ?_
    exact z_zreturn C dX9_isDigit_17
  ·
    refine z_icmp_lt C (pc' := 16) (pf := 6) dX9_isDigit_3 rfl rfl (fun _ => ?_) (fun _ => ?_)
    ·
      exact zlocs (lb := []) trivial (hk2 _)
    ·
      refine z_iload_n C (i := 0) (pc' := 7) dX9_isDigit_6 rfl rfl rfl ?_
      refine z_bipush C (pc' := 9) dX9_isDigit_7 kb_57 rfl ?_
      refine z_icmp_gt C (pc' := 16) (pf := 12) dX9_isDigit_9 rfl rfl (fun _ => ?_) (fun _ => ?_)
      ·
        exact zlocs (lb := []) trivial (hk2 _)
      ·
        refine z_iconst C (pc' := 13) dX9_isDigit_12 kc_1 rfl ?_
        refine z_goto C (pc' := 17) dX9_isDigit_13 rfl ?_
        exact z_zreturn C dX9_isDigit_17
def fX9_code (x0 x1 : Int) (u0 : zMem) : zRs := zgf 9 3 x0 u0 (fun v1 => if v1 ≥ 121 then (some (0, u0)) else (zgf 9 1 x0 u0 (fun v2 => zgf 9 3 x0 u0 (fun v3 => zast 20 v2 v3 x1 u0 (fun u4 => zgf 9 3 x0 u4 (fun v5 => zpf 9 3 x0 (zw32 (v5 + 1)) u4 (fun u6 => some (0, u6))))))))
set_option maxRecDepth 100000 in
set_option maxHeartbeats 4000000 in
theorem rX9_code (l : Launch) (w : zW) (x0 x1 : Int) (u0 : zMem) : zSpc l w 1 yX9_code cX9_code 2 none 0 [zR x0, zI x1] u0 (fX9_code x0 x1 u0) := by
  refine zSpc_of (own := RX9) pnRX9 rfl (Nat.le_of_ble_eq_true rfl) (fun G p e R s m args below meth c C hini => ?_)
  unfold fX9_code
  refine zlocs (lb := [(0, zR x0), (1, zI x1)]) ⟨rfl, rfl, trivial⟩ ?_
  refine z_aload_n C (i := 0) (pc' := 1) dX9_code_0 rfl rfl rfl ?_
  refine z_getf C (pc' := 4) flRX9_20 dX9_code_1 rfl (fun v1 => ?_)
  refine z_bipush C (pc' := 6) dX9_code_4 kb_121 rfl ?_
  refine z_icmp_ge C (pc' := 29) (pf := 9) dX9_code_6 rfl rfl (fun _ => ?_) (fun _ => ?_)
  ·
    exact z_return C dX9_code_29
  ·
    refine z_aload_n C (i := 0) (pc' := 10) dX9_code_9 rfl rfl rfl ?_
    refine z_getfR C (pc' := 13) flRX9_13 dX9_code_10 rfl (fun v2 => ?_)
    refine z_aload_n C (i := 0) (pc' := 14) dX9_code_13 rfl rfl rfl ?_
    refine z_getf C (pc' := 17) flRX9_20 dX9_code_14 rfl (fun v3 => ?_)
    refine z_iload_n C (i := 1) (pc' := 18) dX9_code_17 rfl rfl rfl ?_
    refine z_iast C (pc' := 19) dX9_code_18 rfl (fun u4 => ?_)
    refine z_aload_n C (i := 0) (pc' := 20) dX9_code_19 rfl rfl rfl ?_
    refine z_dup C (pc' := 21) dX9_code_20 rfl rfl ?_
    refine z_getf C (pc' := 24) flRX9_20 dX9_code_21 rfl (fun v5 => ?_)
    refine z_iconst C (pc' := 25) dX9_code_24 kc_1 rfl ?_
    refine z_iadd C (pc' := 26) dX9_code_25 rfl ?_
    refine z_putf C (pc' := 29) flRX9_20 fn9_3 fb9_3 dX9_code_26 rfl (fun u6 => ?_)
    exact z_return C dX9_code_29
def fX9_number (x0 : Int) (u0 : zMem) : zRs := zlp (fun _ _ _ => none) (fun k4 (v1 : Int) (v2 : Int) (u3 : zMem) => zjn (fun (u5 : zMem) => zvc 9 x0 (fX9_code x0 v1 u5) (fun _ u7 => some (0, u7))) (fun k6 => if v2 ≥ 4 then (k6 u3) else (zvc 9 x0 (fX9_sign x0 u3) (fun v8 u9 => zcall (fX9_isDigit v8 u9) (fun v10 u11 => if v10 = 0 then (k6 u11) else (zvc 9 x0 (fX9_sign x0 u11) (fun v12 u13 => zgf 9 4 x0 u13 (fun v14 => zpf 9 4 x0 (zw32 (v14 + 1)) u13 (fun u15 => k4 (zw32 ((zw32 ((zw32 (v1 * 10)) + v12)) - 48)) (zw32 (v2 + 1)) u15))))))))) 1000000 0 0 u0
set_option maxRecDepth 100000 in
set_option maxHeartbeats 4000000 in
theorem rX9_number (l : Launch) (w : zW) (x0 : Int) (u0 : zMem) : zSpc l w 2 yX9_number cX9_number 3 none 0 [zR x0] u0 (fX9_number x0 u0) := by
  refine zSpc_of (own := RX9) pnRX9 rfl (Nat.le_of_ble_eq_true rfl) (fun G p e R s m args below meth c C hini => ?_)
  unfold fX9_number
  refine zlocs (lb := [(0, zR x0)]) ⟨rfl, trivial⟩ ?_
  refine z_iconst C (pc' := 1) dX9_number_0 kc_0 rfl ?_
  refine z_istore_n C (i := 1) (la' := [(1, zI 0), (0, zR x0)]) (pc' := 2) dX9_number_1 rfl (by decide) rfl rfl ?_
  refine z_iconst C (pc' := 3) dX9_number_2 kc_0 rfl ?_
  refine z_istore_n C (i := 2) (la' := [(2, zI 0), (1, zI 0), (0, zR x0)]) (pc' := 4) dX9_number_3 rfl (by decide) rfl rfl ?_
  refine zlocs (lb := [(0, zR x0), (1, zI 0), (2, zI 0)]) ⟨rfl, rfl, rfl, trivial⟩ ?_
  refine zlp_ind (fun (f : Int → Int → zMem → zRs) => ∀ (v1 : Int) (v2 : Int) (u3 : zMem), zSim G p l e R s m args below meth c w 3 (znc u0) (zM w 0 (znc u0) below args s) 4 [(0, zR x0), (1, zI v1), (2, zI v2)] [] u3 (f v1 v2 u3)) (fun _ _ _ => znone) (fun k4 hk4 v1 v2 u3 => ?_) _ _ _ _
  refine z_iload_n C (i := 2) (pc' := 5) dX9_number_4 rfl rfl rfl ?_
  refine z_iconst C (pc' := 6) dX9_number_5 kc_4 rfl ?_
  refine zjoin (P := fun (f : zMem → zRs) => ∀ (u5 : zMem), zSim G p l e R s m args below meth c w 3 (znc u0) (zM w 0 (znc u0) below args s) 48 [(0, zR x0), (1, zI v1)] [] u5 (f u5)) (fun u5 => ?_) (fun k6 hk6 => ?_)
  ·
    refine z_aload_n C (i := 0) (pc' := 49) dX9_number_48 rfl rfl rfl ?_
    refine z_iload_n C (i := 1) (pc' := 50) dX9_number_49 rfl rfl rfl ?_
    refine z_callV0 C (pc' := 53) lvRX9_91 lc_X9_code rfl dX9_number_50 rfl (by decide) (rX9_code l w x0 v1 u5) rfl (Nat.le_of_ble_eq_true rfl) (fun _ u7 => ?_)
    exact z_return C dX9_number_53
  ·
    refine z_icmp_ge C (pc' := 48) (pf := 9) dX9_number_6 rfl rfl (fun _ => ?_) (fun _ => ?_)
    ·
      exact zlocs (lb := [(0, zR x0), (1, zI v1)]) ⟨rfl, rfl, trivial⟩ (hk6 _)
    ·
      refine z_aload_n C (i := 0) (pc' := 10) dX9_number_9 rfl rfl rfl ?_
      refine z_callV1 C (pc' := 13) lvRX9_77 lc_X9_sign rfl dX9_number_10 rfl (by decide) (rX9_sign l w x0 u3) rfl (Nat.le_of_ble_eq_true rfl) (fun v8 u9 => ?_)
      refine z_callS1 C (pc' := 16) lsRX9_81 lc_X9_isDigit rfl dX9_number_13 rfl (by decide) (rX9_isDigit l w v8 u9) rfl (Nat.le_of_ble_eq_true rfl) (fun v10 u11 => ?_)
      refine z_if_eq C (pc' := 48) (pf := 19) dX9_number_16 rfl rfl (fun _ => ?_) (fun _ => ?_)
      ·
        exact zlocs (lb := [(0, zR x0), (1, zI v1)]) ⟨rfl, rfl, trivial⟩ (hk6 _)
      ·
        refine z_iload_n C (i := 1) (pc' := 20) dX9_number_19 rfl rfl rfl ?_
        refine z_bipush C (pc' := 22) dX9_number_20 kb_10 rfl ?_
        refine z_imul C (pc' := 23) dX9_number_22 rfl ?_
        refine z_aload_n C (i := 0) (pc' := 24) dX9_number_23 rfl rfl rfl ?_
        refine z_callV1 C (pc' := 27) lvRX9_77 lc_X9_sign rfl dX9_number_24 rfl (by decide) (rX9_sign l w x0 u11) rfl (Nat.le_of_ble_eq_true rfl) (fun v12 u13 => ?_)
        refine z_iadd C (pc' := 28) dX9_number_27 rfl ?_
        refine z_bipush C (pc' := 30) dX9_number_28 kb_48 rfl ?_
        refine z_isub C (pc' := 31) dX9_number_30 rfl ?_
        refine z_istore_n C (i := 1) (la' := [(1, zI (zw32 ((zw32 ((zw32 (v1 * 10)) + v12)) - 48))), (0, zR x0), (2, zI v2)]) (pc' := 32) dX9_number_31 rfl (by decide) rfl rfl ?_
        refine z_aload_n C (i := 0) (pc' := 33) dX9_number_32 rfl rfl rfl ?_
        refine z_dup C (pc' := 34) dX9_number_33 rfl rfl ?_
        refine z_getf C (pc' := 37) flRX9_35 dX9_number_34 rfl (fun v14 => ?_)
        refine z_iconst C (pc' := 38) dX9_number_37 kc_1 rfl ?_
        refine z_iadd C (pc' := 39) dX9_number_38 rfl ?_
        refine z_putf C (pc' := 42) flRX9_35 fn9_4 fb9_4 dX9_number_39 rfl (fun u15 => ?_)
        refine z_iinc C (i := 2) (la' := [(2, zI (zw32 (v2 + 1))), (1, zI (zw32 ((zw32 ((zw32 (v1 * 10)) + v12)) - 48))), (0, zR x0)]) (pc' := 45) dX9_number_42 rfl (by decide) rfl rfl ?_
        refine z_goto C (pc' := 4) dX9_number_45 rfl ?_
        exact zlocs (lb := [(0, zR x0), (1, zI (zw32 ((zw32 ((zw32 (v1 * 10)) + v12)) - 48))), (2, zI (zw32 (v2 + 1)))]) ⟨rfl, rfl, rfl, trivial⟩ (hk4 _ _ _)
def fX9_emit (x0 x1 : Int) (u0 : zMem) : zRs := zvc 9 x0 (fX9_code x0 (zw32 (10000 + x1)) u0) (fun _ u1 => some (0, u1))
set_option maxRecDepth 100000 in
set_option maxHeartbeats 4000000 in
theorem rX9_emit (l : Launch) (w : zW) (x0 x1 : Int) (u0 : zMem) : zSpc l w 2 yX9_emit cX9_emit 2 none 0 [zR x0, zI x1] u0 (fX9_emit x0 x1 u0) := by
  refine zSpc_of (own := RX9) pnRX9 rfl (Nat.le_of_ble_eq_true rfl) (fun G p e R s m args below meth c C hini => ?_)
  unfold fX9_emit
  refine zlocs (lb := [(0, zR x0), (1, zI x1)]) ⟨rfl, rfl, trivial⟩ ?_
  refine z_aload_n C (i := 0) (pc' := 1) dX9_emit_0 rfl rfl rfl ?_
  refine z_sipush C (pc' := 4) dX9_emit_1 ks_10000 rfl ?_
  refine z_iload_n C (i := 1) (pc' := 5) dX9_emit_4 rfl rfl rfl ?_
  refine z_iadd C (pc' := 6) dX9_emit_5 rfl ?_
  refine z_callV0 C (pc' := 9) lvRX9_91 lc_X9_code rfl dX9_emit_6 rfl (by decide) (rX9_code l w x0 (zw32 (10000 + x1)) u0) rfl (Nat.le_of_ble_eq_true rfl) (fun _ u1 => ?_)
  exact z_return C dX9_emit_9
def fX9_passes (x0 x1 : Int) (u0 : zMem) : zRs := zvc 9 x0 (fX9_sign x0 u0) (fun v1 u2 => if v1 = x1 then (zgf 9 4 x0 u2 (fun v3 => zpf 9 4 x0 (zw32 (v3 + 1)) u2 (fun u4 => zbl 1 (some (1, u4))))) else (zbl 0 (some (0, u2))))
set_option maxRecDepth 100000 in
set_option maxHeartbeats 4000000 in
theorem rX9_passes (l : Launch) (w : zW) (x0 x1 : Int) (u0 : zMem) : zSpc l w 2 yX9_passes cX9_passes 2 (some .boolean) 1 [zR x0, zI x1] u0 (fX9_passes x0 x1 u0) := by
  refine zSpc_of (own := RX9) pnRX9 rfl (Nat.le_of_ble_eq_true rfl) (fun G p e R s m args below meth c C hini => ?_)
  unfold fX9_passes
  refine zlocs (lb := [(0, zR x0), (1, zI x1)]) ⟨rfl, rfl, trivial⟩ ?_
  refine z_aload_n C (i := 0) (pc' := 1) dX9_passes_0 rfl rfl rfl ?_
  refine z_callV1 C (pc' := 4) lvRX9_77 lc_X9_sign rfl dX9_passes_1 rfl (by decide) (rX9_sign l w x0 u0) rfl (Nat.le_of_ble_eq_true rfl) (fun v1 u2 => ?_)
  refine z_iload_n C (i := 1) (pc' := 5) dX9_passes_4 rfl rfl rfl ?_
  refine z_icmp_eq C (pc' := 10) (pf := 8) dX9_passes_5 rfl rfl (fun _ => ?_) (fun _ => ?_)
  ·
    refine z_aload_n C (i := 0) (pc' := 11) dX9_passes_10 rfl rfl rfl ?_
    refine z_dup C (pc' := 12) dX9_passes_11 rfl rfl ?_
    refine z_getf C (pc' := 15) flRX9_35 dX9_passes_12 rfl (fun v3 => ?_)
    refine z_iconst C (pc' := 16) dX9_passes_15 kc_1 rfl ?_
    refine z_iadd C (pc' := 17) dX9_passes_16 rfl ?_
    refine z_putf C (pc' := 20) flRX9_35 fn9_4 fb9_4 dX9_passes_17 rfl (fun u4 => ?_)
    refine z_iconst C (pc' := 21) dX9_passes_20 kc_1 rfl ?_
    exact z_zreturn C dX9_passes_21
  ·
    refine z_iconst C (pc' := 9) dX9_passes_8 kc_0 rfl ?_
    exact z_zreturn C dX9_passes_9
def fX9_fail (x0 : Int) (u0 : zMem) : zRs := zgf 9 5 x0 u0 (fun v1 => if v1 ≥ 0 then (some (0, u0)) else (zgf 9 4 x0 u0 (fun v2 => zpf 9 5 x0 v2 u0 (fun u3 => some (0, u3)))))
set_option maxRecDepth 100000 in
set_option maxHeartbeats 4000000 in
theorem rX9_fail (l : Launch) (w : zW) (x0 : Int) (u0 : zMem) : zSpc l w 1 yX9_fail cX9_fail 1 none 0 [zR x0] u0 (fX9_fail x0 u0) := by
  refine zSpc_of (own := RX9) pnRX9 rfl (Nat.le_of_ble_eq_true rfl) (fun G p e R s m args below meth c C hini => ?_)
  unfold fX9_fail
  refine zlocs (lb := [(0, zR x0)]) ⟨rfl, trivial⟩ ?_
  refine z_aload_n C (i := 0) (pc' := 1) dX9_fail_0 rfl rfl rfl ?_
  refine z_getf C (pc' := 4) flRX9_38 dX9_fail_1 rfl (fun v1 => ?_)
  refine z_if_ge C (pc' := 15) (pf := 7) dX9_fail_4 rfl rfl (fun _ => ?_) (fun _ => ?_)
  ·
    exact z_return C dX9_fail_15
  ·
    refine z_aload_n C (i := 0) (pc' := 8) dX9_fail_7 rfl rfl rfl ?_
    refine z_aload_n C (i := 0) (pc' := 9) dX9_fail_8 rfl rfl rfl ?_
    refine z_getf C (pc' := 12) flRX9_35 dX9_fail_9 rfl (fun v2 => ?_)
    refine z_putf C (pc' := 15) flRX9_38 fn9_5 fb9_5 dX9_fail_12 rfl (fun u3 => ?_)
    exact z_return C dX9_fail_15
def fX9_passesOneOf (x0 x1 x2 x3 : Int) (u0 : zMem) : zRs := zvc 9 x0 (fX9_sign x0 u0) (fun v1 u2 => zjn (fun (u3 : zMem) => some ((-1), u3)) (fun k4 => if v1 < 0 then (k4 u2) else (zjn (fun (u5 : zMem) => zvc 9 x0 (fX9_passes x0 v1 u5) (fun v7 u8 => if v7 = 0 then (k4 u8) else (some (v1, u8)))) (fun k6 => if v1 = x1 then (k6 u2) else (if v1 = x2 then (k6 u2) else (if v1 ≠ x3 then (k4 u2) else (k6 u2)))))))
set_option maxRecDepth 100000 in
set_option maxHeartbeats 4000000 in
theorem rX9_passesOneOf (l : Launch) (w : zW) (x0 x1 x2 x3 : Int) (u0 : zMem) : zSpc l w 3 yX9_passesOneOf cX9_passesOneOf 5 (some .int) 1 [zR x0, zI x1, zI x2, zI x3] u0 (fX9_passesOneOf x0 x1 x2 x3 u0) := by
  refine zSpc_of (own := RX9) pnRX9 rfl (Nat.le_of_ble_eq_true rfl) (fun G p e R s m args below meth c C hini => ?_)
  unfold fX9_passesOneOf
  refine zlocs (lb := [(0, zR x0), (1, zI x1), (2, zI x2), (3, zI x3)]) ⟨rfl, rfl, rfl, rfl, trivial⟩ ?_
  refine z_aload_n C (i := 0) (pc' := 1) dX9_passesOneOf_0 rfl rfl rfl ?_
  refine z_callV1 C (pc' := 4) lvRX9_77 lc_X9_sign rfl dX9_passesOneOf_1 rfl (by decide) (rX9_sign l w x0 u0) rfl (Nat.le_of_ble_eq_true rfl) (fun v1 u2 => ?_)
  refine z_istore C (i := 4) (la' := [(4, zI v1), (0, zR x0), (1, zI x1), (2, zI x2), (3, zI x3)]) (pc' := 6) dX9_passesOneOf_4 (by decide) rfl rfl ?_
  refine z_iload C (pc' := 8) dX9_passesOneOf_6 rfl rfl ?_
  refine zjoin (P := fun (f : zMem → zRs) => ∀ (u3 : zMem), zSim G p l e R s m args below meth c w 5 (znc u0) (zM w 1 (znc u0) below args s) 43 [] [] u3 (f u3)) (fun u3 => ?_) (fun k4 hk4 => ?_)
  ·
    refine z_iconst C (pc' := 44) dX9_passesOneOf_43 kc_m1 rfl ?_
    exact z_ireturn C dX9_passesOneOf_44
  ·
    refine z_if_lt C (pc' := 43) (pf := 11) dX9_passesOneOf_8 rfl rfl (fun _ => ?_) (fun _ => ?_)
    ·
      exact zlocs (lb := []) trivial (hk4 _)
    ·
      refine z_iload C (pc' := 13) dX9_passesOneOf_11 rfl rfl ?_
      refine z_iload_n C (i := 1) (pc' := 14) dX9_passesOneOf_13 rfl rfl rfl ?_
      refine zjoin (P := fun (f : zMem → zRs) => ∀ (u5 : zMem), zSim G p l e R s m args below meth c w 5 (znc u0) (zM w 1 (znc u0) below args s) 29 [(0, zR x0), (4, zI v1)] [] u5 (f u5)) (fun u5 => ?_) (fun k6 hk6 => ?_)
      ·
        refine z_aload_n C (i := 0) (pc' := 30) dX9_passesOneOf_29 rfl rfl rfl ?_
        refine z_iload C (pc' := 32) dX9_passesOneOf_30 rfl rfl ?_
        refine z_callV1 C (pc' := 35) lvRX9_44 lc_X9_passes rfl dX9_passesOneOf_32 rfl (by decide) (rX9_passes l w x0 v1 u5) rfl (Nat.le_of_ble_eq_true rfl) (fun v7 u8 => ?_)
        refine z_if_eq C (pc' := 43) (pf := 38) dX9_passesOneOf_35 rfl rfl (fun _ => ?_) (fun _ => ?_)
        ·
          exact zlocs (lb := []) trivial (hk4 _)
        ·
          refine z_iload C (pc' := 40) dX9_passesOneOf_38 rfl rfl ?_
          refine z_goto C (pc' := 44) dX9_passesOneOf_40 rfl ?_
          exact z_ireturn C dX9_passesOneOf_44
      ·
        refine z_icmp_eq C (pc' := 29) (pf := 17) dX9_passesOneOf_14 rfl rfl (fun _ => ?_) (fun _ => ?_)
        ·
          exact zlocs (lb := [(0, zR x0), (4, zI v1)]) ⟨rfl, rfl, trivial⟩ (hk6 _)
        ·
          refine z_iload C (pc' := 19) dX9_passesOneOf_17 rfl rfl ?_
          refine z_iload_n C (i := 2) (pc' := 20) dX9_passesOneOf_19 rfl rfl rfl ?_
          refine z_icmp_eq C (pc' := 29) (pf := 23) dX9_passesOneOf_20 rfl rfl (fun _ => ?_) (fun _ => ?_)
          ·
            exact zlocs (lb := [(0, zR x0), (4, zI v1)]) ⟨rfl, rfl, trivial⟩ (hk6 _)
          ·
            refine z_iload C (pc' := 25) dX9_passesOneOf_23 rfl rfl ?_
            refine z_iload_n C (i := 3) (pc' := 26) dX9_passesOneOf_25 rfl rfl rfl ?_
            refine z_icmp_ne C (pc' := 43) (pf := 29) dX9_passesOneOf_26 rfl rfl (fun _ => ?_) (fun _ => ?_)
            ·
              exact zlocs (lb := []) trivial (hk4 _)
            ·
              exact zlocs (lb := [(0, zR x0), (4, zI v1)]) ⟨rfl, rfl, trivial⟩ (hk6 _)
def gX9_either_b0 (rec : (Int → Int → zMem → zRs) × (Int → Int → zMem → zRs) × (Int → Int → zMem → zRs) × (Int → Int → zMem → zRs) × (Int → Int → zMem → zRs) × (Int → Int → zMem → zRs)) : Int → Int → zMem → zRs := fun (x0 x1 : Int) (u0 : zMem) => zvc 9 x0 (rec.2.1 x0 x1 u0) (fun _ u1 => zlp (fun _ _ => none) (fun k4 (v2 : Int) (u3 : zMem) => if v2 ≥ 120 then (some (0, u3)) else (zvc 9 x0 (fX9_passes x0 124 u3) (fun v5 u6 => if v5 = 0 then (some (0, u6)) else (zvc 9 x0 (rec.2.1 x0 x1 u6) (fun _ u7 => zvc 9 x0 (fX9_emit x0 124 u7) (fun _ u8 => k4 (zw32 (v2 + 1)) u8)))))) 1000000 0 u1)
def gX9_either_b1 (rec : (Int → Int → zMem → zRs) × (Int → Int → zMem → zRs) × (Int → Int → zMem → zRs) × (Int → Int → zMem → zRs) × (Int → Int → zMem → zRs) × (Int → Int → zMem → zRs)) : Int → Int → zMem → zRs := fun (x0 x1 : Int) (u0 : zMem) => zvc 9 x0 (rec.2.2.1 x0 x1 u0) (fun _ u1 => zlp (fun _ _ => none) (fun k4 (v2 : Int) (u3 : zMem) => if v2 ≥ 120 then (some (0, u3)) else (zvc 9 x0 (fX9_passes x0 38 u3) (fun v5 u6 => if v5 = 0 then (some (0, u6)) else (zvc 9 x0 (rec.2.2.1 x0 x1 u6) (fun _ u7 => zvc 9 x0 (fX9_emit x0 38 u7) (fun _ u8 => k4 (zw32 (v2 + 1)) u8)))))) 1000000 0 u1)
def gX9_either_b2 (rec : (Int → Int → zMem → zRs) × (Int → Int → zMem → zRs) × (Int → Int → zMem → zRs) × (Int → Int → zMem → zRs) × (Int → Int → zMem → zRs) × (Int → Int → zMem → zRs)) : Int → Int → zMem → zRs := fun (x0 x1 : Int) (u0 : zMem) => zvc 9 x0 (rec.2.2.2.1 x0 x1 u0) (fun _ u1 => zvc 9 x0 (fX9_passesOneOf x0 60 61 62 u1) (fun v2 u3 => if v2 < 0 then (some (0, u3)) else (zvc 9 x0 (rec.2.2.2.1 x0 x1 u3) (fun _ u4 => zvc 9 x0 (fX9_emit x0 v2 u4) (fun _ u5 => some (0, u5))))))
def gX9_either_b3 (rec : (Int → Int → zMem → zRs) × (Int → Int → zMem → zRs) × (Int → Int → zMem → zRs) × (Int → Int → zMem → zRs) × (Int → Int → zMem → zRs) × (Int → Int → zMem → zRs)) : Int → Int → zMem → zRs := fun (x0 x1 : Int) (u0 : zMem) => zvc 9 x0 (rec.2.2.2.2.1 x0 x1 u0) (fun _ u1 => zvc 9 x0 (fX9_passesOneOf x0 43 45 45 u1) (fun v2 u3 => zlp (fun _ _ _ => none) (fun k7 (v4 : Int) (v5 : Int) (u6 : zMem) => if v5 ≥ 120 then (some (0, u6)) else (if v4 < 0 then (some (0, u6)) else (zvc 9 x0 (rec.2.2.2.2.1 x0 x1 u6) (fun _ u8 => zvc 9 x0 (fX9_emit x0 v4 u8) (fun _ u9 => zvc 9 x0 (fX9_passesOneOf x0 43 45 45 u9) (fun v10 u11 => k7 v10 (zw32 (v5 + 1)) u11)))))) 1000000 v2 0 u3))
def gX9_either_b4 (rec : (Int → Int → zMem → zRs) × (Int → Int → zMem → zRs) × (Int → Int → zMem → zRs) × (Int → Int → zMem → zRs) × (Int → Int → zMem → zRs) × (Int → Int → zMem → zRs)) : Int → Int → zMem → zRs := fun (x0 x1 : Int) (u0 : zMem) => zvc 9 x0 (rec.2.2.2.2.2 x0 x1 u0) (fun _ u1 => zvc 9 x0 (fX9_passesOneOf x0 42 47 37 u1) (fun v2 u3 => zlp (fun _ _ _ => none) (fun k7 (v4 : Int) (v5 : Int) (u6 : zMem) => if v5 ≥ 120 then (some (0, u6)) else (if v4 < 0 then (some (0, u6)) else (zvc 9 x0 (rec.2.2.2.2.2 x0 x1 u6) (fun _ u8 => zvc 9 x0 (fX9_emit x0 v4 u8) (fun _ u9 => zvc 9 x0 (fX9_passesOneOf x0 42 47 37 u9) (fun v10 u11 => k7 v10 (zw32 (v5 + 1)) u11)))))) 1000000 v2 0 u3))
def gX9_either_b5 (rec : (Int → Int → zMem → zRs) × (Int → Int → zMem → zRs) × (Int → Int → zMem → zRs) × (Int → Int → zMem → zRs) × (Int → Int → zMem → zRs) × (Int → Int → zMem → zRs)) : Int → Int → zMem → zRs := fun (x0 x1 : Int) (u0 : zMem) => zvc 9 x0 (fX9_sign x0 u0) (fun v1 u2 => zcall (fX9_isDigit v1 u2) (fun v3 u4 => if v3 = 0 then (zcall (fX9_nameOf v1 u4) (fun v5 u6 => if v5 < 0 then (zjn (fun (u7 : zMem) => zjn (fun (u9 : zMem) => zjn (fun (u11 : zMem) => zvc 9 x0 (fX9_fail x0 u11) (fun _ u13 => some (0, u13))) (fun k12 => if x1 ≥ 6 then (k12 u9) else (zvc 9 x0 (fX9_passes x0 45 u9) (fun v14 u15 => if v14 = 0 then (k12 u15) else (zvc 9 x0 (rec.2.2.2.2.2 x0 (zw32 (x1 + 1)) u15) (fun _ u16 => zvc 9 x0 (fX9_emit x0 126 u16) (fun _ u17 => some (0, u17)))))))) (fun k10 => if x1 ≥ 6 then (k10 u7) else (zvc 9 x0 (fX9_passes x0 33 u7) (fun v18 u19 => if v18 = 0 then (k10 u19) else (zvc 9 x0 (rec.2.2.2.2.2 x0 (zw32 (x1 + 1)) u19) (fun _ u20 => zvc 9 x0 (fX9_emit x0 33 u20) (fun _ u21 => some (0, u21)))))))) (fun k8 => if x1 ≥ 6 then (k8 u6) else (zvc 9 x0 (fX9_passes x0 40 u6) (fun v22 u23 => if v22 = 0 then (k8 u23) else (zvc 9 x0 (rec.1 x0 (zw32 (x1 + 1)) u23) (fun _ u24 => zvc 9 x0 (fX9_passes x0 41 u24) (fun v25 u26 => if v25 ≠ 0 then (some (0, u26)) else (zvc 9 x0 (fX9_fail x0 u26) (fun _ u27 => some (0, u27)))))))))) else (zgf 9 4 x0 u6 (fun v28 => zpf 9 4 x0 (zw32 (v28 + 1)) u6 (fun u29 => zvc 9 x0 (fX9_emit x0 v1 u29) (fun _ u30 => some (0, u30))))))) else (zvc 9 x0 (fX9_number x0 u4) (fun _ u31 => some (0, u31)))))
def gX9_either (n : Nat) : (Int → Int → zMem → zRs) × (Int → Int → zMem → zRs) × (Int → Int → zMem → zRs) × (Int → Int → zMem → zRs) × (Int → Int → zMem → zRs) × (Int → Int → zMem → zRs) := zlp ((fun _ _ _ => none), (fun _ _ _ => none), (fun _ _ _ => none), (fun _ _ _ => none), (fun _ _ _ => none), (fun _ _ _ => none)) (fun rec => (gX9_either_b0 rec, gX9_either_b1 rec, gX9_either_b2 rec, gX9_either_b3 rec, gX9_either_b4 rec, gX9_either_b5 rec)) n
def fX9_either (x0 x1 : Int) (u0 : zMem) : zRs := (gX9_either 200).1 x0 x1 u0
def fX9_both (x0 x1 : Int) (u0 : zMem) : zRs := (gX9_either 200).2.1 x0 x1 u0
def fX9_compared (x0 x1 : Int) (u0 : zMem) : zRs := (gX9_either 200).2.2.1 x0 x1 u0
def fX9_sum (x0 x1 : Int) (u0 : zMem) : zRs := (gX9_either 200).2.2.2.1 x0 x1 u0
def fX9_product (x0 x1 : Int) (u0 : zMem) : zRs := (gX9_either 200).2.2.2.2.1 x0 x1 u0
def fX9_operand (x0 x1 : Int) (u0 : zMem) : zRs := (gX9_either 200).2.2.2.2.2 x0 x1 u0
set_option maxRecDepth 100000 in
set_option maxHeartbeats 4000000 in
theorem gX9_either_r0 (l : Launch) (w : zW) (n : Nat) (rec : (Int → Int → zMem → zRs) × (Int → Int → zMem → zRs) × (Int → Int → zMem → zRs) × (Int → Int → zMem → zRs) × (Int → Int → zMem → zRs) × (Int → Int → zMem → zRs)) (ih : (∀ (x0 x1 : Int) (u0 : zMem), zSpc l w (4 + n) yX9_either cX9_either 3 none 0 [zR x0, zI x1] u0 (rec.1 x0 x1 u0)) ∧ (∀ (x0 x1 : Int) (u0 : zMem), zSpc l w (4 + n) yX9_both cX9_both 3 none 0 [zR x0, zI x1] u0 (rec.2.1 x0 x1 u0)) ∧ (∀ (x0 x1 : Int) (u0 : zMem), zSpc l w (4 + n) yX9_compared cX9_compared 3 none 0 [zR x0, zI x1] u0 (rec.2.2.1 x0 x1 u0)) ∧ (∀ (x0 x1 : Int) (u0 : zMem), zSpc l w (4 + n) yX9_sum cX9_sum 4 none 0 [zR x0, zI x1] u0 (rec.2.2.2.1 x0 x1 u0)) ∧ (∀ (x0 x1 : Int) (u0 : zMem), zSpc l w (4 + n) yX9_product cX9_product 4 none 0 [zR x0, zI x1] u0 (rec.2.2.2.2.1 x0 x1 u0)) ∧ (∀ (x0 x1 : Int) (u0 : zMem), zSpc l w (4 + n) yX9_operand cX9_operand 3 none 0 [zR x0, zI x1] u0 (rec.2.2.2.2.2 x0 x1 u0))) : ∀ (x0 x1 : Int) (u0 : zMem), zSpc l w (4 + (n + 1)) yX9_either cX9_either 3 none 0 [zR x0, zI x1] u0 (gX9_either_b0 rec x0 x1 u0) := by
  intro x0 x1 u0
  refine zSpc_of (own := RX9) pnRX9 rfl (Nat.le_of_ble_eq_true rfl) (fun G p e R s m args below meth c C hini => ?_)
  unfold gX9_either_b0
  refine zlocs (lb := [(0, zR x0), (1, zI x1)]) ⟨rfl, rfl, trivial⟩ ?_
  refine z_aload_n C (i := 0) (pc' := 1) dX9_either_0 rfl rfl rfl ?_
  refine z_iload_n C (i := 1) (pc' := 2) dX9_either_1 rfl rfl rfl ?_
  refine z_callV0 C (pc' := 5) lvRX9_58 lc_X9_both rfl dX9_either_2 rfl (by omega) (ih.2.1 x0 x1 u0) rfl (Nat.le_of_ble_eq_true rfl) (fun _ u1 => ?_)
  refine z_iconst C (pc' := 6) dX9_either_5 kc_0 rfl ?_
  refine z_istore_n C (i := 2) (la' := [(2, zI 0), (0, zR x0), (1, zI x1)]) (pc' := 7) dX9_either_6 rfl (by decide) rfl rfl ?_
  refine zlocs (lb := [(0, zR x0), (1, zI x1), (2, zI 0)]) ⟨rfl, rfl, rfl, trivial⟩ ?_
  refine zlp_ind (fun (f : Int → zMem → zRs) => ∀ (v2 : Int) (u3 : zMem), zSim G p l e R s m args below meth c w 3 (znc u0) (zM w 0 (znc u0) below args s) 7 [(0, zR x0), (1, zI x1), (2, zI v2)] [] u3 (f v2 u3)) (fun _ _ => znone) (fun k4 hk4 v2 u3 => ?_) _ _ _
  refine z_iload_n C (i := 2) (pc' := 8) dX9_either_7 rfl rfl rfl ?_
  refine z_bipush C (pc' := 10) dX9_either_8 kb_120 rfl ?_
  refine z_icmp_ge C (pc' := 39) (pf := 13) dX9_either_10 rfl rfl (fun _ => ?_) (fun _ => ?_)
  ·
    exact z_return C dX9_either_39
  ·
    refine z_aload_n C (i := 0) (pc' := 14) dX9_either_13 rfl rfl rfl ?_
    refine z_bipush C (pc' := 16) dX9_either_14 kb_124 rfl ?_
    refine z_callV1 C (pc' := 19) lvRX9_44 lc_X9_passes rfl dX9_either_16 rfl (by omega) (rX9_passes l w x0 124 u3) rfl (Nat.le_of_ble_eq_true rfl) (fun v5 u6 => ?_)
    refine z_if_eq C (pc' := 39) (pf := 22) dX9_either_19 rfl rfl (fun _ => ?_) (fun _ => ?_)
    ·
      exact z_return C dX9_either_39
    ·
      refine z_aload_n C (i := 0) (pc' := 23) dX9_either_22 rfl rfl rfl ?_
      refine z_iload_n C (i := 1) (pc' := 24) dX9_either_23 rfl rfl rfl ?_
      refine z_callV0 C (pc' := 27) lvRX9_58 lc_X9_both rfl dX9_either_24 rfl (by omega) (ih.2.1 x0 x1 u6) rfl (Nat.le_of_ble_eq_true rfl) (fun _ u7 => ?_)
      refine z_aload_n C (i := 0) (pc' := 28) dX9_either_27 rfl rfl rfl ?_
      refine z_bipush C (pc' := 30) dX9_either_28 kb_124 rfl ?_
      refine z_callV0 C (pc' := 33) lvRX9_55 lc_X9_emit rfl dX9_either_30 rfl (by omega) (rX9_emit l w x0 124 u7) rfl (Nat.le_of_ble_eq_true rfl) (fun _ u8 => ?_)
      refine z_iinc C (i := 2) (la' := [(2, zI (zw32 (v2 + 1))), (0, zR x0), (1, zI x1)]) (pc' := 36) dX9_either_33 rfl (by decide) rfl rfl ?_
      refine z_goto C (pc' := 7) dX9_either_36 rfl ?_
      exact zlocs (lb := [(0, zR x0), (1, zI x1), (2, zI (zw32 (v2 + 1)))]) ⟨rfl, rfl, rfl, trivial⟩ (hk4 _ _)
set_option maxRecDepth 100000 in
set_option maxHeartbeats 4000000 in
theorem gX9_either_r1 (l : Launch) (w : zW) (n : Nat) (rec : (Int → Int → zMem → zRs) × (Int → Int → zMem → zRs) × (Int → Int → zMem → zRs) × (Int → Int → zMem → zRs) × (Int → Int → zMem → zRs) × (Int → Int → zMem → zRs)) (ih : (∀ (x0 x1 : Int) (u0 : zMem), zSpc l w (4 + n) yX9_either cX9_either 3 none 0 [zR x0, zI x1] u0 (rec.1 x0 x1 u0)) ∧ (∀ (x0 x1 : Int) (u0 : zMem), zSpc l w (4 + n) yX9_both cX9_both 3 none 0 [zR x0, zI x1] u0 (rec.2.1 x0 x1 u0)) ∧ (∀ (x0 x1 : Int) (u0 : zMem), zSpc l w (4 + n) yX9_compared cX9_compared 3 none 0 [zR x0, zI x1] u0 (rec.2.2.1 x0 x1 u0)) ∧ (∀ (x0 x1 : Int) (u0 : zMem), zSpc l w (4 + n) yX9_sum cX9_sum 4 none 0 [zR x0, zI x1] u0 (rec.2.2.2.1 x0 x1 u0)) ∧ (∀ (x0 x1 : Int) (u0 : zMem), zSpc l w (4 + n) yX9_product cX9_product 4 none 0 [zR x0, zI x1] u0 (rec.2.2.2.2.1 x0 x1 u0)) ∧ (∀ (x0 x1 : Int) (u0 : zMem), zSpc l w (4 + n) yX9_operand cX9_operand 3 none 0 [zR x0, zI x1] u0 (rec.2.2.2.2.2 x0 x1 u0))) : ∀ (x0 x1 : Int) (u0 : zMem), zSpc l w (4 + (n + 1)) yX9_both cX9_both 3 none 0 [zR x0, zI x1] u0 (gX9_either_b1 rec x0 x1 u0) := by
  intro x0 x1 u0
  refine zSpc_of (own := RX9) pnRX9 rfl (Nat.le_of_ble_eq_true rfl) (fun G p e R s m args below meth c C hini => ?_)
  unfold gX9_either_b1
  refine zlocs (lb := [(0, zR x0), (1, zI x1)]) ⟨rfl, rfl, trivial⟩ ?_
  refine z_aload_n C (i := 0) (pc' := 1) dX9_both_0 rfl rfl rfl ?_
  refine z_iload_n C (i := 1) (pc' := 2) dX9_both_1 rfl rfl rfl ?_
  refine z_callV0 C (pc' := 5) lvRX9_61 lc_X9_compared rfl dX9_both_2 rfl (by omega) (ih.2.2.1 x0 x1 u0) rfl (Nat.le_of_ble_eq_true rfl) (fun _ u1 => ?_)
  refine z_iconst C (pc' := 6) dX9_both_5 kc_0 rfl ?_
  refine z_istore_n C (i := 2) (la' := [(2, zI 0), (0, zR x0), (1, zI x1)]) (pc' := 7) dX9_both_6 rfl (by decide) rfl rfl ?_
  refine zlocs (lb := [(0, zR x0), (1, zI x1), (2, zI 0)]) ⟨rfl, rfl, rfl, trivial⟩ ?_
  refine zlp_ind (fun (f : Int → zMem → zRs) => ∀ (v2 : Int) (u3 : zMem), zSim G p l e R s m args below meth c w 3 (znc u0) (zM w 0 (znc u0) below args s) 7 [(0, zR x0), (1, zI x1), (2, zI v2)] [] u3 (f v2 u3)) (fun _ _ => znone) (fun k4 hk4 v2 u3 => ?_) _ _ _
  refine z_iload_n C (i := 2) (pc' := 8) dX9_both_7 rfl rfl rfl ?_
  refine z_bipush C (pc' := 10) dX9_both_8 kb_120 rfl ?_
  refine z_icmp_ge C (pc' := 39) (pf := 13) dX9_both_10 rfl rfl (fun _ => ?_) (fun _ => ?_)
  ·
    exact z_return C dX9_both_39
  ·
    refine z_aload_n C (i := 0) (pc' := 14) dX9_both_13 rfl rfl rfl ?_
    refine z_bipush C (pc' := 16) dX9_both_14 kb_38 rfl ?_
    refine z_callV1 C (pc' := 19) lvRX9_44 lc_X9_passes rfl dX9_both_16 rfl (by omega) (rX9_passes l w x0 38 u3) rfl (Nat.le_of_ble_eq_true rfl) (fun v5 u6 => ?_)
    refine z_if_eq C (pc' := 39) (pf := 22) dX9_both_19 rfl rfl (fun _ => ?_) (fun _ => ?_)
    ·
      exact z_return C dX9_both_39
    ·
      refine z_aload_n C (i := 0) (pc' := 23) dX9_both_22 rfl rfl rfl ?_
      refine z_iload_n C (i := 1) (pc' := 24) dX9_both_23 rfl rfl rfl ?_
      refine z_callV0 C (pc' := 27) lvRX9_61 lc_X9_compared rfl dX9_both_24 rfl (by omega) (ih.2.2.1 x0 x1 u6) rfl (Nat.le_of_ble_eq_true rfl) (fun _ u7 => ?_)
      refine z_aload_n C (i := 0) (pc' := 28) dX9_both_27 rfl rfl rfl ?_
      refine z_bipush C (pc' := 30) dX9_both_28 kb_38 rfl ?_
      refine z_callV0 C (pc' := 33) lvRX9_55 lc_X9_emit rfl dX9_both_30 rfl (by omega) (rX9_emit l w x0 38 u7) rfl (Nat.le_of_ble_eq_true rfl) (fun _ u8 => ?_)
      refine z_iinc C (i := 2) (la' := [(2, zI (zw32 (v2 + 1))), (0, zR x0), (1, zI x1)]) (pc' := 36) dX9_both_33 rfl (by decide) rfl rfl ?_
      refine z_goto C (pc' := 7) dX9_both_36 rfl ?_
      exact zlocs (lb := [(0, zR x0), (1, zI x1), (2, zI (zw32 (v2 + 1)))]) ⟨rfl, rfl, rfl, trivial⟩ (hk4 _ _)
set_option maxRecDepth 100000 in
set_option maxHeartbeats 4000000 in
theorem gX9_either_r2 (l : Launch) (w : zW) (n : Nat) (rec : (Int → Int → zMem → zRs) × (Int → Int → zMem → zRs) × (Int → Int → zMem → zRs) × (Int → Int → zMem → zRs) × (Int → Int → zMem → zRs) × (Int → Int → zMem → zRs)) (ih : (∀ (x0 x1 : Int) (u0 : zMem), zSpc l w (4 + n) yX9_either cX9_either 3 none 0 [zR x0, zI x1] u0 (rec.1 x0 x1 u0)) ∧ (∀ (x0 x1 : Int) (u0 : zMem), zSpc l w (4 + n) yX9_both cX9_both 3 none 0 [zR x0, zI x1] u0 (rec.2.1 x0 x1 u0)) ∧ (∀ (x0 x1 : Int) (u0 : zMem), zSpc l w (4 + n) yX9_compared cX9_compared 3 none 0 [zR x0, zI x1] u0 (rec.2.2.1 x0 x1 u0)) ∧ (∀ (x0 x1 : Int) (u0 : zMem), zSpc l w (4 + n) yX9_sum cX9_sum 4 none 0 [zR x0, zI x1] u0 (rec.2.2.2.1 x0 x1 u0)) ∧ (∀ (x0 x1 : Int) (u0 : zMem), zSpc l w (4 + n) yX9_product cX9_product 4 none 0 [zR x0, zI x1] u0 (rec.2.2.2.2.1 x0 x1 u0)) ∧ (∀ (x0 x1 : Int) (u0 : zMem), zSpc l w (4 + n) yX9_operand cX9_operand 3 none 0 [zR x0, zI x1] u0 (rec.2.2.2.2.2 x0 x1 u0))) : ∀ (x0 x1 : Int) (u0 : zMem), zSpc l w (4 + (n + 1)) yX9_compared cX9_compared 3 none 0 [zR x0, zI x1] u0 (gX9_either_b2 rec x0 x1 u0) := by
  intro x0 x1 u0
  refine zSpc_of (own := RX9) pnRX9 rfl (Nat.le_of_ble_eq_true rfl) (fun G p e R s m args below meth c C hini => ?_)
  unfold gX9_either_b2
  refine zlocs (lb := [(0, zR x0), (1, zI x1)]) ⟨rfl, rfl, trivial⟩ ?_
  refine z_aload_n C (i := 0) (pc' := 1) dX9_compared_0 rfl rfl rfl ?_
  refine z_iload_n C (i := 1) (pc' := 2) dX9_compared_1 rfl rfl rfl ?_
  refine z_callV0 C (pc' := 5) lvRX9_64 lc_X9_sum rfl dX9_compared_2 rfl (by omega) (ih.2.2.2.1 x0 x1 u0) rfl (Nat.le_of_ble_eq_true rfl) (fun _ u1 => ?_)
  refine z_aload_n C (i := 0) (pc' := 6) dX9_compared_5 rfl rfl rfl ?_
  refine z_bipush C (pc' := 8) dX9_compared_6 kb_60 rfl ?_
  refine z_bipush C (pc' := 10) dX9_compared_8 kb_61 rfl ?_
  refine z_bipush C (pc' := 12) dX9_compared_10 kb_62 rfl ?_
  refine z_callV1 C (pc' := 15) lvRX9_67 lc_X9_passesOneOf rfl dX9_compared_12 rfl (by omega) (rX9_passesOneOf l w x0 60 61 62 u1) rfl (Nat.le_of_ble_eq_true rfl) (fun v2 u3 => ?_)
  refine z_istore_n C (i := 2) (la' := [(2, zI v2), (0, zR x0), (1, zI x1)]) (pc' := 16) dX9_compared_15 rfl (by decide) rfl rfl ?_
  refine z_iload_n C (i := 2) (pc' := 17) dX9_compared_16 rfl rfl rfl ?_
  refine z_if_lt C (pc' := 30) (pf := 20) dX9_compared_17 rfl rfl (fun _ => ?_) (fun _ => ?_)
  ·
    exact z_return C dX9_compared_30
  ·
    refine z_aload_n C (i := 0) (pc' := 21) dX9_compared_20 rfl rfl rfl ?_
    refine z_iload_n C (i := 1) (pc' := 22) dX9_compared_21 rfl rfl rfl ?_
    refine z_callV0 C (pc' := 25) lvRX9_64 lc_X9_sum rfl dX9_compared_22 rfl (by omega) (ih.2.2.2.1 x0 x1 u3) rfl (Nat.le_of_ble_eq_true rfl) (fun _ u4 => ?_)
    refine z_aload_n C (i := 0) (pc' := 26) dX9_compared_25 rfl rfl rfl ?_
    refine z_iload_n C (i := 2) (pc' := 27) dX9_compared_26 rfl rfl rfl ?_
    refine z_callV0 C (pc' := 30) lvRX9_55 lc_X9_emit rfl dX9_compared_27 rfl (by omega) (rX9_emit l w x0 v2 u4) rfl (Nat.le_of_ble_eq_true rfl) (fun _ u5 => ?_)
    exact z_return C dX9_compared_30
set_option maxRecDepth 100000 in
set_option maxHeartbeats 4000000 in
theorem gX9_either_r3 (l : Launch) (w : zW) (n : Nat) (rec : (Int → Int → zMem → zRs) × (Int → Int → zMem → zRs) × (Int → Int → zMem → zRs) × (Int → Int → zMem → zRs) × (Int → Int → zMem → zRs) × (Int → Int → zMem → zRs)) (ih : (∀ (x0 x1 : Int) (u0 : zMem), zSpc l w (4 + n) yX9_either cX9_either 3 none 0 [zR x0, zI x1] u0 (rec.1 x0 x1 u0)) ∧ (∀ (x0 x1 : Int) (u0 : zMem), zSpc l w (4 + n) yX9_both cX9_both 3 none 0 [zR x0, zI x1] u0 (rec.2.1 x0 x1 u0)) ∧ (∀ (x0 x1 : Int) (u0 : zMem), zSpc l w (4 + n) yX9_compared cX9_compared 3 none 0 [zR x0, zI x1] u0 (rec.2.2.1 x0 x1 u0)) ∧ (∀ (x0 x1 : Int) (u0 : zMem), zSpc l w (4 + n) yX9_sum cX9_sum 4 none 0 [zR x0, zI x1] u0 (rec.2.2.2.1 x0 x1 u0)) ∧ (∀ (x0 x1 : Int) (u0 : zMem), zSpc l w (4 + n) yX9_product cX9_product 4 none 0 [zR x0, zI x1] u0 (rec.2.2.2.2.1 x0 x1 u0)) ∧ (∀ (x0 x1 : Int) (u0 : zMem), zSpc l w (4 + n) yX9_operand cX9_operand 3 none 0 [zR x0, zI x1] u0 (rec.2.2.2.2.2 x0 x1 u0))) : ∀ (x0 x1 : Int) (u0 : zMem), zSpc l w (4 + (n + 1)) yX9_sum cX9_sum 4 none 0 [zR x0, zI x1] u0 (gX9_either_b3 rec x0 x1 u0) := by
  intro x0 x1 u0
  refine zSpc_of (own := RX9) pnRX9 rfl (Nat.le_of_ble_eq_true rfl) (fun G p e R s m args below meth c C hini => ?_)
  unfold gX9_either_b3
  refine zlocs (lb := [(0, zR x0), (1, zI x1)]) ⟨rfl, rfl, trivial⟩ ?_
  refine z_aload_n C (i := 0) (pc' := 1) dX9_sum_0 rfl rfl rfl ?_
  refine z_iload_n C (i := 1) (pc' := 2) dX9_sum_1 rfl rfl rfl ?_
  refine z_callV0 C (pc' := 5) lvRX9_71 lc_X9_product rfl dX9_sum_2 rfl (by omega) (ih.2.2.2.2.1 x0 x1 u0) rfl (Nat.le_of_ble_eq_true rfl) (fun _ u1 => ?_)
  refine z_aload_n C (i := 0) (pc' := 6) dX9_sum_5 rfl rfl rfl ?_
  refine z_bipush C (pc' := 8) dX9_sum_6 kb_43 rfl ?_
  refine z_bipush C (pc' := 10) dX9_sum_8 kb_45 rfl ?_
  refine z_bipush C (pc' := 12) dX9_sum_10 kb_45 rfl ?_
  refine z_callV1 C (pc' := 15) lvRX9_67 lc_X9_passesOneOf rfl dX9_sum_12 rfl (by omega) (rX9_passesOneOf l w x0 43 45 45 u1) rfl (Nat.le_of_ble_eq_true rfl) (fun v2 u3 => ?_)
  refine z_istore_n C (i := 2) (la' := [(2, zI v2), (0, zR x0), (1, zI x1)]) (pc' := 16) dX9_sum_15 rfl (by decide) rfl rfl ?_
  refine z_iconst C (pc' := 17) dX9_sum_16 kc_0 rfl ?_
  refine z_istore_n C (i := 3) (la' := [(3, zI 0), (2, zI v2), (0, zR x0), (1, zI x1)]) (pc' := 18) dX9_sum_17 rfl (by decide) rfl rfl ?_
  refine zlocs (lb := [(0, zR x0), (1, zI x1), (2, zI v2), (3, zI 0)]) ⟨rfl, rfl, rfl, rfl, trivial⟩ ?_
  refine zlp_ind (fun (f : Int → Int → zMem → zRs) => ∀ (v4 : Int) (v5 : Int) (u6 : zMem), zSim G p l e R s m args below meth c w 4 (znc u0) (zM w 0 (znc u0) below args s) 18 [(0, zR x0), (1, zI x1), (2, zI v4), (3, zI v5)] [] u6 (f v4 v5 u6)) (fun _ _ _ => znone) (fun k7 hk7 v4 v5 u6 => ?_) _ _ _ _
  refine z_iload_n C (i := 3) (pc' := 19) dX9_sum_18 rfl rfl rfl ?_
  refine z_bipush C (pc' := 21) dX9_sum_19 kb_120 rfl ?_
  refine z_icmp_ge C (pc' := 55) (pf := 24) dX9_sum_21 rfl rfl (fun _ => ?_) (fun _ => ?_)
  ·
    exact z_return C dX9_sum_55
  ·
    refine z_iload_n C (i := 2) (pc' := 25) dX9_sum_24 rfl rfl rfl ?_
    refine z_if_lt C (pc' := 55) (pf := 28) dX9_sum_25 rfl rfl (fun _ => ?_) (fun _ => ?_)
    ·
      exact z_return C dX9_sum_55
    ·
      refine z_aload_n C (i := 0) (pc' := 29) dX9_sum_28 rfl rfl rfl ?_
      refine z_iload_n C (i := 1) (pc' := 30) dX9_sum_29 rfl rfl rfl ?_
      refine z_callV0 C (pc' := 33) lvRX9_71 lc_X9_product rfl dX9_sum_30 rfl (by omega) (ih.2.2.2.2.1 x0 x1 u6) rfl (Nat.le_of_ble_eq_true rfl) (fun _ u8 => ?_)
      refine z_aload_n C (i := 0) (pc' := 34) dX9_sum_33 rfl rfl rfl ?_
      refine z_iload_n C (i := 2) (pc' := 35) dX9_sum_34 rfl rfl rfl ?_
      refine z_callV0 C (pc' := 38) lvRX9_55 lc_X9_emit rfl dX9_sum_35 rfl (by omega) (rX9_emit l w x0 v4 u8) rfl (Nat.le_of_ble_eq_true rfl) (fun _ u9 => ?_)
      refine z_aload_n C (i := 0) (pc' := 39) dX9_sum_38 rfl rfl rfl ?_
      refine z_bipush C (pc' := 41) dX9_sum_39 kb_43 rfl ?_
      refine z_bipush C (pc' := 43) dX9_sum_41 kb_45 rfl ?_
      refine z_bipush C (pc' := 45) dX9_sum_43 kb_45 rfl ?_
      refine z_callV1 C (pc' := 48) lvRX9_67 lc_X9_passesOneOf rfl dX9_sum_45 rfl (by omega) (rX9_passesOneOf l w x0 43 45 45 u9) rfl (Nat.le_of_ble_eq_true rfl) (fun v10 u11 => ?_)
      refine z_istore_n C (i := 2) (la' := [(2, zI v10), (0, zR x0), (1, zI x1), (3, zI v5)]) (pc' := 49) dX9_sum_48 rfl (by decide) rfl rfl ?_
      refine z_iinc C (i := 3) (la' := [(3, zI (zw32 (v5 + 1))), (2, zI v10), (0, zR x0), (1, zI x1)]) (pc' := 52) dX9_sum_49 rfl (by decide) rfl rfl ?_
      refine z_goto C (pc' := 18) dX9_sum_52 rfl ?_
      exact zlocs (lb := [(0, zR x0), (1, zI x1), (2, zI v10), (3, zI (zw32 (v5 + 1)))]) ⟨rfl, rfl, rfl, rfl, trivial⟩ (hk7 _ _ _)
set_option maxRecDepth 100000 in
set_option maxHeartbeats 4000000 in
theorem gX9_either_r4 (l : Launch) (w : zW) (n : Nat) (rec : (Int → Int → zMem → zRs) × (Int → Int → zMem → zRs) × (Int → Int → zMem → zRs) × (Int → Int → zMem → zRs) × (Int → Int → zMem → zRs) × (Int → Int → zMem → zRs)) (ih : (∀ (x0 x1 : Int) (u0 : zMem), zSpc l w (4 + n) yX9_either cX9_either 3 none 0 [zR x0, zI x1] u0 (rec.1 x0 x1 u0)) ∧ (∀ (x0 x1 : Int) (u0 : zMem), zSpc l w (4 + n) yX9_both cX9_both 3 none 0 [zR x0, zI x1] u0 (rec.2.1 x0 x1 u0)) ∧ (∀ (x0 x1 : Int) (u0 : zMem), zSpc l w (4 + n) yX9_compared cX9_compared 3 none 0 [zR x0, zI x1] u0 (rec.2.2.1 x0 x1 u0)) ∧ (∀ (x0 x1 : Int) (u0 : zMem), zSpc l w (4 + n) yX9_sum cX9_sum 4 none 0 [zR x0, zI x1] u0 (rec.2.2.2.1 x0 x1 u0)) ∧ (∀ (x0 x1 : Int) (u0 : zMem), zSpc l w (4 + n) yX9_product cX9_product 4 none 0 [zR x0, zI x1] u0 (rec.2.2.2.2.1 x0 x1 u0)) ∧ (∀ (x0 x1 : Int) (u0 : zMem), zSpc l w (4 + n) yX9_operand cX9_operand 3 none 0 [zR x0, zI x1] u0 (rec.2.2.2.2.2 x0 x1 u0))) : ∀ (x0 x1 : Int) (u0 : zMem), zSpc l w (4 + (n + 1)) yX9_product cX9_product 4 none 0 [zR x0, zI x1] u0 (gX9_either_b4 rec x0 x1 u0) := by
  intro x0 x1 u0
  refine zSpc_of (own := RX9) pnRX9 rfl (Nat.le_of_ble_eq_true rfl) (fun G p e R s m args below meth c C hini => ?_)
  unfold gX9_either_b4
  refine zlocs (lb := [(0, zR x0), (1, zI x1)]) ⟨rfl, rfl, trivial⟩ ?_
  refine z_aload_n C (i := 0) (pc' := 1) dX9_product_0 rfl rfl rfl ?_
  refine z_iload_n C (i := 1) (pc' := 2) dX9_product_1 rfl rfl rfl ?_
  refine z_callV0 C (pc' := 5) lvRX9_74 lc_X9_operand rfl dX9_product_2 rfl (by omega) (ih.2.2.2.2.2 x0 x1 u0) rfl (Nat.le_of_ble_eq_true rfl) (fun _ u1 => ?_)
  refine z_aload_n C (i := 0) (pc' := 6) dX9_product_5 rfl rfl rfl ?_
  refine z_bipush C (pc' := 8) dX9_product_6 kb_42 rfl ?_
  refine z_bipush C (pc' := 10) dX9_product_8 kb_47 rfl ?_
  refine z_bipush C (pc' := 12) dX9_product_10 kb_37 rfl ?_
  refine z_callV1 C (pc' := 15) lvRX9_67 lc_X9_passesOneOf rfl dX9_product_12 rfl (by omega) (rX9_passesOneOf l w x0 42 47 37 u1) rfl (Nat.le_of_ble_eq_true rfl) (fun v2 u3 => ?_)
  refine z_istore_n C (i := 2) (la' := [(2, zI v2), (0, zR x0), (1, zI x1)]) (pc' := 16) dX9_product_15 rfl (by decide) rfl rfl ?_
  refine z_iconst C (pc' := 17) dX9_product_16 kc_0 rfl ?_
  refine z_istore_n C (i := 3) (la' := [(3, zI 0), (2, zI v2), (0, zR x0), (1, zI x1)]) (pc' := 18) dX9_product_17 rfl (by decide) rfl rfl ?_
  refine zlocs (lb := [(0, zR x0), (1, zI x1), (2, zI v2), (3, zI 0)]) ⟨rfl, rfl, rfl, rfl, trivial⟩ ?_
  refine zlp_ind (fun (f : Int → Int → zMem → zRs) => ∀ (v4 : Int) (v5 : Int) (u6 : zMem), zSim G p l e R s m args below meth c w 4 (znc u0) (zM w 0 (znc u0) below args s) 18 [(0, zR x0), (1, zI x1), (2, zI v4), (3, zI v5)] [] u6 (f v4 v5 u6)) (fun _ _ _ => znone) (fun k7 hk7 v4 v5 u6 => ?_) _ _ _ _
  refine z_iload_n C (i := 3) (pc' := 19) dX9_product_18 rfl rfl rfl ?_
  refine z_bipush C (pc' := 21) dX9_product_19 kb_120 rfl ?_
  refine z_icmp_ge C (pc' := 55) (pf := 24) dX9_product_21 rfl rfl (fun _ => ?_) (fun _ => ?_)
  ·
    exact z_return C dX9_product_55
  ·
    refine z_iload_n C (i := 2) (pc' := 25) dX9_product_24 rfl rfl rfl ?_
    refine z_if_lt C (pc' := 55) (pf := 28) dX9_product_25 rfl rfl (fun _ => ?_) (fun _ => ?_)
    ·
      exact z_return C dX9_product_55
    ·
      refine z_aload_n C (i := 0) (pc' := 29) dX9_product_28 rfl rfl rfl ?_
      refine z_iload_n C (i := 1) (pc' := 30) dX9_product_29 rfl rfl rfl ?_
      refine z_callV0 C (pc' := 33) lvRX9_74 lc_X9_operand rfl dX9_product_30 rfl (by omega) (ih.2.2.2.2.2 x0 x1 u6) rfl (Nat.le_of_ble_eq_true rfl) (fun _ u8 => ?_)
      refine z_aload_n C (i := 0) (pc' := 34) dX9_product_33 rfl rfl rfl ?_
      refine z_iload_n C (i := 2) (pc' := 35) dX9_product_34 rfl rfl rfl ?_
      refine z_callV0 C (pc' := 38) lvRX9_55 lc_X9_emit rfl dX9_product_35 rfl (by omega) (rX9_emit l w x0 v4 u8) rfl (Nat.le_of_ble_eq_true rfl) (fun _ u9 => ?_)
      refine z_aload_n C (i := 0) (pc' := 39) dX9_product_38 rfl rfl rfl ?_
      refine z_bipush C (pc' := 41) dX9_product_39 kb_42 rfl ?_
      refine z_bipush C (pc' := 43) dX9_product_41 kb_47 rfl ?_
      refine z_bipush C (pc' := 45) dX9_product_43 kb_37 rfl ?_
      refine z_callV1 C (pc' := 48) lvRX9_67 lc_X9_passesOneOf rfl dX9_product_45 rfl (by omega) (rX9_passesOneOf l w x0 42 47 37 u9) rfl (Nat.le_of_ble_eq_true rfl) (fun v10 u11 => ?_)
      refine z_istore_n C (i := 2) (la' := [(2, zI v10), (0, zR x0), (1, zI x1), (3, zI v5)]) (pc' := 49) dX9_product_48 rfl (by decide) rfl rfl ?_
      refine z_iinc C (i := 3) (la' := [(3, zI (zw32 (v5 + 1))), (2, zI v10), (0, zR x0), (1, zI x1)]) (pc' := 52) dX9_product_49 rfl (by decide) rfl rfl ?_
      refine z_goto C (pc' := 18) dX9_product_52 rfl ?_
      exact zlocs (lb := [(0, zR x0), (1, zI x1), (2, zI v10), (3, zI (zw32 (v5 + 1)))]) ⟨rfl, rfl, rfl, rfl, trivial⟩ (hk7 _ _ _)
set_option maxRecDepth 100000 in
set_option maxHeartbeats 4000000 in
theorem gX9_either_r5 (l : Launch) (w : zW) (n : Nat) (rec : (Int → Int → zMem → zRs) × (Int → Int → zMem → zRs) × (Int → Int → zMem → zRs) × (Int → Int → zMem → zRs) × (Int → Int → zMem → zRs) × (Int → Int → zMem → zRs)) (ih : (∀ (x0 x1 : Int) (u0 : zMem), zSpc l w (4 + n) yX9_either cX9_either 3 none 0 [zR x0, zI x1] u0 (rec.1 x0 x1 u0)) ∧ (∀ (x0 x1 : Int) (u0 : zMem), zSpc l w (4 + n) yX9_both cX9_both 3 none 0 [zR x0, zI x1] u0 (rec.2.1 x0 x1 u0)) ∧ (∀ (x0 x1 : Int) (u0 : zMem), zSpc l w (4 + n) yX9_compared cX9_compared 3 none 0 [zR x0, zI x1] u0 (rec.2.2.1 x0 x1 u0)) ∧ (∀ (x0 x1 : Int) (u0 : zMem), zSpc l w (4 + n) yX9_sum cX9_sum 4 none 0 [zR x0, zI x1] u0 (rec.2.2.2.1 x0 x1 u0)) ∧ (∀ (x0 x1 : Int) (u0 : zMem), zSpc l w (4 + n) yX9_product cX9_product 4 none 0 [zR x0, zI x1] u0 (rec.2.2.2.2.1 x0 x1 u0)) ∧ (∀ (x0 x1 : Int) (u0 : zMem), zSpc l w (4 + n) yX9_operand cX9_operand 3 none 0 [zR x0, zI x1] u0 (rec.2.2.2.2.2 x0 x1 u0))) : ∀ (x0 x1 : Int) (u0 : zMem), zSpc l w (4 + (n + 1)) yX9_operand cX9_operand 3 none 0 [zR x0, zI x1] u0 (gX9_either_b5 rec x0 x1 u0) := by
  intro x0 x1 u0
  refine zSpc_of (own := RX9) pnRX9 rfl (Nat.le_of_ble_eq_true rfl) (fun G p e R s m args below meth c C hini => ?_)
  unfold gX9_either_b5
  refine zlocs (lb := [(0, zR x0), (1, zI x1)]) ⟨rfl, rfl, trivial⟩ ?_
  refine z_aload_n C (i := 0) (pc' := 1) dX9_operand_0 rfl rfl rfl ?_
  refine z_callV1 C (pc' := 4) lvRX9_77 lc_X9_sign rfl dX9_operand_1 rfl (by omega) (rX9_sign l w x0 u0) rfl (Nat.le_of_ble_eq_true rfl) (fun v1 u2 => ?_)
  refine z_istore_n C (i := 2) (la' := [(2, zI v1), (0, zR x0), (1, zI x1)]) (pc' := 5) dX9_operand_4 rfl (by decide) rfl rfl ?_
  refine z_iload_n C (i := 2) (pc' := 6) dX9_operand_5 rfl rfl rfl ?_
  refine z_callS1 C (pc' := 9) lsRX9_81 lc_X9_isDigit rfl dX9_operand_6 rfl (by omega) (rX9_isDigit l w v1 u2) rfl (Nat.le_of_ble_eq_true rfl) (fun v3 u4 => ?_)
  refine z_if_eq C (pc' := 19) (pf := 12) dX9_operand_9 rfl rfl (fun _ => ?_) (fun _ => ?_)
  ·
    refine z_iload_n C (i := 2) (pc' := 20) dX9_operand_19 rfl rfl rfl ?_
    refine z_callS1 C (pc' := 23) lsRX9_87 lc_X9_nameOf rfl dX9_operand_20 rfl (by omega) (rX9_nameOf l w v1 u4) rfl (Nat.le_of_ble_eq_true rfl) (fun v5 u6 => ?_)
    refine z_if_lt C (pc' := 44) (pf := 26) dX9_operand_23 rfl rfl (fun _ => ?_) (fun _ => ?_)
    ·
      refine z_iload_n C (i := 1) (pc' := 45) dX9_operand_44 rfl rfl rfl ?_
      refine z_bipush C (pc' := 47) dX9_operand_45 kb_6 rfl ?_
      refine zjoin (P := fun (f : zMem → zRs) => ∀ (u7 : zMem), zSim G p l e R s m args below meth c w 3 (znc u0) (zM w 0 (znc u0) below args s) 82 [(0, zR x0), (1, zI x1)] [] u7 (f u7)) (fun u7 => ?_) (fun k8 hk8 => ?_)
      ·
        refine z_iload_n C (i := 1) (pc' := 83) dX9_operand_82 rfl rfl rfl ?_
        refine z_bipush C (pc' := 85) dX9_operand_83 kb_6 rfl ?_
        refine zjoin (P := fun (f : zMem → zRs) => ∀ (u9 : zMem), zSim G p l e R s m args below meth c w 3 (znc u0) (zM w 0 (znc u0) below args s) 113 [(0, zR x0), (1, zI x1)] [] u9 (f u9)) (fun u9 => ?_) (fun k10 hk10 => ?_)
        ·
          refine z_iload_n C (i := 1) (pc' := 114) dX9_operand_113 rfl rfl rfl ?_
          refine z_bipush C (pc' := 116) dX9_operand_114 kb_6 rfl ?_
          refine zjoin (P := fun (f : zMem → zRs) => ∀ (u11 : zMem), zSim G p l e R s m args below meth c w 3 (znc u0) (zM w 0 (znc u0) below args s) 144 [(0, zR x0)] [] u11 (f u11)) (fun u11 => ?_) (fun k12 hk12 => ?_)
          ·
            refine z_aload_n C (i := 0) (pc' := 145) dX9_operand_144 rfl rfl rfl ?_
            refine z_callV0 C (pc' := 148) lvRX9_48 lc_X9_fail rfl dX9_operand_145 rfl (by omega) (rX9_fail l w x0 u11) rfl (Nat.le_of_ble_eq_true rfl) (fun _ u13 => ?_)
            exact z_return C dX9_operand_148
          ·
            refine z_icmp_ge C (pc' := 144) (pf := 119) dX9_operand_116 rfl rfl (fun _ => ?_) (fun _ => ?_)
            ·
              exact zlocs (lb := [(0, zR x0)]) ⟨rfl, trivial⟩ (hk12 _)
            ·
              refine z_aload_n C (i := 0) (pc' := 120) dX9_operand_119 rfl rfl rfl ?_
              refine z_bipush C (pc' := 122) dX9_operand_120 kb_45 rfl ?_
              refine z_callV1 C (pc' := 125) lvRX9_44 lc_X9_passes rfl dX9_operand_122 rfl (by omega) (rX9_passes l w x0 45 u9) rfl (Nat.le_of_ble_eq_true rfl) (fun v14 u15 => ?_)
              refine z_if_eq C (pc' := 144) (pf := 128) dX9_operand_125 rfl rfl (fun _ => ?_) (fun _ => ?_)
              ·
                exact zlocs (lb := [(0, zR x0)]) ⟨rfl, trivial⟩ (hk12 _)
              ·
                refine z_aload_n C (i := 0) (pc' := 129) dX9_operand_128 rfl rfl rfl ?_
                refine z_iload_n C (i := 1) (pc' := 130) dX9_operand_129 rfl rfl rfl ?_
                refine z_iconst C (pc' := 131) dX9_operand_130 kc_1 rfl ?_
                refine z_iadd C (pc' := 132) dX9_operand_131 rfl ?_
                refine z_callV0 C (pc' := 135) lvRX9_74 lc_X9_operand rfl dX9_operand_132 rfl (by omega) (ih.2.2.2.2.2 x0 (zw32 (x1 + 1)) u15) rfl (Nat.le_of_ble_eq_true rfl) (fun _ u16 => ?_)
                refine z_aload_n C (i := 0) (pc' := 136) dX9_operand_135 rfl rfl rfl ?_
                refine z_bipush C (pc' := 138) dX9_operand_136 kb_126 rfl ?_
                refine z_callV0 C (pc' := 141) lvRX9_55 lc_X9_emit rfl dX9_operand_138 rfl (by omega) (rX9_emit l w x0 126 u16) rfl (Nat.le_of_ble_eq_true rfl) (fun _ u17 => ?_)
                refine z_goto C (pc' := 148) dX9_operand_141 rfl ?_
                exact z_return C dX9_operand_148
        ·
          refine z_icmp_ge C (pc' := 113) (pf := 88) dX9_operand_85 rfl rfl (fun _ => ?_) (fun _ => ?_)
          ·
            exact zlocs (lb := [(0, zR x0), (1, zI x1)]) ⟨rfl, rfl, trivial⟩ (hk10 _)
          ·
            refine z_aload_n C (i := 0) (pc' := 89) dX9_operand_88 rfl rfl rfl ?_
            refine z_bipush C (pc' := 91) dX9_operand_89 kb_33 rfl ?_
            refine z_callV1 C (pc' := 94) lvRX9_44 lc_X9_passes rfl dX9_operand_91 rfl (by omega) (rX9_passes l w x0 33 u7) rfl (Nat.le_of_ble_eq_true rfl) (fun v18 u19 => ?_)
            refine z_if_eq C (pc' := 113) (pf := 97) dX9_operand_94 rfl rfl (fun _ => ?_) (fun _ => ?_)
            ·
              exact zlocs (lb := [(0, zR x0), (1, zI x1)]) ⟨rfl, rfl, trivial⟩ (hk10 _)
            ·
              refine z_aload_n C (i := 0) (pc' := 98) dX9_operand_97 rfl rfl rfl ?_
              refine z_iload_n C (i := 1) (pc' := 99) dX9_operand_98 rfl rfl rfl ?_
              refine z_iconst C (pc' := 100) dX9_operand_99 kc_1 rfl ?_
              refine z_iadd C (pc' := 101) dX9_operand_100 rfl ?_
              refine z_callV0 C (pc' := 104) lvRX9_74 lc_X9_operand rfl dX9_operand_101 rfl (by omega) (ih.2.2.2.2.2 x0 (zw32 (x1 + 1)) u19) rfl (Nat.le_of_ble_eq_true rfl) (fun _ u20 => ?_)
              refine z_aload_n C (i := 0) (pc' := 105) dX9_operand_104 rfl rfl rfl ?_
              refine z_bipush C (pc' := 107) dX9_operand_105 kb_33 rfl ?_
              refine z_callV0 C (pc' := 110) lvRX9_55 lc_X9_emit rfl dX9_operand_107 rfl (by omega) (rX9_emit l w x0 33 u20) rfl (Nat.le_of_ble_eq_true rfl) (fun _ u21 => ?_)
              refine z_goto C (pc' := 148) dX9_operand_110 rfl ?_
              exact z_return C dX9_operand_148
      ·
        refine z_icmp_ge C (pc' := 82) (pf := 50) dX9_operand_47 rfl rfl (fun _ => ?_) (fun _ => ?_)
        ·
          exact zlocs (lb := [(0, zR x0), (1, zI x1)]) ⟨rfl, rfl, trivial⟩ (hk8 _)
        ·
          refine z_aload_n C (i := 0) (pc' := 51) dX9_operand_50 rfl rfl rfl ?_
          refine z_bipush C (pc' := 53) dX9_operand_51 kb_40 rfl ?_
          refine z_callV1 C (pc' := 56) lvRX9_44 lc_X9_passes rfl dX9_operand_53 rfl (by omega) (rX9_passes l w x0 40 u6) rfl (Nat.le_of_ble_eq_true rfl) (fun v22 u23 => ?_)
          refine z_if_eq C (pc' := 82) (pf := 59) dX9_operand_56 rfl rfl (fun _ => ?_) (fun _ => ?_)
          ·
            exact zlocs (lb := [(0, zR x0), (1, zI x1)]) ⟨rfl, rfl, trivial⟩ (hk8 _)
          ·
            refine z_aload_n C (i := 0) (pc' := 60) dX9_operand_59 rfl rfl rfl ?_
            refine z_iload_n C (i := 1) (pc' := 61) dX9_operand_60 rfl rfl rfl ?_
            refine z_iconst C (pc' := 62) dX9_operand_61 kc_1 rfl ?_
            refine z_iadd C (pc' := 63) dX9_operand_62 rfl ?_
            refine z_callV0 C (pc' := 66) lvRX9_51 lc_X9_either rfl dX9_operand_63 rfl (by omega) (ih.1 x0 (zw32 (x1 + 1)) u23) rfl (Nat.le_of_ble_eq_true rfl) (fun _ u24 => ?_)
            refine z_aload_n C (i := 0) (pc' := 67) dX9_operand_66 rfl rfl rfl ?_
            refine z_bipush C (pc' := 69) dX9_operand_67 kb_41 rfl ?_
            refine z_callV1 C (pc' := 72) lvRX9_44 lc_X9_passes rfl dX9_operand_69 rfl (by omega) (rX9_passes l w x0 41 u24) rfl (Nat.le_of_ble_eq_true rfl) (fun v25 u26 => ?_)
            refine z_if_ne C (pc' := 148) (pf := 75) dX9_operand_72 rfl rfl (fun _ => ?_) (fun _ => ?_)
            ·
              exact z_return C dX9_operand_148
            ·
              refine z_aload_n C (i := 0) (pc' := 76) dX9_operand_75 rfl rfl rfl ?_
              refine z_callV0 C (pc' := 79) lvRX9_48 lc_X9_fail rfl dX9_operand_76 rfl (by omega) (rX9_fail l w x0 u26) rfl (Nat.le_of_ble_eq_true rfl) (fun _ u27 => ?_)
              refine z_goto C (pc' := 148) dX9_operand_79 rfl ?_
              exact z_return C dX9_operand_148
    ·
      refine z_aload_n C (i := 0) (pc' := 27) dX9_operand_26 rfl rfl rfl ?_
      refine z_dup C (pc' := 28) dX9_operand_27 rfl rfl ?_
      refine z_getf C (pc' := 31) flRX9_35 dX9_operand_28 rfl (fun v28 => ?_)
      refine z_iconst C (pc' := 32) dX9_operand_31 kc_1 rfl ?_
      refine z_iadd C (pc' := 33) dX9_operand_32 rfl ?_
      refine z_putf C (pc' := 36) flRX9_35 fn9_4 fb9_4 dX9_operand_33 rfl (fun u29 => ?_)
      refine z_aload_n C (i := 0) (pc' := 37) dX9_operand_36 rfl rfl rfl ?_
      refine z_iload_n C (i := 2) (pc' := 38) dX9_operand_37 rfl rfl rfl ?_
      refine z_callV0 C (pc' := 41) lvRX9_55 lc_X9_emit rfl dX9_operand_38 rfl (by omega) (rX9_emit l w x0 v1 u29) rfl (Nat.le_of_ble_eq_true rfl) (fun _ u30 => ?_)
      refine z_goto C (pc' := 148) dX9_operand_41 rfl ?_
      exact z_return C dX9_operand_148
  ·
    refine z_aload_n C (i := 0) (pc' := 13) dX9_operand_12 rfl rfl rfl ?_
    refine z_callV0 C (pc' := 16) lvRX9_84 lc_X9_number rfl dX9_operand_13 rfl (by omega) (rX9_number l w x0 u4) rfl (Nat.le_of_ble_eq_true rfl) (fun _ u31 => ?_)
    refine z_goto C (pc' := 148) dX9_operand_16 rfl ?_
    exact z_return C dX9_operand_148
theorem gX9_either_all (l : Launch) (w : zW) : ∀ n : Nat, (∀ (x0 x1 : Int) (u0 : zMem), zSpc l w (4 + n) yX9_either cX9_either 3 none 0 [zR x0, zI x1] u0 ((gX9_either n).1 x0 x1 u0)) ∧ (∀ (x0 x1 : Int) (u0 : zMem), zSpc l w (4 + n) yX9_both cX9_both 3 none 0 [zR x0, zI x1] u0 ((gX9_either n).2.1 x0 x1 u0)) ∧ (∀ (x0 x1 : Int) (u0 : zMem), zSpc l w (4 + n) yX9_compared cX9_compared 3 none 0 [zR x0, zI x1] u0 ((gX9_either n).2.2.1 x0 x1 u0)) ∧ (∀ (x0 x1 : Int) (u0 : zMem), zSpc l w (4 + n) yX9_sum cX9_sum 4 none 0 [zR x0, zI x1] u0 ((gX9_either n).2.2.2.1 x0 x1 u0)) ∧ (∀ (x0 x1 : Int) (u0 : zMem), zSpc l w (4 + n) yX9_product cX9_product 4 none 0 [zR x0, zI x1] u0 ((gX9_either n).2.2.2.2.1 x0 x1 u0)) ∧ (∀ (x0 x1 : Int) (u0 : zMem), zSpc l w (4 + n) yX9_operand cX9_operand 3 none 0 [zR x0, zI x1] u0 ((gX9_either n).2.2.2.2.2 x0 x1 u0))
  | 0 => ⟨fun _ _ _ => zSpc_none, fun _ _ _ => zSpc_none, fun _ _ _ => zSpc_none, fun _ _ _ => zSpc_none, fun _ _ _ => zSpc_none, fun _ _ _ => zSpc_none⟩
  | n + 1 => ⟨gX9_either_r0 l w n (gX9_either n) (gX9_either_all l w n), gX9_either_r1 l w n (gX9_either n) (gX9_either_all l w n), gX9_either_r2 l w n (gX9_either n) (gX9_either_all l w n), gX9_either_r3 l w n (gX9_either n) (gX9_either_all l w n), gX9_either_r4 l w n (gX9_either n) (gX9_either_all l w n), gX9_either_r5 l w n (gX9_either n) (gX9_either_all l w n)⟩
theorem rX9_either (l : Launch) (w : zW) (x0 x1 : Int) (u0 : zMem) : zSpc l w 204 yX9_either cX9_either 3 none 0 [zR x0, zI x1] u0 (fX9_either x0 x1 u0) := (gX9_either_all l w 200).1 x0 x1 u0
theorem rX9_both (l : Launch) (w : zW) (x0 x1 : Int) (u0 : zMem) : zSpc l w 204 yX9_both cX9_both 3 none 0 [zR x0, zI x1] u0 (fX9_both x0 x1 u0) := (gX9_either_all l w 200).2.1 x0 x1 u0
theorem rX9_compared (l : Launch) (w : zW) (x0 x1 : Int) (u0 : zMem) : zSpc l w 204 yX9_compared cX9_compared 3 none 0 [zR x0, zI x1] u0 (fX9_compared x0 x1 u0) := (gX9_either_all l w 200).2.2.1 x0 x1 u0
theorem rX9_sum (l : Launch) (w : zW) (x0 x1 : Int) (u0 : zMem) : zSpc l w 204 yX9_sum cX9_sum 4 none 0 [zR x0, zI x1] u0 (fX9_sum x0 x1 u0) := (gX9_either_all l w 200).2.2.2.1 x0 x1 u0
theorem rX9_product (l : Launch) (w : zW) (x0 x1 : Int) (u0 : zMem) : zSpc l w 204 yX9_product cX9_product 4 none 0 [zR x0, zI x1] u0 (fX9_product x0 x1 u0) := (gX9_either_all l w 200).2.2.2.2.1 x0 x1 u0
theorem rX9_operand (l : Launch) (w : zW) (x0 x1 : Int) (u0 : zMem) : zSpc l w 204 yX9_operand cX9_operand 3 none 0 [zR x0, zI x1] u0 (fX9_operand x0 x1 u0) := (gX9_either_all l w 200).2.2.2.2.2 x0 x1 u0
def fX9_line (x0 : Int) (u0 : zMem) : zRs := zvc 9 x0 (fX9_either x0 0 u0) (fun _ u1 => zvc 9 x0 (fX9_passes x0 63 u1) (fun v2 u3 => zjn (fun (u4 : zMem) => zvc 9 x0 (fX9_emit x0 59 u4) (fun _ u6 => some (0, u6))) (fun k5 => if v2 = 0 then (k5 u3) else (zvc 9 x0 (fX9_emit x0 63 u3) (fun _ u7 => zvc 9 x0 (fX9_either x0 0 u7) (fun _ u8 => k5 u8))))))
set_option maxRecDepth 100000 in
set_option maxHeartbeats 4000000 in
theorem rX9_line (l : Launch) (w : zW) (x0 : Int) (u0 : zMem) : zSpc l w 205 yX9_line cX9_line 1 none 0 [zR x0] u0 (fX9_line x0 u0) := by
  refine zSpc_of (own := RX9) pnRX9 rfl (Nat.le_of_ble_eq_true rfl) (fun G p e R s m args below meth c C hini => ?_)
  unfold fX9_line
  refine zlocs (lb := [(0, zR x0)]) ⟨rfl, trivial⟩ ?_
  refine z_aload_n C (i := 0) (pc' := 1) dX9_line_0 rfl rfl rfl ?_
  refine z_iconst C (pc' := 2) dX9_line_1 kc_0 rfl ?_
  refine z_callV0 C (pc' := 5) lvRX9_51 lc_X9_either rfl dX9_line_2 rfl (by decide) (rX9_either l w x0 0 u0) rfl (Nat.le_of_ble_eq_true rfl) (fun _ u1 => ?_)
  refine z_aload_n C (i := 0) (pc' := 6) dX9_line_5 rfl rfl rfl ?_
  refine z_bipush C (pc' := 8) dX9_line_6 kb_63 rfl ?_
  refine z_callV1 C (pc' := 11) lvRX9_44 lc_X9_passes rfl dX9_line_8 rfl (by decide) (rX9_passes l w x0 63 u1) rfl (Nat.le_of_ble_eq_true rfl) (fun v2 u3 => ?_)
  refine zjoin (P := fun (f : zMem → zRs) => ∀ (u4 : zMem), zSim G p l e R s m args below meth c w 1 (znc u0) (zM w 0 (znc u0) below args s) 25 [(0, zR x0)] [] u4 (f u4)) (fun u4 => ?_) (fun k5 hk5 => ?_)
  ·
    refine z_aload_n C (i := 0) (pc' := 26) dX9_line_25 rfl rfl rfl ?_
    refine z_bipush C (pc' := 28) dX9_line_26 kb_59 rfl ?_
    refine z_callV0 C (pc' := 31) lvRX9_55 lc_X9_emit rfl dX9_line_28 rfl (by decide) (rX9_emit l w x0 59 u4) rfl (Nat.le_of_ble_eq_true rfl) (fun _ u6 => ?_)
    exact z_return C dX9_line_31
  ·
    refine z_if_eq C (pc' := 25) (pf := 14) dX9_line_11 rfl rfl (fun _ => ?_) (fun _ => ?_)
    ·
      exact zlocs (lb := [(0, zR x0)]) ⟨rfl, trivial⟩ (hk5 _)
    ·
      refine z_aload_n C (i := 0) (pc' := 15) dX9_line_14 rfl rfl rfl ?_
      refine z_bipush C (pc' := 17) dX9_line_15 kb_63 rfl ?_
      refine z_callV0 C (pc' := 20) lvRX9_55 lc_X9_emit rfl dX9_line_17 rfl (by decide) (rX9_emit l w x0 63 u3) rfl (Nat.le_of_ble_eq_true rfl) (fun _ u7 => ?_)
      refine z_aload_n C (i := 0) (pc' := 21) dX9_line_20 rfl rfl rfl ?_
      refine z_iconst C (pc' := 22) dX9_line_21 kc_0 rfl ?_
      refine z_callV0 C (pc' := 25) lvRX9_51 lc_X9_either rfl dX9_line_22 rfl (by decide) (rX9_either l w x0 0 u7) rfl (Nat.le_of_ble_eq_true rfl) (fun _ u8 => ?_)
      exact zlocs (lb := [(0, zR x0)]) ⟨rfl, trivial⟩ (hk5 _)
def fX9_parse (x0 : Int) (u0 : zMem) : zRs := zpf 9 4 x0 0 u0 (fun u1 => zpf 9 3 x0 0 u1 (fun u2 => zpf 9 5 x0 (-1) u2 (fun u3 => zvc 9 x0 (fX9_line x0 u3) (fun _ u4 => zlp (fun _ _ => none) (fun k7 (v5 : Int) (u6 : zMem) => zjn (fun (u8 : zMem) => zgf 9 4 x0 u8 (fun v10 => zgf 9 2 x0 u8 (fun v11 => zjn (fun (u12 : zMem) => zgf 9 5 x0 u12 (fun v14 => some (v14, u12))) (fun k13 => if v10 ≥ v11 then (k13 u8) else (zvc 9 x0 (fX9_fail x0 u8) (fun _ u15 => k13 u15)))))) (fun k9 => if v5 ≥ 120 then (k9 u6) else (zvc 9 x0 (fX9_passes x0 59 u6) (fun v16 u17 => if v16 = 0 then (k9 u17) else (zvc 9 x0 (fX9_line x0 u17) (fun _ u18 => k7 (zw32 (v5 + 1)) u18)))))) 1000000 0 u4))))
set_option maxRecDepth 100000 in
set_option maxHeartbeats 4000000 in
theorem rX9_parse (l : Launch) (w : zW) (x0 : Int) (u0 : zMem) : zSpc l w 206 yX9_parse cX9_parse 2 (some .int) 1 [zR x0] u0 (fX9_parse x0 u0) := by
  refine zSpc_of (own := RX9) pnRX9 rfl (Nat.le_of_ble_eq_true rfl) (fun G p e R s m args below meth c C hini => ?_)
  unfold fX9_parse
  refine zlocs (lb := [(0, zR x0)]) ⟨rfl, trivial⟩ ?_
  refine z_aload_n C (i := 0) (pc' := 1) dX9_parse_0 rfl rfl rfl ?_
  refine z_iconst C (pc' := 2) dX9_parse_1 kc_0 rfl ?_
  refine z_putf C (pc' := 5) flRX9_35 fn9_4 fb9_4 dX9_parse_2 rfl (fun u1 => ?_)
  refine z_aload_n C (i := 0) (pc' := 6) dX9_parse_5 rfl rfl rfl ?_
  refine z_iconst C (pc' := 7) dX9_parse_6 kc_0 rfl ?_
  refine z_putf C (pc' := 10) flRX9_20 fn9_3 fb9_3 dX9_parse_7 rfl (fun u2 => ?_)
  refine z_aload_n C (i := 0) (pc' := 11) dX9_parse_10 rfl rfl rfl ?_
  refine z_iconst C (pc' := 12) dX9_parse_11 kc_m1 rfl ?_
  refine z_putf C (pc' := 15) flRX9_38 fn9_5 fb9_5 dX9_parse_12 rfl (fun u3 => ?_)
  refine z_aload_n C (i := 0) (pc' := 16) dX9_parse_15 rfl rfl rfl ?_
  refine z_callV0 C (pc' := 19) lvRX9_41 lc_X9_line rfl dX9_parse_16 rfl (by decide) (rX9_line l w x0 u3) rfl (Nat.le_of_ble_eq_true rfl) (fun _ u4 => ?_)
  refine z_iconst C (pc' := 20) dX9_parse_19 kc_0 rfl ?_
  refine z_istore_n C (i := 1) (la' := [(1, zI 0), (0, zR x0)]) (pc' := 21) dX9_parse_20 rfl (by decide) rfl rfl ?_
  refine zlocs (lb := [(0, zR x0), (1, zI 0)]) ⟨rfl, rfl, trivial⟩ ?_
  refine zlp_ind (fun (f : Int → zMem → zRs) => ∀ (v5 : Int) (u6 : zMem), zSim G p l e R s m args below meth c w 2 (znc u0) (zM w 1 (znc u0) below args s) 21 [(0, zR x0), (1, zI v5)] [] u6 (f v5 u6)) (fun _ _ => znone) (fun k7 hk7 v5 u6 => ?_) _ _ _
  refine z_iload_n C (i := 1) (pc' := 22) dX9_parse_21 rfl rfl rfl ?_
  refine z_bipush C (pc' := 24) dX9_parse_22 kb_120 rfl ?_
  refine zjoin (P := fun (f : zMem → zRs) => ∀ (u8 : zMem), zSim G p l e R s m args below meth c w 2 (znc u0) (zM w 1 (znc u0) below args s) 46 [(0, zR x0)] [] u8 (f u8)) (fun u8 => ?_) (fun k9 hk9 => ?_)
  ·
    refine z_aload_n C (i := 0) (pc' := 47) dX9_parse_46 rfl rfl rfl ?_
    refine z_getf C (pc' := 50) flRX9_35 dX9_parse_47 rfl (fun v10 => ?_)
    refine z_aload_n C (i := 0) (pc' := 51) dX9_parse_50 rfl rfl rfl ?_
    refine z_getf C (pc' := 54) flRX9_16 dX9_parse_51 rfl (fun v11 => ?_)
    refine zjoin (P := fun (f : zMem → zRs) => ∀ (u12 : zMem), zSim G p l e R s m args below meth c w 2 (znc u0) (zM w 1 (znc u0) below args s) 61 [(0, zR x0)] [] u12 (f u12)) (fun u12 => ?_) (fun k13 hk13 => ?_)
    ·
      refine z_aload_n C (i := 0) (pc' := 62) dX9_parse_61 rfl rfl rfl ?_
      refine z_getf C (pc' := 65) flRX9_38 dX9_parse_62 rfl (fun v14 => ?_)
      exact z_ireturn C dX9_parse_65
    ·
      refine z_icmp_ge C (pc' := 61) (pf := 57) dX9_parse_54 rfl rfl (fun _ => ?_) (fun _ => ?_)
      ·
        exact zlocs (lb := [(0, zR x0)]) ⟨rfl, trivial⟩ (hk13 _)
      ·
        refine z_aload_n C (i := 0) (pc' := 58) dX9_parse_57 rfl rfl rfl ?_
        refine z_callV0 C (pc' := 61) lvRX9_48 lc_X9_fail rfl dX9_parse_58 rfl (by decide) (rX9_fail l w x0 u8) rfl (Nat.le_of_ble_eq_true rfl) (fun _ u15 => ?_)
        exact zlocs (lb := [(0, zR x0)]) ⟨rfl, trivial⟩ (hk13 _)
  ·
    refine z_icmp_ge C (pc' := 46) (pf := 27) dX9_parse_24 rfl rfl (fun _ => ?_) (fun _ => ?_)
    ·
      exact zlocs (lb := [(0, zR x0)]) ⟨rfl, trivial⟩ (hk9 _)
    ·
      refine z_aload_n C (i := 0) (pc' := 28) dX9_parse_27 rfl rfl rfl ?_
      refine z_bipush C (pc' := 30) dX9_parse_28 kb_59 rfl ?_
      refine z_callV1 C (pc' := 33) lvRX9_44 lc_X9_passes rfl dX9_parse_30 rfl (by decide) (rX9_passes l w x0 59 u6) rfl (Nat.le_of_ble_eq_true rfl) (fun v16 u17 => ?_)
      refine z_if_eq C (pc' := 46) (pf := 36) dX9_parse_33 rfl rfl (fun _ => ?_) (fun _ => ?_)
      ·
        exact zlocs (lb := [(0, zR x0)]) ⟨rfl, trivial⟩ (hk9 _)
      ·
        refine z_aload_n C (i := 0) (pc' := 37) dX9_parse_36 rfl rfl rfl ?_
        refine z_callV0 C (pc' := 40) lvRX9_41 lc_X9_line rfl dX9_parse_37 rfl (by decide) (rX9_line l w x0 u17) rfl (Nat.le_of_ble_eq_true rfl) (fun _ u18 => ?_)
        refine z_iinc C (i := 1) (la' := [(1, zI (zw32 (v5 + 1))), (0, zR x0)]) (pc' := 43) dX9_parse_40 rfl (by decide) rfl rfl ?_
        refine z_goto C (pc' := 21) dX9_parse_43 rfl ?_
        exact zlocs (lb := [(0, zR x0), (1, zI (zw32 (v5 + 1)))]) ⟨rfl, rfl, trivial⟩ (hk7 _ _)

theorem dX10_init_0 : decode cX10_init 0 = .ok (.aload_n 0, 1) := by decide +kernel
theorem dX10_init_1 : decode cX10_init 1 = .ok (.invokespecial 1, 3) := by decide +kernel
theorem dX10_init_4 : decode cX10_init 4 = .ok (.aload_n 0, 1) := by decide +kernel
theorem dX10_init_5 : decode cX10_init 5 = .ok (.new 7, 3) := by decide +kernel
theorem dX10_init_8 : decode cX10_init 8 = .ok (.dup, 1) := by decide +kernel
theorem dX10_init_9 : decode cX10_init 9 = .ok (.invokespecial 9, 3) := by decide +kernel
theorem dX10_init_12 : decode cX10_init 12 = .ok (.putfield 10, 3) := by decide +kernel
theorem dX10_init_15 : decode cX10_init 15 = .ok (.aload_n 0, 1) := by decide +kernel
theorem dX10_init_16 : decode cX10_init 16 = .ok (.new 16, 3) := by decide +kernel
theorem dX10_init_19 : decode cX10_init 19 = .ok (.dup, 1) := by decide +kernel
theorem dX10_init_20 : decode cX10_init 20 = .ok (.invokespecial 18, 3) := by decide +kernel
theorem dX10_init_23 : decode cX10_init 23 = .ok (.putfield 19, 3) := by decide +kernel
theorem dX10_init_26 : decode cX10_init 26 = .ok (.aload_n 0, 1) := by decide +kernel
theorem dX10_init_27 : decode cX10_init 27 = .ok (.new 23, 3) := by decide +kernel
theorem dX10_init_30 : decode cX10_init 30 = .ok (.dup, 1) := by decide +kernel
theorem dX10_init_31 : decode cX10_init 31 = .ok (.invokespecial 25, 3) := by decide +kernel
theorem dX10_init_34 : decode cX10_init 34 = .ok (.putfield 26, 3) := by decide +kernel
theorem dX10_init_37 : decode cX10_init 37 = .ok (.aload_n 0, 1) := by decide +kernel
theorem dX10_init_38 : decode cX10_init 38 = .ok (.new 30, 3) := by decide +kernel
theorem dX10_init_41 : decode cX10_init 41 = .ok (.dup, 1) := by decide +kernel
theorem dX10_init_42 : decode cX10_init 42 = .ok (.aload_n 0, 1) := by decide +kernel
theorem dX10_init_43 : decode cX10_init 43 = .ok (.getfield 10, 3) := by decide +kernel
theorem dX10_init_46 : decode cX10_init 46 = .ok (.invokespecial 32, 3) := by decide +kernel
theorem dX10_init_49 : decode cX10_init 49 = .ok (.putfield 35, 3) := by decide +kernel
theorem dX10_init_52 : decode cX10_init 52 = .ok (.aload_n 0, 1) := by decide +kernel
theorem dX10_init_53 : decode cX10_init 53 = .ok (.new 39, 3) := by decide +kernel
theorem dX10_init_56 : decode cX10_init 56 = .ok (.dup, 1) := by decide +kernel
theorem dX10_init_57 : decode cX10_init 57 = .ok (.aload_n 0, 1) := by decide +kernel
theorem dX10_init_58 : decode cX10_init 58 = .ok (.getfield 10, 3) := by decide +kernel
theorem dX10_init_61 : decode cX10_init 61 = .ok (.invokespecial 41, 3) := by decide +kernel
theorem dX10_init_64 : decode cX10_init 64 = .ok (.putfield 42, 3) := by decide +kernel
theorem dX10_init_67 : decode cX10_init 67 = .ok (.aload_n 0, 1) := by decide +kernel
theorem dX10_init_68 : decode cX10_init 68 = .ok (.new 46, 3) := by decide +kernel
theorem dX10_init_71 : decode cX10_init 71 = .ok (.dup, 1) := by decide +kernel
theorem dX10_init_72 : decode cX10_init 72 = .ok (.invokespecial 48, 3) := by decide +kernel
theorem dX10_init_75 : decode cX10_init 75 = .ok (.putfield 49, 3) := by decide +kernel
theorem dX10_init_78 : decode cX10_init 78 = .ok (.aload_n 0, 1) := by decide +kernel
theorem dX10_init_79 : decode cX10_init 79 = .ok (.bipush 6, 2) := by decide +kernel
theorem dX10_init_81 : decode cX10_init 81 = .ok (.anewarray 53, 3) := by decide +kernel
theorem dX10_init_84 : decode cX10_init 84 = .ok (.putfield 55, 3) := by decide +kernel
theorem dX10_init_87 : decode cX10_init 87 = .ok (.iconst 0, 1) := by decide +kernel
theorem dX10_init_88 : decode cX10_init 88 = .ok (.istore_n 1, 1) := by decide +kernel
theorem dX10_init_89 : decode cX10_init 89 = .ok (.iload_n 1, 1) := by decide +kernel
theorem dX10_init_90 : decode cX10_init 90 = .ok (.bipush 6, 2) := by decide +kernel
theorem dX10_init_92 : decode cX10_init 92 = .ok (.if_icmp .ge 22, 3) := by decide +kernel
theorem dX10_init_95 : decode cX10_init 95 = .ok (.aload_n 0, 1) := by decide +kernel
theorem dX10_init_96 : decode cX10_init 96 = .ok (.getfield 55, 3) := by decide +kernel
theorem dX10_init_99 : decode cX10_init 99 = .ok (.iload_n 1, 1) := by decide +kernel
theorem dX10_init_100 : decode cX10_init 100 = .ok (.new 53, 3) := by decide +kernel
theorem dX10_init_103 : decode cX10_init 103 = .ok (.dup, 1) := by decide +kernel
theorem dX10_init_104 : decode cX10_init 104 = .ok (.invokespecial 59, 3) := by decide +kernel
theorem dX10_init_107 : decode cX10_init 107 = .ok (.aastore, 1) := by decide +kernel
theorem dX10_init_108 : decode cX10_init 108 = .ok (.iinc 1 1, 3) := by decide +kernel
theorem dX10_init_111 : decode cX10_init 111 = .ok (.goto (-22), 3) := by decide +kernel
theorem dX10_init_114 : decode cX10_init 114 = .ok (.return_, 1) := by decide +kernel
theorem dX10_saying_0 : decode cX10_saying 0 = .ok (.iload_n 1, 1) := by decide +kernel
theorem dX10_saying_1 : decode cX10_saying 1 = .ok (.ifCond .lt 7, 3) := by decide +kernel
theorem dX10_saying_4 : decode cX10_saying 4 = .ok (.iload_n 2, 1) := by decide +kernel
theorem dX10_saying_5 : decode cX10_saying 5 = .ok (.ifCond .ge 5, 3) := by decide +kernel
theorem dX10_saying_8 : decode cX10_saying 8 = .ok (.iconst (-1), 1) := by decide +kernel
theorem dX10_saying_9 : decode cX10_saying 9 = .ok (.ireturn, 1) := by decide +kernel
theorem dX10_saying_10 : decode cX10_saying 10 = .ok (.aload_n 0, 1) := by decide +kernel
theorem dX10_saying_11 : decode cX10_saying 11 = .ok (.getfield 10, 3) := by decide +kernel
theorem dX10_saying_14 : decode cX10_saying 14 = .ok (.iload_n 1, 1) := by decide +kernel
theorem dX10_saying_15 : decode cX10_saying 15 = .ok (.bipush 10, 2) := by decide +kernel
theorem dX10_saying_17 : decode cX10_saying 17 = .ok (.idiv, 1) := by decide +kernel
theorem dX10_saying_18 : decode cX10_saying 18 = .ok (.iload_n 1, 1) := by decide +kernel
theorem dX10_saying_19 : decode cX10_saying 19 = .ok (.bipush 10, 2) := by decide +kernel
theorem dX10_saying_21 : decode cX10_saying 21 = .ok (.irem, 1) := by decide +kernel
theorem dX10_saying_22 : decode cX10_saying 22 = .ok (.iload_n 2, 1) := by decide +kernel
theorem dX10_saying_23 : decode cX10_saying 23 = .ok (.bipush 100, 2) := by decide +kernel
theorem dX10_saying_25 : decode cX10_saying 25 = .ok (.idiv, 1) := by decide +kernel
theorem dX10_saying_26 : decode cX10_saying 26 = .ok (.iload_n 2, 1) := by decide +kernel
theorem dX10_saying_27 : decode cX10_saying 27 = .ok (.bipush 100, 2) := by decide +kernel
theorem dX10_saying_29 : decode cX10_saying 29 = .ok (.irem, 1) := by decide +kernel
theorem dX10_saying_30 : decode cX10_saying 30 = .ok (.invokevirtual 60, 3) := by decide +kernel
theorem dX10_saying_33 : decode cX10_saying 33 = .ok (.ireturn, 1) := by decide +kernel
theorem dX10_isShelf_0 : decode cX10_isShelf 0 = .ok (.iload_n 0, 1) := by decide +kernel
theorem dX10_isShelf_1 : decode cX10_isShelf 1 = .ok (.ifCond .lt 13, 3) := by decide +kernel
theorem dX10_isShelf_4 : decode cX10_isShelf 4 = .ok (.iload_n 0, 1) := by decide +kernel
theorem dX10_isShelf_5 : decode cX10_isShelf 5 = .ok (.bipush 6, 2) := by decide +kernel
theorem dX10_isShelf_7 : decode cX10_isShelf 7 = .ok (.if_icmp .ge 7, 3) := by decide +kernel
theorem dX10_isShelf_10 : decode cX10_isShelf 10 = .ok (.iconst 1, 1) := by decide +kernel
theorem dX10_isShelf_11 : decode cX10_isShelf 11 = .ok (.goto 4, 3) := by decide +kernel
theorem dX10_isShelf_14 : decode cX10_isShelf 14 = .ok (.iconst 0, 1) := by decide +kernel
theorem dX10_isShelf_15 : decode cX10_isShelf 15 = .ok (.ireturn, 1) := by decide +kernel
theorem dX10_comesFrom_0 : decode cX10_comesFrom 0 = .ok (.lload_n 2, 1) := by decide +kernel
theorem dX10_comesFrom_1 : decode cX10_comesFrom 1 = .ok (.lconst 0, 1) := by decide +kernel
theorem dX10_comesFrom_2 : decode cX10_comesFrom 2 = .ok (.lcmp, 1) := by decide +kernel
theorem dX10_comesFrom_3 : decode cX10_comesFrom 3 = .ok (.ifCond .lt 17, 3) := by decide +kernel
theorem dX10_comesFrom_6 : decode cX10_comesFrom 6 = .ok (.lload_n 2, 1) := by decide +kernel
theorem dX10_comesFrom_7 : decode cX10_comesFrom 7 = .ok (.ldc2_w 75, 3) := by decide +kernel
theorem dX10_comesFrom_10 : decode cX10_comesFrom 10 = .ok (.ladd, 1) := by decide +kernel
theorem dX10_comesFrom_11 : decode cX10_comesFrom 11 = .ok (.aload_n 1, 1) := by decide +kernel
theorem dX10_comesFrom_12 : decode cX10_comesFrom 12 = .ok (.invokevirtual 321, 3) := by decide +kernel
theorem dX10_comesFrom_15 : decode cX10_comesFrom 15 = .ok (.i2l, 1) := by decide +kernel
theorem dX10_comesFrom_16 : decode cX10_comesFrom 16 = .ok (.lcmp, 1) := by decide +kernel
theorem dX10_comesFrom_17 : decode cX10_comesFrom 17 = .ok (.ifCond .le 5, 3) := by decide +kernel
theorem dX10_comesFrom_20 : decode cX10_comesFrom 20 = .ok (.iconst 0, 1) := by decide +kernel
theorem dX10_comesFrom_21 : decode cX10_comesFrom 21 = .ok (.ireturn, 1) := by decide +kernel
theorem dX10_comesFrom_22 : decode cX10_comesFrom 22 = .ok (.lload_n 2, 1) := by decide +kernel
theorem dX10_comesFrom_23 : decode cX10_comesFrom 23 = .ok (.l2i, 1) := by decide +kernel
theorem dX10_comesFrom_24 : decode cX10_comesFrom 24 = .ok (.istore 4, 2) := by decide +kernel
theorem dX10_comesFrom_26 : decode cX10_comesFrom 26 = .ok (.aload_n 0, 1) := by decide +kernel
theorem dX10_comesFrom_27 : decode cX10_comesFrom 27 = .ok (.getfield 10, 3) := by decide +kernel
theorem dX10_comesFrom_30 : decode cX10_comesFrom 30 = .ok (.aload_n 1, 1) := by decide +kernel
theorem dX10_comesFrom_31 : decode cX10_comesFrom 31 = .ok (.iload 4, 2) := by decide +kernel
theorem dX10_comesFrom_33 : decode cX10_comesFrom 33 = .ok (.invokevirtual 292, 3) := by decide +kernel
theorem dX10_comesFrom_36 : decode cX10_comesFrom 36 = .ok (.l2i, 1) := by decide +kernel
theorem dX10_comesFrom_37 : decode cX10_comesFrom 37 = .ok (.aload_n 1, 1) := by decide +kernel
theorem dX10_comesFrom_38 : decode cX10_comesFrom 38 = .ok (.iload 4, 2) := by decide +kernel
theorem dX10_comesFrom_40 : decode cX10_comesFrom 40 = .ok (.iconst 1, 1) := by decide +kernel
theorem dX10_comesFrom_41 : decode cX10_comesFrom 41 = .ok (.iadd, 1) := by decide +kernel
theorem dX10_comesFrom_42 : decode cX10_comesFrom 42 = .ok (.invokevirtual 292, 3) := by decide +kernel
theorem dX10_comesFrom_45 : decode cX10_comesFrom 45 = .ok (.l2i, 1) := by decide +kernel
theorem dX10_comesFrom_46 : decode cX10_comesFrom 46 = .ok (.aload_n 1, 1) := by decide +kernel
theorem dX10_comesFrom_47 : decode cX10_comesFrom 47 = .ok (.iload 4, 2) := by decide +kernel
theorem dX10_comesFrom_49 : decode cX10_comesFrom 49 = .ok (.iconst 2, 1) := by decide +kernel
theorem dX10_comesFrom_50 : decode cX10_comesFrom 50 = .ok (.iadd, 1) := by decide +kernel
theorem dX10_comesFrom_51 : decode cX10_comesFrom 51 = .ok (.invokevirtual 292, 3) := by decide +kernel
theorem dX10_comesFrom_54 : decode cX10_comesFrom 54 = .ok (.l2i, 1) := by decide +kernel
theorem dX10_comesFrom_55 : decode cX10_comesFrom 55 = .ok (.aload_n 1, 1) := by decide +kernel
theorem dX10_comesFrom_56 : decode cX10_comesFrom 56 = .ok (.iload 4, 2) := by decide +kernel
theorem dX10_comesFrom_58 : decode cX10_comesFrom 58 = .ok (.iconst 3, 1) := by decide +kernel
theorem dX10_comesFrom_59 : decode cX10_comesFrom 59 = .ok (.iadd, 1) := by decide +kernel
theorem dX10_comesFrom_60 : decode cX10_comesFrom 60 = .ok (.invokevirtual 292, 3) := by decide +kernel
theorem dX10_comesFrom_63 : decode cX10_comesFrom 63 = .ok (.l2i, 1) := by decide +kernel
theorem dX10_comesFrom_64 : decode cX10_comesFrom 64 = .ok (.invokevirtual 60, 3) := by decide +kernel
theorem dX10_comesFrom_67 : decode cX10_comesFrom 67 = .ok (.istore 5, 2) := by decide +kernel
theorem dX10_comesFrom_69 : decode cX10_comesFrom 69 = .ok (.iload 5, 2) := by decide +kernel
theorem dX10_comesFrom_71 : decode cX10_comesFrom 71 = .ok (.ifCond .lt 7, 3) := by decide +kernel
theorem dX10_comesFrom_74 : decode cX10_comesFrom 74 = .ok (.iconst 1, 1) := by decide +kernel
theorem dX10_comesFrom_75 : decode cX10_comesFrom 75 = .ok (.goto 4, 3) := by decide +kernel
theorem dX10_comesFrom_78 : decode cX10_comesFrom 78 = .ok (.iconst 0, 1) := by decide +kernel
theorem dX10_comesFrom_79 : decode cX10_comesFrom 79 = .ok (.ireturn, 1) := by decide +kernel
theorem dX10_sayings_0 : decode cX10_sayings 0 = .ok (.iload_n 1, 1) := by decide +kernel
theorem dX10_sayings_1 : decode cX10_sayings 1 = .ok (.invokestatic 64, 3) := by decide +kernel
theorem dX10_sayings_4 : decode cX10_sayings 4 = .ok (.ifCond .eq 14, 3) := by decide +kernel
theorem dX10_sayings_7 : decode cX10_sayings 7 = .ok (.iload_n 3, 1) := by decide +kernel
theorem dX10_sayings_8 : decode cX10_sayings 8 = .ok (.iconst 1, 1) := by decide +kernel
theorem dX10_sayings_9 : decode cX10_sayings 9 = .ok (.if_icmp .lt 9, 3) := by decide +kernel
theorem dX10_sayings_12 : decode cX10_sayings 12 = .ok (.iload_n 3, 1) := by decide +kernel
theorem dX10_sayings_13 : decode cX10_sayings 13 = .ok (.bipush 15, 2) := by decide +kernel
theorem dX10_sayings_15 : decode cX10_sayings 15 = .ok (.if_icmp .le 5, 3) := by decide +kernel
theorem dX10_sayings_18 : decode cX10_sayings 18 = .ok (.iconst (-1), 1) := by decide +kernel
theorem dX10_sayings_19 : decode cX10_sayings 19 = .ok (.ireturn, 1) := by decide +kernel
theorem dX10_sayings_20 : decode cX10_sayings 20 = .ok (.aload_n 0, 1) := by decide +kernel
theorem dX10_sayings_21 : decode cX10_sayings 21 = .ok (.getfield 55, 3) := by decide +kernel
theorem dX10_sayings_24 : decode cX10_sayings 24 = .ok (.iload_n 1, 1) := by decide +kernel
theorem dX10_sayings_25 : decode cX10_sayings 25 = .ok (.aaload, 1) := by decide +kernel
theorem dX10_sayings_26 : decode cX10_sayings 26 = .ok (.astore 4, 2) := by decide +kernel
theorem dX10_sayings_28 : decode cX10_sayings 28 = .ok (.aload 4, 2) := by decide +kernel
theorem dX10_sayings_30 : decode cX10_sayings 30 = .ok (.invokevirtual 68, 3) := by decide +kernel
theorem dX10_sayings_33 : decode cX10_sayings 33 = .ok (.ifCond .eq 5, 3) := by decide +kernel
theorem dX10_sayings_36 : decode cX10_sayings 36 = .ok (.iconst 0, 1) := by decide +kernel
theorem dX10_sayings_37 : decode cX10_sayings 37 = .ok (.ireturn, 1) := by decide +kernel
theorem dX10_sayings_38 : decode cX10_sayings 38 = .ok (.aload 4, 2) := by decide +kernel
theorem dX10_sayings_40 : decode cX10_sayings 40 = .ok (.invokevirtual 72, 3) := by decide +kernel
theorem dX10_sayings_43 : decode cX10_sayings 43 = .ok (.ifCond .ne 6, 3) := by decide +kernel
theorem dX10_sayings_46 : decode cX10_sayings 46 = .ok (.bipush (-12), 2) := by decide +kernel
theorem dX10_sayings_48 : decode cX10_sayings 48 = .ok (.ireturn, 1) := by decide +kernel
theorem dX10_sayings_49 : decode cX10_sayings 49 = .ok (.iconst 0, 1) := by decide +kernel
theorem dX10_sayings_50 : decode cX10_sayings 50 = .ok (.istore 5, 2) := by decide +kernel
theorem dX10_sayings_52 : decode cX10_sayings 52 = .ok (.iload 5, 2) := by decide +kernel
theorem dX10_sayings_54 : decode cX10_sayings 54 = .ok (.iload_n 3, 1) := by decide +kernel
theorem dX10_sayings_55 : decode cX10_sayings 55 = .ok (.if_icmp .ge 31, 3) := by decide +kernel
theorem dX10_sayings_58 : decode cX10_sayings 58 = .ok (.aload_n 0, 1) := by decide +kernel
theorem dX10_sayings_59 : decode cX10_sayings 59 = .ok (.aload 4, 2) := by decide +kernel
theorem dX10_sayings_61 : decode cX10_sayings 61 = .ok (.iload_n 2, 1) := by decide +kernel
theorem dX10_sayings_62 : decode cX10_sayings 62 = .ok (.i2l, 1) := by decide +kernel
theorem dX10_sayings_63 : decode cX10_sayings 63 = .ok (.ldc2_w 75, 3) := by decide +kernel
theorem dX10_sayings_66 : decode cX10_sayings 66 = .ok (.iload 5, 2) := by decide +kernel
theorem dX10_sayings_68 : decode cX10_sayings 68 = .ok (.i2l, 1) := by decide +kernel
theorem dX10_sayings_69 : decode cX10_sayings 69 = .ok (.lmul, 1) := by decide +kernel
theorem dX10_sayings_70 : decode cX10_sayings 70 = .ok (.ladd, 1) := by decide +kernel
theorem dX10_sayings_71 : decode cX10_sayings 71 = .ok (.invokevirtual 77, 3) := by decide +kernel
theorem dX10_sayings_74 : decode cX10_sayings 74 = .ok (.ifCond .ne 6, 3) := by decide +kernel
theorem dX10_sayings_77 : decode cX10_sayings 77 = .ok (.iload 5, 2) := by decide +kernel
theorem dX10_sayings_79 : decode cX10_sayings 79 = .ok (.ireturn, 1) := by decide +kernel
theorem dX10_sayings_80 : decode cX10_sayings 80 = .ok (.iinc 5 1, 3) := by decide +kernel
theorem dX10_sayings_83 : decode cX10_sayings 83 = .ok (.goto (-31), 3) := by decide +kernel
theorem dX10_sayings_86 : decode cX10_sayings 86 = .ok (.iload_n 3, 1) := by decide +kernel
theorem dX10_sayings_87 : decode cX10_sayings 87 = .ok (.ireturn, 1) := by decide +kernel
theorem dX10_mend_0 : decode cX10_mend 0 = .ok (.aload_n 0, 1) := by decide +kernel
theorem dX10_mend_1 : decode cX10_mend 1 = .ok (.getfield 10, 3) := by decide +kernel
theorem dX10_mend_4 : decode cX10_mend 4 = .ok (.iload_n 1, 1) := by decide +kernel
theorem dX10_mend_5 : decode cX10_mend 5 = .ok (.invokevirtual 81, 3) := by decide +kernel
theorem dX10_mend_8 : decode cX10_mend 8 = .ok (.ifCond .eq 11, 3) := by decide +kernel
theorem dX10_mend_11 : decode cX10_mend 11 = .ok (.iload_n 2, 1) := by decide +kernel
theorem dX10_mend_12 : decode cX10_mend 12 = .ok (.iload_n 3, 1) := by decide +kernel
theorem dX10_mend_13 : decode cX10_mend 13 = .ok (.invokestatic 84, 3) := by decide +kernel
theorem dX10_mend_16 : decode cX10_mend 16 = .ok (.ifCond .ne 5, 3) := by decide +kernel
theorem dX10_mend_19 : decode cX10_mend 19 = .ok (.iconst (-1), 1) := by decide +kernel
theorem dX10_mend_20 : decode cX10_mend 20 = .ok (.ireturn, 1) := by decide +kernel
theorem dX10_mend_21 : decode cX10_mend 21 = .ok (.aload_n 0, 1) := by decide +kernel
theorem dX10_mend_22 : decode cX10_mend 22 = .ok (.getfield 10, 3) := by decide +kernel
theorem dX10_mend_25 : decode cX10_mend 25 = .ok (.iload_n 1, 1) := by decide +kernel
theorem dX10_mend_26 : decode cX10_mend 26 = .ok (.iload_n 2, 1) := by decide +kernel
theorem dX10_mend_27 : decode cX10_mend 27 = .ok (.invokevirtual 88, 3) := by decide +kernel
theorem dX10_mend_30 : decode cX10_mend 30 = .ok (.istore 4, 2) := by decide +kernel
theorem dX10_mend_32 : decode cX10_mend 32 = .ok (.iload 4, 2) := by decide +kernel
theorem dX10_mend_34 : decode cX10_mend 34 = .ok (.iload_n 3, 1) := by decide +kernel
theorem dX10_mend_35 : decode cX10_mend 35 = .ok (.if_icmp .eq 25, 3) := by decide +kernel
theorem dX10_mend_38 : decode cX10_mend 38 = .ok (.aload_n 0, 1) := by decide +kernel
theorem dX10_mend_39 : decode cX10_mend 39 = .ok (.getfield 10, 3) := by decide +kernel
theorem dX10_mend_42 : decode cX10_mend 42 = .ok (.iload_n 1, 1) := by decide +kernel
theorem dX10_mend_43 : decode cX10_mend 43 = .ok (.iload_n 2, 1) := by decide +kernel
theorem dX10_mend_44 : decode cX10_mend 44 = .ok (.iload_n 3, 1) := by decide +kernel
theorem dX10_mend_45 : decode cX10_mend 45 = .ok (.invokevirtual 92, 3) := by decide +kernel
theorem dX10_mend_48 : decode cX10_mend 48 = .ok (.aload_n 0, 1) := by decide +kernel
theorem dX10_mend_49 : decode cX10_mend 49 = .ok (.getfield 19, 3) := by decide +kernel
theorem dX10_mend_52 : decode cX10_mend 52 = .ok (.iload_n 1, 1) := by decide +kernel
theorem dX10_mend_53 : decode cX10_mend 53 = .ok (.iload_n 2, 1) := by decide +kernel
theorem dX10_mend_54 : decode cX10_mend 54 = .ok (.iload 4, 2) := by decide +kernel
theorem dX10_mend_56 : decode cX10_mend 56 = .ok (.iload_n 3, 1) := by decide +kernel
theorem dX10_mend_57 : decode cX10_mend 57 = .ok (.invokevirtual 96, 3) := by decide +kernel
theorem dX10_mend_60 : decode cX10_mend 60 = .ok (.iload 4, 2) := by decide +kernel
theorem dX10_mend_62 : decode cX10_mend 62 = .ok (.ireturn, 1) := by decide +kernel
theorem dX10_of_0 : decode cX10_of 0 = .ok (.aload_n 0, 1) := by decide +kernel
theorem dX10_of_1 : decode cX10_of 1 = .ok (.getfield 10, 3) := by decide +kernel
theorem dX10_of_4 : decode cX10_of 4 = .ok (.iload_n 1, 1) := by decide +kernel
theorem dX10_of_5 : decode cX10_of 5 = .ok (.invokevirtual 81, 3) := by decide +kernel
theorem dX10_of_8 : decode cX10_of 8 = .ok (.ifCond .eq 12, 3) := by decide +kernel
theorem dX10_of_11 : decode cX10_of 11 = .ok (.iload_n 2, 1) := by decide +kernel
theorem dX10_of_12 : decode cX10_of 12 = .ok (.ifCond .lt 8, 3) := by decide +kernel
theorem dX10_of_15 : decode cX10_of 15 = .ok (.iload_n 2, 1) := by decide +kernel
theorem dX10_of_16 : decode cX10_of 16 = .ok (.iconst 4, 1) := by decide +kernel
theorem dX10_of_17 : decode cX10_of 17 = .ok (.if_icmp .le 5, 3) := by decide +kernel
theorem dX10_of_20 : decode cX10_of 20 = .ok (.iconst (-1), 1) := by decide +kernel
theorem dX10_of_21 : decode cX10_of 21 = .ok (.ireturn, 1) := by decide +kernel
theorem dX10_of_22 : decode cX10_of 22 = .ok (.iload_n 2, 1) := by decide +kernel
theorem dX10_of_23 : decode cX10_of 23 = .ok (.iconst 4, 1) := by decide +kernel
theorem dX10_of_24 : decode cX10_of 24 = .ok (.if_icmp .ne 14, 3) := by decide +kernel
theorem dX10_of_27 : decode cX10_of 27 = .ok (.aload_n 0, 1) := by decide +kernel
theorem dX10_of_28 : decode cX10_of 28 = .ok (.getfield 10, 3) := by decide +kernel
theorem dX10_of_31 : decode cX10_of 31 = .ok (.iload_n 1, 1) := by decide +kernel
theorem dX10_of_32 : decode cX10_of 32 = .ok (.invokevirtual 100, 3) := by decide +kernel
theorem dX10_of_35 : decode cX10_of 35 = .ok (.goto 12, 3) := by decide +kernel
theorem dX10_of_38 : decode cX10_of 38 = .ok (.aload_n 0, 1) := by decide +kernel
theorem dX10_of_39 : decode cX10_of 39 = .ok (.getfield 10, 3) := by decide +kernel
theorem dX10_of_42 : decode cX10_of 42 = .ok (.iload_n 1, 1) := by decide +kernel
theorem dX10_of_43 : decode cX10_of 43 = .ok (.iload_n 2, 1) := by decide +kernel
theorem dX10_of_44 : decode cX10_of 44 = .ok (.invokevirtual 88, 3) := by decide +kernel
theorem dX10_of_47 : decode cX10_of 47 = .ok (.ireturn, 1) := by decide +kernel
theorem dX10_feed_0 : decode cX10_feed 0 = .ok (.iload_n 1, 1) := by decide +kernel
theorem dX10_feed_1 : decode cX10_feed 1 = .ok (.ifCond .lt 10, 3) := by decide +kernel
theorem dX10_feed_4 : decode cX10_feed 4 = .ok (.iload_n 1, 1) := by decide +kernel
theorem dX10_feed_5 : decode cX10_feed 5 = .ok (.sipush 255, 3) := by decide +kernel
theorem dX10_feed_8 : decode cX10_feed 8 = .ok (.if_icmp .le 5, 3) := by decide +kernel
theorem dX10_feed_11 : decode cX10_feed 11 = .ok (.iconst (-1), 1) := by decide +kernel
theorem dX10_feed_12 : decode cX10_feed 12 = .ok (.ireturn, 1) := by decide +kernel
theorem dX10_feed_13 : decode cX10_feed 13 = .ok (.aload_n 0, 1) := by decide +kernel
theorem dX10_feed_14 : decode cX10_feed 14 = .ok (.getfield 26, 3) := by decide +kernel
theorem dX10_feed_17 : decode cX10_feed 17 = .ok (.iload_n 1, 1) := by decide +kernel
theorem dX10_feed_18 : decode cX10_feed 18 = .ok (.invokevirtual 104, 3) := by decide +kernel
theorem dX10_feed_21 : decode cX10_feed 21 = .ok (.ifCond .eq 13, 3) := by decide +kernel
theorem dX10_feed_24 : decode cX10_feed 24 = .ok (.aload_n 0, 1) := by decide +kernel
theorem dX10_feed_25 : decode cX10_feed 25 = .ok (.getfield 26, 3) := by decide +kernel
theorem dX10_feed_28 : decode cX10_feed 28 = .ok (.invokevirtual 106, 3) := by decide +kernel
theorem dX10_feed_31 : decode cX10_feed 31 = .ok (.goto 5, 3) := by decide +kernel
theorem dX10_feed_34 : decode cX10_feed 34 = .ok (.bipush (-3), 2) := by decide +kernel
theorem dX10_feed_36 : decode cX10_feed 36 = .ok (.ireturn, 1) := by decide +kernel
theorem dX10_writer_0 : decode cX10_writer 0 = .ok (.iload_n 1, 1) := by decide +kernel
theorem dX10_writer_1 : decode cX10_writer 1 = .ok (.ifCond .lt 19, 3) := by decide +kernel
theorem dX10_writer_4 : decode cX10_writer 4 = .ok (.iload_n 1, 1) := by decide +kernel
theorem dX10_writer_5 : decode cX10_writer 5 = .ok (.bipush 10, 2) := by decide +kernel
theorem dX10_writer_7 : decode cX10_writer 7 = .ok (.if_icmp .gt 13, 3) := by decide +kernel
theorem dX10_writer_10 : decode cX10_writer 10 = .ok (.iload_n 2, 1) := by decide +kernel
theorem dX10_writer_11 : decode cX10_writer 11 = .ok (.ifCond .lt 9, 3) := by decide +kernel
theorem dX10_writer_14 : decode cX10_writer 14 = .ok (.iload_n 2, 1) := by decide +kernel
theorem dX10_writer_15 : decode cX10_writer 15 = .ok (.bipush 7, 2) := by decide +kernel
theorem dX10_writer_17 : decode cX10_writer 17 = .ok (.if_icmp .le 5, 3) := by decide +kernel
theorem dX10_writer_20 : decode cX10_writer 20 = .ok (.iconst (-1), 1) := by decide +kernel
theorem dX10_writer_21 : decode cX10_writer 21 = .ok (.ireturn, 1) := by decide +kernel
theorem dX10_writer_22 : decode cX10_writer 22 = .ok (.aload_n 0, 1) := by decide +kernel
theorem dX10_writer_23 : decode cX10_writer 23 = .ok (.getfield 35, 3) := by decide +kernel
theorem dX10_writer_26 : decode cX10_writer 26 = .ok (.invokevirtual 110, 3) := by decide +kernel
theorem dX10_writer_29 : decode cX10_writer 29 = .ok (.ifCond .eq 6, 3) := by decide +kernel
theorem dX10_writer_32 : decode cX10_writer 32 = .ok (.bipush (-3), 2) := by decide +kernel
theorem dX10_writer_34 : decode cX10_writer 34 = .ok (.ireturn, 1) := by decide +kernel
theorem dX10_writer_35 : decode cX10_writer 35 = .ok (.aload_n 0, 1) := by decide +kernel
theorem dX10_writer_36 : decode cX10_writer 36 = .ok (.getfield 26, 3) := by decide +kernel
theorem dX10_writer_39 : decode cX10_writer 39 = .ok (.invokevirtual 113, 3) := by decide +kernel
theorem dX10_writer_42 : decode cX10_writer 42 = .ok (.istore_n 3, 1) := by decide +kernel
theorem dX10_writer_43 : decode cX10_writer 43 = .ok (.iload_n 3, 1) := by decide +kernel
theorem dX10_writer_44 : decode cX10_writer 44 = .ok (.ifCond .lt 10, 3) := by decide +kernel
theorem dX10_writer_47 : decode cX10_writer 47 = .ok (.bipush (-100), 2) := by decide +kernel
theorem dX10_writer_49 : decode cX10_writer 49 = .ok (.iload_n 3, 1) := by decide +kernel
theorem dX10_writer_50 : decode cX10_writer 50 = .ok (.isub, 1) := by decide +kernel
theorem dX10_writer_51 : decode cX10_writer 51 = .ok (.goto 16, 3) := by decide +kernel
theorem dX10_writer_54 : decode cX10_writer 54 = .ok (.aload_n 0, 1) := by decide +kernel
theorem dX10_writer_55 : decode cX10_writer 55 = .ok (.getfield 35, 3) := by decide +kernel
theorem dX10_writer_58 : decode cX10_writer 58 = .ok (.aload_n 0, 1) := by decide +kernel
theorem dX10_writer_59 : decode cX10_writer 59 = .ok (.getfield 26, 3) := by decide +kernel
theorem dX10_writer_62 : decode cX10_writer 62 = .ok (.iload_n 1, 1) := by decide +kernel
theorem dX10_writer_63 : decode cX10_writer 63 = .ok (.iload_n 2, 1) := by decide +kernel
theorem dX10_writer_64 : decode cX10_writer 64 = .ok (.invokevirtual 116, 3) := by decide +kernel
theorem dX10_writer_67 : decode cX10_writer 67 = .ok (.istore 4, 2) := by decide +kernel
theorem dX10_writer_69 : decode cX10_writer 69 = .ok (.aload_n 0, 1) := by decide +kernel
theorem dX10_writer_70 : decode cX10_writer 70 = .ok (.getfield 26, 3) := by decide +kernel
theorem dX10_writer_73 : decode cX10_writer 73 = .ok (.invokevirtual 120, 3) := by decide +kernel
theorem dX10_writer_76 : decode cX10_writer 76 = .ok (.iload 4, 2) := by decide +kernel
theorem dX10_writer_78 : decode cX10_writer 78 = .ok (.ireturn, 1) := by decide +kernel
theorem dX10_heed_0 : decode cX10_heed 0 = .ok (.aload_n 0, 1) := by decide +kernel
theorem dX10_heed_1 : decode cX10_heed 1 = .ok (.getfield 35, 3) := by decide +kernel
theorem dX10_heed_4 : decode cX10_heed 4 = .ok (.iload_n 1, 1) := by decide +kernel
theorem dX10_heed_5 : decode cX10_heed 5 = .ok (.invokevirtual 123, 3) := by decide +kernel
theorem dX10_heed_8 : decode cX10_heed 8 = .ok (.ifCond .eq 14, 3) := by decide +kernel
theorem dX10_heed_11 : decode cX10_heed 11 = .ok (.aload_n 0, 1) := by decide +kernel
theorem dX10_heed_12 : decode cX10_heed 12 = .ok (.getfield 10, 3) := by decide +kernel
theorem dX10_heed_15 : decode cX10_heed 15 = .ok (.iload_n 2, 1) := by decide +kernel
theorem dX10_heed_16 : decode cX10_heed 16 = .ok (.invokevirtual 81, 3) := by decide +kernel
theorem dX10_heed_19 : decode cX10_heed 19 = .ok (.ifCond .ne 5, 3) := by decide +kernel
theorem dX10_heed_22 : decode cX10_heed 22 = .ok (.iconst (-1), 1) := by decide +kernel
theorem dX10_heed_23 : decode cX10_heed 23 = .ok (.ireturn, 1) := by decide +kernel
theorem dX10_heed_24 : decode cX10_heed 24 = .ok (.aload_n 0, 1) := by decide +kernel
theorem dX10_heed_25 : decode cX10_heed 25 = .ok (.getfield 35, 3) := by decide +kernel
theorem dX10_heed_28 : decode cX10_heed 28 = .ok (.iload_n 1, 1) := by decide +kernel
theorem dX10_heed_29 : decode cX10_heed 29 = .ok (.iload_n 2, 1) := by decide +kernel
theorem dX10_heed_30 : decode cX10_heed 30 = .ok (.invokevirtual 124, 3) := by decide +kernel
theorem dX10_heed_33 : decode cX10_heed 33 = .ok (.ireturn, 1) := by decide +kernel
theorem dX10_take_0 : decode cX10_take 0 = .ok (.aload_n 0, 1) := by decide +kernel
theorem dX10_take_1 : decode cX10_take 1 = .ok (.getfield 35, 3) := by decide +kernel
theorem dX10_take_4 : decode cX10_take 4 = .ok (.iload_n 1, 1) := by decide +kernel
theorem dX10_take_5 : decode cX10_take 5 = .ok (.invokevirtual 123, 3) := by decide +kernel
theorem dX10_take_8 : decode cX10_take 8 = .ok (.ifCond .ne 5, 3) := by decide +kernel
theorem dX10_take_11 : decode cX10_take 11 = .ok (.iconst (-1), 1) := by decide +kernel
theorem dX10_take_12 : decode cX10_take 12 = .ok (.ireturn, 1) := by decide +kernel
theorem dX10_take_13 : decode cX10_take 13 = .ok (.aload_n 0, 1) := by decide +kernel
theorem dX10_take_14 : decode cX10_take 14 = .ok (.getfield 42, 3) := by decide +kernel
theorem dX10_take_17 : decode cX10_take 17 = .ok (.iload_n 1, 1) := by decide +kernel
theorem dX10_take_18 : decode cX10_take 18 = .ok (.invokevirtual 127, 3) := by decide +kernel
theorem dX10_take_21 : decode cX10_take 21 = .ok (.istore_n 3, 1) := by decide +kernel
theorem dX10_take_22 : decode cX10_take 22 = .ok (.aload_n 0, 1) := by decide +kernel
theorem dX10_take_23 : decode cX10_take 23 = .ok (.getfield 42, 3) := by decide +kernel
theorem dX10_take_26 : decode cX10_take 26 = .ok (.iload_n 3, 1) := by decide +kernel
theorem dX10_take_27 : decode cX10_take 27 = .ok (.invokevirtual 130, 3) := by decide +kernel
theorem dX10_take_30 : decode cX10_take 30 = .ok (.astore 4, 2) := by decide +kernel
theorem dX10_take_32 : decode cX10_take 32 = .ok (.aload 4, 2) := by decide +kernel
theorem dX10_take_34 : decode cX10_take 34 = .ok (.ifnonnull 6, 3) := by decide +kernel
theorem dX10_take_37 : decode cX10_take 37 = .ok (.bipush (-3), 2) := by decide +kernel
theorem dX10_take_39 : decode cX10_take 39 = .ok (.ireturn, 1) := by decide +kernel
theorem dX10_take_40 : decode cX10_take 40 = .ok (.aload_n 0, 1) := by decide +kernel
theorem dX10_take_41 : decode cX10_take 41 = .ok (.getfield 35, 3) := by decide +kernel
theorem dX10_take_44 : decode cX10_take 44 = .ok (.iload_n 1, 1) := by decide +kernel
theorem dX10_take_45 : decode cX10_take 45 = .ok (.iload_n 2, 1) := by decide +kernel
theorem dX10_take_46 : decode cX10_take 46 = .ok (.aload 4, 2) := by decide +kernel
theorem dX10_take_48 : decode cX10_take 48 = .ok (.invokevirtual 134, 3) := by decide +kernel
theorem dX10_take_51 : decode cX10_take 51 = .ok (.iload_n 3, 1) := by decide +kernel
theorem dX10_take_52 : decode cX10_take 52 = .ok (.ireturn, 1) := by decide +kernel
theorem dX10_told_0 : decode cX10_told 0 = .ok (.iload_n 1, 1) := by decide +kernel
theorem dX10_told_1 : decode cX10_told 1 = .ok (.iconst (-1), 1) := by decide +kernel
theorem dX10_told_2 : decode cX10_told 2 = .ok (.if_icmp .eq 14, 3) := by decide +kernel
theorem dX10_told_5 : decode cX10_told 5 = .ok (.aload_n 0, 1) := by decide +kernel
theorem dX10_told_6 : decode cX10_told 6 = .ok (.getfield 35, 3) := by decide +kernel
theorem dX10_told_9 : decode cX10_told 9 = .ok (.iload_n 1, 1) := by decide +kernel
theorem dX10_told_10 : decode cX10_told 10 = .ok (.invokevirtual 123, 3) := by decide +kernel
theorem dX10_told_13 : decode cX10_told 13 = .ok (.ifCond .eq 20, 3) := by decide +kernel
theorem dX10_told_16 : decode cX10_told 16 = .ok (.iload_n 2, 1) := by decide +kernel
theorem dX10_told_17 : decode cX10_told 17 = .ok (.ifCond .lt 16, 3) := by decide +kernel
theorem dX10_told_20 : decode cX10_told 20 = .ok (.iload_n 2, 1) := by decide +kernel
theorem dX10_told_21 : decode cX10_told 21 = .ok (.iconst 1, 1) := by decide +kernel
theorem dX10_told_22 : decode cX10_told 22 = .ok (.aload_n 0, 1) := by decide +kernel
theorem dX10_told_23 : decode cX10_told 23 = .ok (.getfield 10, 3) := by decide +kernel
theorem dX10_told_26 : decode cX10_told 26 = .ok (.invokevirtual 138, 3) := by decide +kernel
theorem dX10_told_29 : decode cX10_told 29 = .ok (.ishl, 1) := by decide +kernel
theorem dX10_told_30 : decode cX10_told 30 = .ok (.if_icmp .lt 5, 3) := by decide +kernel
theorem dX10_told_33 : decode cX10_told 33 = .ok (.iconst (-1), 1) := by decide +kernel
theorem dX10_told_34 : decode cX10_told 34 = .ok (.ireturn, 1) := by decide +kernel
theorem dX10_told_35 : decode cX10_told 35 = .ok (.aload_n 0, 1) := by decide +kernel
theorem dX10_told_36 : decode cX10_told 36 = .ok (.getfield 42, 3) := by decide +kernel
theorem dX10_told_39 : decode cX10_told 39 = .ok (.iload_n 1, 1) := by decide +kernel
theorem dX10_told_40 : decode cX10_told 40 = .ok (.invokevirtual 127, 3) := by decide +kernel
theorem dX10_told_43 : decode cX10_told 43 = .ok (.istore_n 3, 1) := by decide +kernel
theorem dX10_told_44 : decode cX10_told 44 = .ok (.aload_n 0, 1) := by decide +kernel
theorem dX10_told_45 : decode cX10_told 45 = .ok (.getfield 42, 3) := by decide +kernel
theorem dX10_told_48 : decode cX10_told 48 = .ok (.iload_n 3, 1) := by decide +kernel
theorem dX10_told_49 : decode cX10_told 49 = .ok (.invokevirtual 130, 3) := by decide +kernel
theorem dX10_told_52 : decode cX10_told 52 = .ok (.astore 4, 2) := by decide +kernel
theorem dX10_told_54 : decode cX10_told 54 = .ok (.aload 4, 2) := by decide +kernel
theorem dX10_told_56 : decode cX10_told 56 = .ok (.ifnonnull 6, 3) := by decide +kernel
theorem dX10_told_59 : decode cX10_told 59 = .ok (.bipush (-3), 2) := by decide +kernel
theorem dX10_told_61 : decode cX10_told 61 = .ok (.ireturn, 1) := by decide +kernel
theorem dX10_told_62 : decode cX10_told 62 = .ok (.iconst 0, 1) := by decide +kernel
theorem dX10_told_63 : decode cX10_told 63 = .ok (.istore 5, 2) := by decide +kernel
theorem dX10_told_65 : decode cX10_told 65 = .ok (.iload 5, 2) := by decide +kernel
theorem dX10_told_67 : decode cX10_told 67 = .ok (.aload_n 0, 1) := by decide +kernel
theorem dX10_told_68 : decode cX10_told 68 = .ok (.getfield 10, 3) := by decide +kernel
theorem dX10_told_71 : decode cX10_told 71 = .ok (.invokevirtual 138, 3) := by decide +kernel
theorem dX10_told_74 : decode cX10_told 74 = .ok (.if_icmp .ge 46, 3) := by decide +kernel
theorem dX10_told_77 : decode cX10_told 77 = .ok (.iload_n 2, 1) := by decide +kernel
theorem dX10_told_78 : decode cX10_told 78 = .ok (.iload 5, 2) := by decide +kernel
theorem dX10_told_80 : decode cX10_told 80 = .ok (.ishr, 1) := by decide +kernel
theorem dX10_told_81 : decode cX10_told 81 = .ok (.iconst 1, 1) := by decide +kernel
theorem dX10_told_82 : decode cX10_told 82 = .ok (.iand, 1) := by decide +kernel
theorem dX10_told_83 : decode cX10_told 83 = .ok (.ifCond .eq 31, 3) := by decide +kernel
theorem dX10_told_86 : decode cX10_told 86 = .ok (.aload 4, 2) := by decide +kernel
theorem dX10_told_88 : decode cX10_told 88 = .ok (.iload 5, 2) := by decide +kernel
theorem dX10_told_90 : decode cX10_told 90 = .ok (.aload_n 0, 1) := by decide +kernel
theorem dX10_told_91 : decode cX10_told 91 = .ok (.getfield 10, 3) := by decide +kernel
theorem dX10_told_94 : decode cX10_told 94 = .ok (.iload 5, 2) := by decide +kernel
theorem dX10_told_96 : decode cX10_told 96 = .ok (.iconst 1, 1) := by decide +kernel
theorem dX10_told_97 : decode cX10_told 97 = .ok (.invokevirtual 88, 3) := by decide +kernel
theorem dX10_told_100 : decode cX10_told 100 = .ok (.aload_n 0, 1) := by decide +kernel
theorem dX10_told_101 : decode cX10_told 101 = .ok (.getfield 10, 3) := by decide +kernel
theorem dX10_told_104 : decode cX10_told 104 = .ok (.iload 5, 2) := by decide +kernel
theorem dX10_told_106 : decode cX10_told 106 = .ok (.iconst 3, 1) := by decide +kernel
theorem dX10_told_107 : decode cX10_told 107 = .ok (.invokevirtual 88, 3) := by decide +kernel
theorem dX10_told_110 : decode cX10_told 110 = .ok (.invokevirtual 141, 3) := by decide +kernel
theorem dX10_told_113 : decode cX10_told 113 = .ok (.pop, 1) := by decide +kernel
theorem dX10_told_114 : decode cX10_told 114 = .ok (.iinc 5 1, 3) := by decide +kernel
theorem dX10_told_117 : decode cX10_told 117 = .ok (.goto (-52), 3) := by decide +kernel
theorem dX10_told_120 : decode cX10_told 120 = .ok (.iload_n 3, 1) := by decide +kernel
theorem dX10_told_121 : decode cX10_told 121 = .ok (.ireturn, 1) := by decide +kernel
theorem dX10_add_0 : decode cX10_add 0 = .ok (.aload_n 0, 1) := by decide +kernel
theorem dX10_add_1 : decode cX10_add 1 = .ok (.getfield 42, 3) := by decide +kernel
theorem dX10_add_4 : decode cX10_add 4 = .ok (.iload_n 1, 1) := by decide +kernel
theorem dX10_add_5 : decode cX10_add 5 = .ok (.invokevirtual 130, 3) := by decide +kernel
theorem dX10_add_8 : decode cX10_add 8 = .ok (.astore 4, 2) := by decide +kernel
theorem dX10_add_10 : decode cX10_add 10 = .ok (.aload 4, 2) := by decide +kernel
theorem dX10_add_12 : decode cX10_add 12 = .ok (.ifnull 36, 3) := by decide +kernel
theorem dX10_add_15 : decode cX10_add 15 = .ok (.aload_n 0, 1) := by decide +kernel
theorem dX10_add_16 : decode cX10_add 16 = .ok (.getfield 10, 3) := by decide +kernel
theorem dX10_add_19 : decode cX10_add 19 = .ok (.iload_n 2, 1) := by decide +kernel
theorem dX10_add_20 : decode cX10_add 20 = .ok (.invokevirtual 81, 3) := by decide +kernel
theorem dX10_add_23 : decode cX10_add 23 = .ok (.ifCond .eq 25, 3) := by decide +kernel
theorem dX10_add_26 : decode cX10_add 26 = .ok (.aload 4, 2) := by decide +kernel
theorem dX10_add_28 : decode cX10_add 28 = .ok (.iload_n 2, 1) := by decide +kernel
theorem dX10_add_29 : decode cX10_add 29 = .ok (.invokevirtual 146, 3) := by decide +kernel
theorem dX10_add_32 : decode cX10_add 32 = .ok (.ifCond .ge 16, 3) := by decide +kernel
theorem dX10_add_35 : decode cX10_add 35 = .ok (.iload_n 3, 1) := by decide +kernel
theorem dX10_add_36 : decode cX10_add 36 = .ok (.ifCond .lt 12, 3) := by decide +kernel
theorem dX10_add_39 : decode cX10_add 39 = .ok (.iload_n 3, 1) := by decide +kernel
theorem dX10_add_40 : decode cX10_add 40 = .ok (.aload 4, 2) := by decide +kernel
theorem dX10_add_42 : decode cX10_add 42 = .ok (.invokevirtual 149, 3) := by decide +kernel
theorem dX10_add_45 : decode cX10_add 45 = .ok (.if_icmp .le 5, 3) := by decide +kernel
theorem dX10_add_48 : decode cX10_add 48 = .ok (.iconst (-1), 1) := by decide +kernel
theorem dX10_add_49 : decode cX10_add 49 = .ok (.ireturn, 1) := by decide +kernel
theorem dX10_add_50 : decode cX10_add 50 = .ok (.aload 4, 2) := by decide +kernel
theorem dX10_add_52 : decode cX10_add 52 = .ok (.iload_n 2, 1) := by decide +kernel
theorem dX10_add_53 : decode cX10_add 53 = .ok (.aload_n 0, 1) := by decide +kernel
theorem dX10_add_54 : decode cX10_add 54 = .ok (.getfield 10, 3) := by decide +kernel
theorem dX10_add_57 : decode cX10_add 57 = .ok (.iload_n 2, 1) := by decide +kernel
theorem dX10_add_58 : decode cX10_add 58 = .ok (.iconst 1, 1) := by decide +kernel
theorem dX10_add_59 : decode cX10_add 59 = .ok (.invokevirtual 88, 3) := by decide +kernel
theorem dX10_add_62 : decode cX10_add 62 = .ok (.aload_n 0, 1) := by decide +kernel
theorem dX10_add_63 : decode cX10_add 63 = .ok (.getfield 10, 3) := by decide +kernel
theorem dX10_add_66 : decode cX10_add 66 = .ok (.iload_n 2, 1) := by decide +kernel
theorem dX10_add_67 : decode cX10_add 67 = .ok (.iconst 3, 1) := by decide +kernel
theorem dX10_add_68 : decode cX10_add 68 = .ok (.invokevirtual 88, 3) := by decide +kernel
theorem dX10_add_71 : decode cX10_add 71 = .ok (.invokevirtual 141, 3) := by decide +kernel
theorem dX10_add_74 : decode cX10_add 74 = .ok (.ifCond .ne 6, 3) := by decide +kernel
theorem dX10_add_77 : decode cX10_add 77 = .ok (.bipush (-3), 2) := by decide +kernel
theorem dX10_add_79 : decode cX10_add 79 = .ok (.ireturn, 1) := by decide +kernel
theorem dX10_add_80 : decode cX10_add 80 = .ok (.aload 4, 2) := by decide +kernel
theorem dX10_add_82 : decode cX10_add 82 = .ok (.aload 4, 2) := by decide +kernel
theorem dX10_add_84 : decode cX10_add 84 = .ok (.invokevirtual 149, 3) := by decide +kernel
theorem dX10_add_87 : decode cX10_add 87 = .ok (.iconst 1, 1) := by decide +kernel
theorem dX10_add_88 : decode cX10_add 88 = .ok (.isub, 1) := by decide +kernel
theorem dX10_add_89 : decode cX10_add 89 = .ok (.invokevirtual 150, 3) := by decide +kernel
theorem dX10_add_92 : decode cX10_add 92 = .ok (.aload 4, 2) := by decide +kernel
theorem dX10_add_94 : decode cX10_add 94 = .ok (.aload 4, 2) := by decide +kernel
theorem dX10_add_96 : decode cX10_add 96 = .ok (.invokevirtual 149, 3) := by decide +kernel
theorem dX10_add_99 : decode cX10_add 99 = .ok (.iconst 1, 1) := by decide +kernel
theorem dX10_add_100 : decode cX10_add 100 = .ok (.isub, 1) := by decide +kernel
theorem dX10_add_101 : decode cX10_add 101 = .ok (.iload_n 3, 1) := by decide +kernel
theorem dX10_add_102 : decode cX10_add 102 = .ok (.invokevirtual 154, 3) := by decide +kernel
theorem dX10_add_105 : decode cX10_add 105 = .ok (.aload 4, 2) := by decide +kernel
theorem dX10_add_107 : decode cX10_add 107 = .ok (.invokevirtual 149, 3) := by decide +kernel
theorem dX10_add_110 : decode cX10_add 110 = .ok (.ireturn, 1) := by decide +kernel
theorem dX10_strike_0 : decode cX10_strike 0 = .ok (.aload_n 0, 1) := by decide +kernel
theorem dX10_strike_1 : decode cX10_strike 1 = .ok (.getfield 42, 3) := by decide +kernel
theorem dX10_strike_4 : decode cX10_strike 4 = .ok (.iload_n 1, 1) := by decide +kernel
theorem dX10_strike_5 : decode cX10_strike 5 = .ok (.invokevirtual 130, 3) := by decide +kernel
theorem dX10_strike_8 : decode cX10_strike 8 = .ok (.astore_n 3, 1) := by decide +kernel
theorem dX10_strike_9 : decode cX10_strike 9 = .ok (.aload_n 3, 1) := by decide +kernel
theorem dX10_strike_10 : decode cX10_strike 10 = .ok (.ifnull 11, 3) := by decide +kernel
theorem dX10_strike_13 : decode cX10_strike 13 = .ok (.aload_n 3, 1) := by decide +kernel
theorem dX10_strike_14 : decode cX10_strike 14 = .ok (.iload_n 2, 1) := by decide +kernel
theorem dX10_strike_15 : decode cX10_strike 15 = .ok (.invokevirtual 158, 3) := by decide +kernel
theorem dX10_strike_18 : decode cX10_strike 18 = .ok (.ifCond .ne 5, 3) := by decide +kernel
theorem dX10_strike_21 : decode cX10_strike 21 = .ok (.iconst (-1), 1) := by decide +kernel
theorem dX10_strike_22 : decode cX10_strike 22 = .ok (.ireturn, 1) := by decide +kernel
theorem dX10_strike_23 : decode cX10_strike 23 = .ok (.aload_n 3, 1) := by decide +kernel
theorem dX10_strike_24 : decode cX10_strike 24 = .ok (.iload_n 2, 1) := by decide +kernel
theorem dX10_strike_25 : decode cX10_strike 25 = .ok (.invokevirtual 161, 3) := by decide +kernel
theorem dX10_strike_28 : decode cX10_strike 28 = .ok (.aload_n 3, 1) := by decide +kernel
theorem dX10_strike_29 : decode cX10_strike 29 = .ok (.invokevirtual 149, 3) := by decide +kernel
theorem dX10_strike_32 : decode cX10_strike 32 = .ok (.ireturn, 1) := by decide +kernel
theorem dX10_read_0 : decode cX10_read 0 = .ok (.aload_n 0, 1) := by decide +kernel
theorem dX10_read_1 : decode cX10_read 1 = .ok (.getfield 42, 3) := by decide +kernel
theorem dX10_read_4 : decode cX10_read 4 = .ok (.iload_n 1, 1) := by decide +kernel
theorem dX10_read_5 : decode cX10_read 5 = .ok (.invokevirtual 130, 3) := by decide +kernel
theorem dX10_read_8 : decode cX10_read 8 = .ok (.astore_n 3, 1) := by decide +kernel
theorem dX10_read_9 : decode cX10_read 9 = .ok (.aload_n 3, 1) := by decide +kernel
theorem dX10_read_10 : decode cX10_read 10 = .ok (.ifnull 13, 3) := by decide +kernel
theorem dX10_read_13 : decode cX10_read 13 = .ok (.iload_n 2, 1) := by decide +kernel
theorem dX10_read_14 : decode cX10_read 14 = .ok (.ifCond .lt 9, 3) := by decide +kernel
theorem dX10_read_17 : decode cX10_read 17 = .ok (.iload_n 2, 1) := by decide +kernel
theorem dX10_read_18 : decode cX10_read 18 = .ok (.bipush 10, 2) := by decide +kernel
theorem dX10_read_20 : decode cX10_read 20 = .ok (.if_icmp .le 5, 3) := by decide +kernel
theorem dX10_read_23 : decode cX10_read 23 = .ok (.iconst (-1), 1) := by decide +kernel
theorem dX10_read_24 : decode cX10_read 24 = .ok (.ireturn, 1) := by decide +kernel
theorem dX10_read_25 : decode cX10_read 25 = .ok (.aload_n 3, 1) := by decide +kernel
theorem dX10_read_26 : decode cX10_read 26 = .ok (.aload_n 0, 1) := by decide +kernel
theorem dX10_read_27 : decode cX10_read 27 = .ok (.getfield 10, 3) := by decide +kernel
theorem dX10_read_30 : decode cX10_read 30 = .ok (.iload_n 2, 1) := by decide +kernel
theorem dX10_read_31 : decode cX10_read 31 = .ok (.invokevirtual 164, 3) := by decide +kernel
theorem dX10_read_34 : decode cX10_read 34 = .ok (.ireturn, 1) := by decide +kernel
theorem dX10_cut_0 : decode cX10_cut 0 = .ok (.aload_n 0, 1) := by decide +kernel
theorem dX10_cut_1 : decode cX10_cut 1 = .ok (.getfield 42, 3) := by decide +kernel
theorem dX10_cut_4 : decode cX10_cut 4 = .ok (.iload_n 1, 1) := by decide +kernel
theorem dX10_cut_5 : decode cX10_cut 5 = .ok (.invokevirtual 130, 3) := by decide +kernel
theorem dX10_cut_8 : decode cX10_cut 8 = .ok (.astore_n 3, 1) := by decide +kernel
theorem dX10_cut_9 : decode cX10_cut 9 = .ok (.aload_n 3, 1) := by decide +kernel
theorem dX10_cut_10 : decode cX10_cut 10 = .ok (.ifnull 13, 3) := by decide +kernel
theorem dX10_cut_13 : decode cX10_cut 13 = .ok (.iload_n 2, 1) := by decide +kernel
theorem dX10_cut_14 : decode cX10_cut 14 = .ok (.ifCond .lt 9, 3) := by decide +kernel
theorem dX10_cut_17 : decode cX10_cut 17 = .ok (.iload_n 2, 1) := by decide +kernel
theorem dX10_cut_18 : decode cX10_cut 18 = .ok (.bipush 16, 2) := by decide +kernel
theorem dX10_cut_20 : decode cX10_cut 20 = .ok (.if_icmp .le 5, 3) := by decide +kernel
theorem dX10_cut_23 : decode cX10_cut 23 = .ok (.iconst (-1), 1) := by decide +kernel
theorem dX10_cut_24 : decode cX10_cut 24 = .ok (.ireturn, 1) := by decide +kernel
theorem dX10_cut_25 : decode cX10_cut 25 = .ok (.aload_n 3, 1) := by decide +kernel
theorem dX10_cut_26 : decode cX10_cut 26 = .ok (.iload_n 2, 1) := by decide +kernel
theorem dX10_cut_27 : decode cX10_cut 27 = .ok (.invokevirtual 168, 3) := by decide +kernel
theorem dX10_cut_30 : decode cX10_cut 30 = .ok (.ireturn, 1) := by decide +kernel
theorem dX10_page_0 : decode cX10_page 0 = .ok (.aload_n 0, 1) := by decide +kernel
theorem dX10_page_1 : decode cX10_page 1 = .ok (.getfield 42, 3) := by decide +kernel
theorem dX10_page_4 : decode cX10_page 4 = .ok (.iload_n 1, 1) := by decide +kernel
theorem dX10_page_5 : decode cX10_page 5 = .ok (.invokevirtual 130, 3) := by decide +kernel
theorem dX10_page_8 : decode cX10_page 8 = .ok (.astore_n 3, 1) := by decide +kernel
theorem dX10_page_9 : decode cX10_page 9 = .ok (.aload_n 3, 1) := by decide +kernel
theorem dX10_page_10 : decode cX10_page 10 = .ok (.ifnull 7, 3) := by decide +kernel
theorem dX10_page_13 : decode cX10_page 13 = .ok (.iload_n 2, 1) := by decide +kernel
theorem dX10_page_14 : decode cX10_page 14 = .ok (.ifCond .ge 6, 3) := by decide +kernel
theorem dX10_page_17 : decode cX10_page 17 = .ok (.ldc 171, 2) := by decide +kernel
theorem dX10_page_19 : decode cX10_page 19 = .ok (.ireturn, 1) := by decide +kernel
theorem dX10_page_20 : decode cX10_page 20 = .ok (.iload_n 2, 1) := by decide +kernel
theorem dX10_page_21 : decode cX10_page 21 = .ok (.bipush 100, 2) := by decide +kernel
theorem dX10_page_23 : decode cX10_page 23 = .ok (.if_icmp .lt 46, 3) := by decide +kernel
theorem dX10_page_26 : decode cX10_page 26 = .ok (.iload_n 2, 1) := by decide +kernel
theorem dX10_page_27 : decode cX10_page 27 = .ok (.bipush 100, 2) := by decide +kernel
theorem dX10_page_29 : decode cX10_page 29 = .ok (.idiv, 1) := by decide +kernel
theorem dX10_page_30 : decode cX10_page 30 = .ok (.iconst 1, 1) := by decide +kernel
theorem dX10_page_31 : decode cX10_page 31 = .ok (.isub, 1) := by decide +kernel
theorem dX10_page_32 : decode cX10_page 32 = .ok (.istore 4, 2) := by decide +kernel
theorem dX10_page_34 : decode cX10_page 34 = .ok (.iload_n 2, 1) := by decide +kernel
theorem dX10_page_35 : decode cX10_page 35 = .ok (.bipush 100, 2) := by decide +kernel
theorem dX10_page_37 : decode cX10_page 37 = .ok (.irem, 1) := by decide +kernel
theorem dX10_page_38 : decode cX10_page 38 = .ok (.istore 5, 2) := by decide +kernel
theorem dX10_page_40 : decode cX10_page 40 = .ok (.aload_n 3, 1) := by decide +kernel
theorem dX10_page_41 : decode cX10_page 41 = .ok (.iload 4, 2) := by decide +kernel
theorem dX10_page_43 : decode cX10_page 43 = .ok (.invokevirtual 158, 3) := by decide +kernel
theorem dX10_page_46 : decode cX10_page 46 = .ok (.ifCond .eq 20, 3) := by decide +kernel
theorem dX10_page_49 : decode cX10_page 49 = .ok (.iload 5, 2) := by decide +kernel
theorem dX10_page_51 : decode cX10_page 51 = .ok (.iconst 4, 1) := by decide +kernel
theorem dX10_page_52 : decode cX10_page 52 = .ok (.if_icmp .ge 14, 3) := by decide +kernel
theorem dX10_page_55 : decode cX10_page 55 = .ok (.aload_n 3, 1) := by decide +kernel
theorem dX10_page_56 : decode cX10_page 56 = .ok (.iload 4, 2) := by decide +kernel
theorem dX10_page_58 : decode cX10_page 58 = .ok (.iload 5, 2) := by decide +kernel
theorem dX10_page_60 : decode cX10_page 60 = .ok (.invokevirtual 172, 3) := by decide +kernel
theorem dX10_page_63 : decode cX10_page 63 = .ok (.goto 5, 3) := by decide +kernel
theorem dX10_page_66 : decode cX10_page 66 = .ok (.ldc 171, 2) := by decide +kernel
theorem dX10_page_68 : decode cX10_page 68 = .ok (.ireturn, 1) := by decide +kernel
theorem dX10_page_69 : decode cX10_page 69 = .ok (.iload_n 2, 1) := by decide +kernel
theorem dX10_page_70 : decode cX10_page 70 = .ok (.tableswitch 50 0 3 #[30, 35, 40, 45], 30) := by decide +kernel
theorem dX10_page_100 : decode cX10_page 100 = .ok (.aload_n 3, 1) := by decide +kernel
theorem dX10_page_101 : decode cX10_page 101 = .ok (.invokevirtual 149, 3) := by decide +kernel
theorem dX10_page_104 : decode cX10_page 104 = .ok (.ireturn, 1) := by decide +kernel
theorem dX10_page_105 : decode cX10_page 105 = .ok (.aload_n 3, 1) := by decide +kernel
theorem dX10_page_106 : decode cX10_page 106 = .ok (.invokevirtual 173, 3) := by decide +kernel
theorem dX10_page_109 : decode cX10_page 109 = .ok (.ireturn, 1) := by decide +kernel
theorem dX10_page_110 : decode cX10_page 110 = .ok (.aload_n 3, 1) := by decide +kernel
theorem dX10_page_111 : decode cX10_page 111 = .ok (.invokevirtual 176, 3) := by decide +kernel
theorem dX10_page_114 : decode cX10_page 114 = .ok (.ireturn, 1) := by decide +kernel
theorem dX10_page_115 : decode cX10_page 115 = .ok (.aload_n 3, 1) := by decide +kernel
theorem dX10_page_116 : decode cX10_page 116 = .ok (.invokevirtual 179, 3) := by decide +kernel
theorem dX10_page_119 : decode cX10_page 119 = .ok (.ireturn, 1) := by decide +kernel
theorem dX10_page_120 : decode cX10_page 120 = .ok (.ldc 171, 2) := by decide +kernel
theorem dX10_page_122 : decode cX10_page 122 = .ok (.ireturn, 1) := by decide +kernel
theorem dX10_led_0 : decode cX10_led 0 = .ok (.aload_n 0, 1) := by decide +kernel
theorem dX10_led_1 : decode cX10_led 1 = .ok (.getfield 42, 3) := by decide +kernel
theorem dX10_led_4 : decode cX10_led 4 = .ok (.iload_n 1, 1) := by decide +kernel
theorem dX10_led_5 : decode cX10_led 5 = .ok (.invokevirtual 130, 3) := by decide +kernel
theorem dX10_led_8 : decode cX10_led 8 = .ok (.astore_n 3, 1) := by decide +kernel
theorem dX10_led_9 : decode cX10_led 9 = .ok (.aload_n 3, 1) := by decide +kernel
theorem dX10_led_10 : decode cX10_led 10 = .ok (.ifnull 14, 3) := by decide +kernel
theorem dX10_led_13 : decode cX10_led 13 = .ok (.aload_n 0, 1) := by decide +kernel
theorem dX10_led_14 : decode cX10_led 14 = .ok (.getfield 10, 3) := by decide +kernel
theorem dX10_led_17 : decode cX10_led 17 = .ok (.iload_n 2, 1) := by decide +kernel
theorem dX10_led_18 : decode cX10_led 18 = .ok (.invokevirtual 81, 3) := by decide +kernel
theorem dX10_led_21 : decode cX10_led 21 = .ok (.ifCond .ne 5, 3) := by decide +kernel
theorem dX10_led_24 : decode cX10_led 24 = .ok (.iconst (-1), 1) := by decide +kernel
theorem dX10_led_25 : decode cX10_led 25 = .ok (.ireturn, 1) := by decide +kernel
theorem dX10_led_26 : decode cX10_led 26 = .ok (.aload_n 3, 1) := by decide +kernel
theorem dX10_led_27 : decode cX10_led 27 = .ok (.iload_n 2, 1) := by decide +kernel
theorem dX10_led_28 : decode cX10_led 28 = .ok (.invokevirtual 146, 3) := by decide +kernel
theorem dX10_led_31 : decode cX10_led 31 = .ok (.istore 4, 2) := by decide +kernel
theorem dX10_led_33 : decode cX10_led 33 = .ok (.iload 4, 2) := by decide +kernel
theorem dX10_led_35 : decode cX10_led 35 = .ok (.ifCond .ge 8, 3) := by decide +kernel
theorem dX10_led_38 : decode cX10_led 38 = .ok (.bipush (-2), 2) := by decide +kernel
theorem dX10_led_40 : decode cX10_led 40 = .ok (.goto 5, 3) := by decide +kernel
theorem dX10_led_43 : decode cX10_led 43 = .ok (.iload 4, 2) := by decide +kernel
theorem dX10_led_45 : decode cX10_led 45 = .ok (.ireturn, 1) := by decide +kernel
theorem dX10_isChoice_0 : decode cX10_isChoice 0 = .ok (.iload_n 0, 1) := by decide +kernel
theorem dX10_isChoice_1 : decode cX10_isChoice 1 = .ok (.ifCond .eq 8, 3) := by decide +kernel
theorem dX10_isChoice_4 : decode cX10_isChoice 4 = .ok (.iload_n 0, 1) := by decide +kernel
theorem dX10_isChoice_5 : decode cX10_isChoice 5 = .ok (.iconst 1, 1) := by decide +kernel
theorem dX10_isChoice_6 : decode cX10_isChoice 6 = .ok (.if_icmp .ne 7, 3) := by decide +kernel
theorem dX10_isChoice_9 : decode cX10_isChoice 9 = .ok (.iconst 1, 1) := by decide +kernel
theorem dX10_isChoice_10 : decode cX10_isChoice 10 = .ok (.goto 4, 3) := by decide +kernel
theorem dX10_isChoice_13 : decode cX10_isChoice 13 = .ok (.iconst 0, 1) := by decide +kernel
theorem dX10_isChoice_14 : decode cX10_isChoice 14 = .ok (.ireturn, 1) := by decide +kernel
theorem dX10_sure_0 : decode cX10_sure 0 = .ok (.aload_n 0, 1) := by decide +kernel
theorem dX10_sure_1 : decode cX10_sure 1 = .ok (.getfield 10, 3) := by decide +kernel
theorem dX10_sure_4 : decode cX10_sure 4 = .ok (.iload_n 1, 1) := by decide +kernel
theorem dX10_sure_5 : decode cX10_sure 5 = .ok (.invokevirtual 81, 3) := by decide +kernel
theorem dX10_sure_8 : decode cX10_sure 8 = .ok (.ifCond .eq 10, 3) := by decide +kernel
theorem dX10_sure_11 : decode cX10_sure 11 = .ok (.iload_n 2, 1) := by decide +kernel
theorem dX10_sure_12 : decode cX10_sure 12 = .ok (.invokestatic 182, 3) := by decide +kernel
theorem dX10_sure_15 : decode cX10_sure 15 = .ok (.ifCond .ne 5, 3) := by decide +kernel
theorem dX10_sure_18 : decode cX10_sure 18 = .ok (.iconst (-1), 1) := by decide +kernel
theorem dX10_sure_19 : decode cX10_sure 19 = .ok (.ireturn, 1) := by decide +kernel
theorem dX10_sure_20 : decode cX10_sure 20 = .ok (.iload_n 2, 1) := by decide +kernel
theorem dX10_sure_21 : decode cX10_sure 21 = .ok (.ifCond .ne 14, 3) := by decide +kernel
theorem dX10_sure_24 : decode cX10_sure 24 = .ok (.aload_n 0, 1) := by decide +kernel
theorem dX10_sure_25 : decode cX10_sure 25 = .ok (.getfield 42, 3) := by decide +kernel
theorem dX10_sure_28 : decode cX10_sure 28 = .ok (.iload_n 1, 1) := by decide +kernel
theorem dX10_sure_29 : decode cX10_sure 29 = .ok (.invokevirtual 185, 3) := by decide +kernel
theorem dX10_sure_32 : decode cX10_sure 32 = .ok (.goto 11, 3) := by decide +kernel
theorem dX10_sure_35 : decode cX10_sure 35 = .ok (.aload_n 0, 1) := by decide +kernel
theorem dX10_sure_36 : decode cX10_sure 36 = .ok (.getfield 42, 3) := by decide +kernel
theorem dX10_sure_39 : decode cX10_sure 39 = .ok (.iload_n 1, 1) := by decide +kernel
theorem dX10_sure_40 : decode cX10_sure 40 = .ok (.invokevirtual 188, 3) := by decide +kernel
theorem dX10_sure_43 : decode cX10_sure 43 = .ok (.ireturn, 1) := by decide +kernel
theorem dX10_only_0 : decode cX10_only 0 = .ok (.aload_n 0, 1) := by decide +kernel
theorem dX10_only_1 : decode cX10_only 1 = .ok (.getfield 42, 3) := by decide +kernel
theorem dX10_only_4 : decode cX10_only 4 = .ok (.invokevirtual 191, 3) := by decide +kernel
theorem dX10_only_7 : decode cX10_only 7 = .ok (.ireturn, 1) := by decide +kernel
theorem dX10_fight_0 : decode cX10_fight 0 = .ok (.iload_n 1, 1) := by decide +kernel
theorem dX10_fight_1 : decode cX10_fight 1 = .ok (.ifCond .lt 21, 3) := by decide +kernel
theorem dX10_fight_4 : decode cX10_fight 4 = .ok (.iload_n 1, 1) := by decide +kernel
theorem dX10_fight_5 : decode cX10_fight 5 = .ok (.bipush 10, 2) := by decide +kernel
theorem dX10_fight_7 : decode cX10_fight 7 = .ok (.idiv, 1) := by decide +kernel
theorem dX10_fight_8 : decode cX10_fight 8 = .ok (.iload_n 1, 1) := by decide +kernel
theorem dX10_fight_9 : decode cX10_fight 9 = .ok (.bipush 10, 2) := by decide +kernel
theorem dX10_fight_11 : decode cX10_fight 11 = .ok (.irem, 1) := by decide +kernel
theorem dX10_fight_12 : decode cX10_fight 12 = .ok (.if_icmp .eq 10, 3) := by decide +kernel
theorem dX10_fight_15 : decode cX10_fight 15 = .ok (.iload_n 2, 1) := by decide +kernel
theorem dX10_fight_16 : decode cX10_fight 16 = .ok (.invokestatic 182, 3) := by decide +kernel
theorem dX10_fight_19 : decode cX10_fight 19 = .ok (.ifCond .ne 5, 3) := by decide +kernel
theorem dX10_fight_22 : decode cX10_fight 22 = .ok (.iconst (-1), 1) := by decide +kernel
theorem dX10_fight_23 : decode cX10_fight 23 = .ok (.ireturn, 1) := by decide +kernel
theorem dX10_fight_24 : decode cX10_fight 24 = .ok (.aload_n 0, 1) := by decide +kernel
theorem dX10_fight_25 : decode cX10_fight 25 = .ok (.getfield 42, 3) := by decide +kernel
theorem dX10_fight_28 : decode cX10_fight 28 = .ok (.iload_n 1, 1) := by decide +kernel
theorem dX10_fight_29 : decode cX10_fight 29 = .ok (.bipush 10, 2) := by decide +kernel
theorem dX10_fight_31 : decode cX10_fight 31 = .ok (.idiv, 1) := by decide +kernel
theorem dX10_fight_32 : decode cX10_fight 32 = .ok (.invokevirtual 130, 3) := by decide +kernel
theorem dX10_fight_35 : decode cX10_fight 35 = .ok (.astore_n 3, 1) := by decide +kernel
theorem dX10_fight_36 : decode cX10_fight 36 = .ok (.aload_n 0, 1) := by decide +kernel
theorem dX10_fight_37 : decode cX10_fight 37 = .ok (.getfield 42, 3) := by decide +kernel
theorem dX10_fight_40 : decode cX10_fight 40 = .ok (.iload_n 1, 1) := by decide +kernel
theorem dX10_fight_41 : decode cX10_fight 41 = .ok (.bipush 10, 2) := by decide +kernel
theorem dX10_fight_43 : decode cX10_fight 43 = .ok (.irem, 1) := by decide +kernel
theorem dX10_fight_44 : decode cX10_fight 44 = .ok (.invokevirtual 130, 3) := by decide +kernel
theorem dX10_fight_47 : decode cX10_fight 47 = .ok (.astore 4, 2) := by decide +kernel
theorem dX10_fight_49 : decode cX10_fight 49 = .ok (.aload_n 3, 1) := by decide +kernel
theorem dX10_fight_50 : decode cX10_fight 50 = .ok (.ifnull 8, 3) := by decide +kernel
theorem dX10_fight_53 : decode cX10_fight 53 = .ok (.aload 4, 2) := by decide +kernel
theorem dX10_fight_55 : decode cX10_fight 55 = .ok (.ifnonnull 5, 3) := by decide +kernel
theorem dX10_fight_58 : decode cX10_fight 58 = .ok (.iconst (-1), 1) := by decide +kernel
theorem dX10_fight_59 : decode cX10_fight 59 = .ok (.ireturn, 1) := by decide +kernel
theorem dX10_fight_60 : decode cX10_fight 60 = .ok (.iload_n 2, 1) := by decide +kernel
theorem dX10_fight_61 : decode cX10_fight 61 = .ok (.ifCond .ne 16, 3) := by decide +kernel
theorem dX10_fight_64 : decode cX10_fight 64 = .ok (.aload_n 0, 1) := by decide +kernel
theorem dX10_fight_65 : decode cX10_fight 65 = .ok (.getfield 42, 3) := by decide +kernel
theorem dX10_fight_68 : decode cX10_fight 68 = .ok (.aload_n 3, 1) := by decide +kernel
theorem dX10_fight_69 : decode cX10_fight 69 = .ok (.aload 4, 2) := by decide +kernel
theorem dX10_fight_71 : decode cX10_fight 71 = .ok (.invokevirtual 194, 3) := by decide +kernel
theorem dX10_fight_74 : decode cX10_fight 74 = .ok (.goto 13, 3) := by decide +kernel
theorem dX10_fight_77 : decode cX10_fight 77 = .ok (.aload_n 0, 1) := by decide +kernel
theorem dX10_fight_78 : decode cX10_fight 78 = .ok (.getfield 42, 3) := by decide +kernel
theorem dX10_fight_81 : decode cX10_fight 81 = .ok (.aload_n 3, 1) := by decide +kernel
theorem dX10_fight_82 : decode cX10_fight 82 = .ok (.aload 4, 2) := by decide +kernel
theorem dX10_fight_84 : decode cX10_fight 84 = .ok (.invokevirtual 198, 3) := by decide +kernel
theorem dX10_fight_87 : decode cX10_fight 87 = .ok (.ireturn, 1) := by decide +kernel
theorem dX10_order_0 : decode cX10_order 0 = .ok (.iload_n 1, 1) := by decide +kernel
theorem dX10_order_1 : decode cX10_order 1 = .ok (.ifCond .lt 9, 3) := by decide +kernel
theorem dX10_order_4 : decode cX10_order 4 = .ok (.iload_n 1, 1) := by decide +kernel
theorem dX10_order_5 : decode cX10_order 5 = .ok (.bipush 16, 2) := by decide +kernel
theorem dX10_order_7 : decode cX10_order 7 = .ok (.if_icmp .lt 5, 3) := by decide +kernel
theorem dX10_order_10 : decode cX10_order 10 = .ok (.iconst (-1), 1) := by decide +kernel
theorem dX10_order_11 : decode cX10_order 11 = .ok (.ireturn, 1) := by decide +kernel
theorem dX10_order_12 : decode cX10_order 12 = .ok (.aload_n 0, 1) := by decide +kernel
theorem dX10_order_13 : decode cX10_order 13 = .ok (.getfield 42, 3) := by decide +kernel
theorem dX10_order_16 : decode cX10_order 16 = .ok (.iload_n 1, 1) := by decide +kernel
theorem dX10_order_17 : decode cX10_order 17 = .ok (.invokevirtual 201, 3) := by decide +kernel
theorem dX10_order_20 : decode cX10_order 20 = .ok (.ireturn, 1) := by decide +kernel
theorem dX10_commonDivisor_0 : decode cX10_commonDivisor 0 = .ok (.lload_n 0, 1) := by decide +kernel
theorem dX10_commonDivisor_1 : decode cX10_commonDivisor 1 = .ok (.lstore 4, 2) := by decide +kernel
theorem dX10_commonDivisor_3 : decode cX10_commonDivisor 3 = .ok (.lload_n 2, 1) := by decide +kernel
theorem dX10_commonDivisor_4 : decode cX10_commonDivisor 4 = .ok (.lstore 6, 2) := by decide +kernel
theorem dX10_commonDivisor_6 : decode cX10_commonDivisor 6 = .ok (.iconst 0, 1) := by decide +kernel
theorem dX10_commonDivisor_7 : decode cX10_commonDivisor 7 = .ok (.istore 8, 2) := by decide +kernel
theorem dX10_commonDivisor_9 : decode cX10_commonDivisor 9 = .ok (.iload 8, 2) := by decide +kernel
theorem dX10_commonDivisor_11 : decode cX10_commonDivisor 11 = .ok (.sipush 1000, 3) := by decide +kernel
theorem dX10_commonDivisor_14 : decode cX10_commonDivisor 14 = .ok (.if_icmp .ge 31, 3) := by decide +kernel
theorem dX10_commonDivisor_17 : decode cX10_commonDivisor 17 = .ok (.lload 6, 2) := by decide +kernel
theorem dX10_commonDivisor_19 : decode cX10_commonDivisor 19 = .ok (.lconst 0, 1) := by decide +kernel
theorem dX10_commonDivisor_20 : decode cX10_commonDivisor 20 = .ok (.lcmp, 1) := by decide +kernel
theorem dX10_commonDivisor_21 : decode cX10_commonDivisor 21 = .ok (.ifCond .eq 24, 3) := by decide +kernel
theorem dX10_commonDivisor_24 : decode cX10_commonDivisor 24 = .ok (.lload 4, 2) := by decide +kernel
theorem dX10_commonDivisor_26 : decode cX10_commonDivisor 26 = .ok (.lload 6, 2) := by decide +kernel
theorem dX10_commonDivisor_28 : decode cX10_commonDivisor 28 = .ok (.lrem, 1) := by decide +kernel
theorem dX10_commonDivisor_29 : decode cX10_commonDivisor 29 = .ok (.lstore 9, 2) := by decide +kernel
theorem dX10_commonDivisor_31 : decode cX10_commonDivisor 31 = .ok (.lload 6, 2) := by decide +kernel
theorem dX10_commonDivisor_33 : decode cX10_commonDivisor 33 = .ok (.lstore 4, 2) := by decide +kernel
theorem dX10_commonDivisor_35 : decode cX10_commonDivisor 35 = .ok (.lload 9, 2) := by decide +kernel
theorem dX10_commonDivisor_37 : decode cX10_commonDivisor 37 = .ok (.lstore 6, 2) := by decide +kernel
theorem dX10_commonDivisor_39 : decode cX10_commonDivisor 39 = .ok (.iinc 8 1, 3) := by decide +kernel
theorem dX10_commonDivisor_42 : decode cX10_commonDivisor 42 = .ok (.goto (-33), 3) := by decide +kernel
theorem dX10_commonDivisor_45 : decode cX10_commonDivisor 45 = .ok (.lload 4, 2) := by decide +kernel
theorem dX10_commonDivisor_47 : decode cX10_commonDivisor 47 = .ok (.lreturn, 1) := by decide +kernel
theorem dX10_said_0 : decode cX10_said 0 = .ok (.aload_n 0, 1) := by decide +kernel
theorem dX10_said_1 : decode cX10_said 1 = .ok (.getfield 10, 3) := by decide +kernel
theorem dX10_said_4 : decode cX10_said 4 = .ok (.iload_n 1, 1) := by decide +kernel
theorem dX10_said_5 : decode cX10_said 5 = .ok (.invokevirtual 81, 3) := by decide +kernel
theorem dX10_said_8 : decode cX10_said 8 = .ok (.ifCond .eq 21, 3) := by decide +kernel
theorem dX10_said_11 : decode cX10_said 11 = .ok (.iload_n 2, 1) := by decide +kernel
theorem dX10_said_12 : decode cX10_said 12 = .ok (.iconst 1, 1) := by decide +kernel
theorem dX10_said_13 : decode cX10_said 13 = .ok (.if_icmp .lt 16, 3) := by decide +kernel
theorem dX10_said_16 : decode cX10_said 16 = .ok (.iload_n 2, 1) := by decide +kernel
theorem dX10_said_17 : decode cX10_said 17 = .ok (.bipush 99, 2) := by decide +kernel
theorem dX10_said_19 : decode cX10_said 19 = .ok (.if_icmp .gt 10, 3) := by decide +kernel
theorem dX10_said_22 : decode cX10_said 22 = .ok (.iload_n 3, 1) := by decide +kernel
theorem dX10_said_23 : decode cX10_said 23 = .ok (.invokestatic 182, 3) := by decide +kernel
theorem dX10_said_26 : decode cX10_said 26 = .ok (.ifCond .ne 7, 3) := by decide +kernel
theorem dX10_said_29 : decode cX10_said 29 = .ok (.ldc2_w 206, 3) := by decide +kernel
theorem dX10_said_32 : decode cX10_said 32 = .ok (.lreturn, 1) := by decide +kernel
theorem dX10_said_33 : decode cX10_said 33 = .ok (.iload_n 2, 1) := by decide +kernel
theorem dX10_said_34 : decode cX10_said 34 = .ok (.i2l, 1) := by decide +kernel
theorem dX10_said_35 : decode cX10_said 35 = .ok (.aload_n 0, 1) := by decide +kernel
theorem dX10_said_36 : decode cX10_said 36 = .ok (.getfield 42, 3) := by decide +kernel
theorem dX10_said_39 : decode cX10_said 39 = .ok (.iload_n 1, 1) := by decide +kernel
theorem dX10_said_40 : decode cX10_said 40 = .ok (.aload_n 0, 1) := by decide +kernel
theorem dX10_said_41 : decode cX10_said 41 = .ok (.getfield 35, 3) := by decide +kernel
theorem dX10_said_44 : decode cX10_said 44 = .ok (.invokevirtual 208, 3) := by decide +kernel
theorem dX10_said_47 : decode cX10_said 47 = .ok (.lmul, 1) := by decide +kernel
theorem dX10_said_48 : decode cX10_said 48 = .ok (.lstore 4, 2) := by decide +kernel
theorem dX10_said_50 : decode cX10_said 50 = .ok (.lload 4, 2) := by decide +kernel
theorem dX10_said_52 : decode cX10_said 52 = .ok (.bipush 100, 2) := by decide +kernel
theorem dX10_said_54 : decode cX10_said 54 = .ok (.iload_n 2, 1) := by decide +kernel
theorem dX10_said_55 : decode cX10_said 55 = .ok (.isub, 1) := by decide +kernel
theorem dX10_said_56 : decode cX10_said 56 = .ok (.i2l, 1) := by decide +kernel
theorem dX10_said_57 : decode cX10_said 57 = .ok (.aload_n 0, 1) := by decide +kernel
theorem dX10_said_58 : decode cX10_said 58 = .ok (.getfield 42, 3) := by decide +kernel
theorem dX10_said_61 : decode cX10_said 61 = .ok (.iload_n 1, 1) := by decide +kernel
theorem dX10_said_62 : decode cX10_said 62 = .ok (.invokevirtual 212, 3) := by decide +kernel
theorem dX10_said_65 : decode cX10_said 65 = .ok (.lmul, 1) := by decide +kernel
theorem dX10_said_66 : decode cX10_said 66 = .ok (.ladd, 1) := by decide +kernel
theorem dX10_said_67 : decode cX10_said 67 = .ok (.lstore 6, 2) := by decide +kernel
theorem dX10_said_69 : decode cX10_said 69 = .ok (.lload 4, 2) := by decide +kernel
theorem dX10_said_71 : decode cX10_said 71 = .ok (.lload 6, 2) := by decide +kernel
theorem dX10_said_73 : decode cX10_said 73 = .ok (.invokestatic 216, 3) := by decide +kernel
theorem dX10_said_76 : decode cX10_said 76 = .ok (.lstore 8, 2) := by decide +kernel
theorem dX10_said_78 : decode cX10_said 78 = .ok (.lload 4, 2) := by decide +kernel
theorem dX10_said_80 : decode cX10_said 80 = .ok (.lconst 0, 1) := by decide +kernel
theorem dX10_said_81 : decode cX10_said 81 = .ok (.lcmp, 1) := by decide +kernel
theorem dX10_said_82 : decode cX10_said 82 = .ok (.ifCond .eq 10, 3) := by decide +kernel
theorem dX10_said_85 : decode cX10_said 85 = .ok (.lload 8, 2) := by decide +kernel
theorem dX10_said_87 : decode cX10_said 87 = .ok (.lconst 0, 1) := by decide +kernel
theorem dX10_said_88 : decode cX10_said 88 = .ok (.lcmp, 1) := by decide +kernel
theorem dX10_said_89 : decode cX10_said 89 = .ok (.ifCond .ne 6, 3) := by decide +kernel
theorem dX10_said_92 : decode cX10_said 92 = .ok (.iload_n 3, 1) := by decide +kernel
theorem dX10_said_93 : decode cX10_said 93 = .ok (.i2l, 1) := by decide +kernel
theorem dX10_said_94 : decode cX10_said 94 = .ok (.lreturn, 1) := by decide +kernel
theorem dX10_said_95 : decode cX10_said 95 = .ok (.iload_n 3, 1) := by decide +kernel
theorem dX10_said_96 : decode cX10_said 96 = .ok (.ifCond .ne 11, 3) := by decide +kernel
theorem dX10_said_99 : decode cX10_said 99 = .ok (.lload 4, 2) := by decide +kernel
theorem dX10_said_101 : decode cX10_said 101 = .ok (.lload 8, 2) := by decide +kernel
theorem dX10_said_103 : decode cX10_said 103 = .ok (.ldiv, 1) := by decide +kernel
theorem dX10_said_104 : decode cX10_said 104 = .ok (.goto 8, 3) := by decide +kernel
theorem dX10_said_107 : decode cX10_said 107 = .ok (.lload 6, 2) := by decide +kernel
theorem dX10_said_109 : decode cX10_said 109 = .ok (.lload 8, 2) := by decide +kernel
theorem dX10_said_111 : decode cX10_said 111 = .ok (.ldiv, 1) := by decide +kernel
theorem dX10_said_112 : decode cX10_said 112 = .ok (.lreturn, 1) := by decide +kernel
theorem dX10_whose_0 : decode cX10_whose 0 = .ok (.aload_n 0, 1) := by decide +kernel
theorem dX10_whose_1 : decode cX10_whose 1 = .ok (.getfield 42, 3) := by decide +kernel
theorem dX10_whose_4 : decode cX10_whose 4 = .ok (.iload_n 1, 1) := by decide +kernel
theorem dX10_whose_5 : decode cX10_whose 5 = .ok (.invokevirtual 130, 3) := by decide +kernel
theorem dX10_whose_8 : decode cX10_whose 8 = .ok (.astore_n 2, 1) := by decide +kernel
theorem dX10_whose_9 : decode cX10_whose 9 = .ok (.aload_n 2, 1) := by decide +kernel
theorem dX10_whose_10 : decode cX10_whose 10 = .ok (.ifnonnull 5, 3) := by decide +kernel
theorem dX10_whose_13 : decode cX10_whose 13 = .ok (.iconst (-1), 1) := by decide +kernel
theorem dX10_whose_14 : decode cX10_whose 14 = .ok (.ireturn, 1) := by decide +kernel
theorem dX10_whose_15 : decode cX10_whose 15 = .ok (.aload_n 0, 1) := by decide +kernel
theorem dX10_whose_16 : decode cX10_whose 16 = .ok (.getfield 35, 3) := by decide +kernel
theorem dX10_whose_19 : decode cX10_whose 19 = .ok (.invokevirtual 220, 3) := by decide +kernel
theorem dX10_whose_22 : decode cX10_whose 22 = .ok (.ifCond .eq 8, 3) := by decide +kernel
theorem dX10_whose_25 : decode cX10_whose 25 = .ok (.bipush (-5), 2) := by decide +kernel
theorem dX10_whose_27 : decode cX10_whose 27 = .ok (.goto 11, 3) := by decide +kernel
theorem dX10_whose_30 : decode cX10_whose 30 = .ok (.aload_n 0, 1) := by decide +kernel
theorem dX10_whose_31 : decode cX10_whose 31 = .ok (.getfield 35, 3) := by decide +kernel
theorem dX10_whose_34 : decode cX10_whose 34 = .ok (.aload_n 2, 1) := by decide +kernel
theorem dX10_whose_35 : decode cX10_whose 35 = .ok (.invokevirtual 223, 3) := by decide +kernel
theorem dX10_whose_38 : decode cX10_whose 38 = .ok (.ireturn, 1) := by decide +kernel
theorem dX10_learnt_0 : decode cX10_learnt 0 = .ok (.iload_n 1, 1) := by decide +kernel
theorem dX10_learnt_1 : decode cX10_learnt 1 = .ok (.iconst 1, 1) := by decide +kernel
theorem dX10_learnt_2 : decode cX10_learnt 2 = .ok (.if_icmp .lt 23, 3) := by decide +kernel
theorem dX10_learnt_5 : decode cX10_learnt 5 = .ok (.iload_n 1, 1) := by decide +kernel
theorem dX10_learnt_6 : decode cX10_learnt 6 = .ok (.iconst 1, 1) := by decide +kernel
theorem dX10_learnt_7 : decode cX10_learnt 7 = .ok (.aload_n 0, 1) := by decide +kernel
theorem dX10_learnt_8 : decode cX10_learnt 8 = .ok (.getfield 42, 3) := by decide +kernel
theorem dX10_learnt_11 : decode cX10_learnt 11 = .ok (.invokevirtual 227, 3) := by decide +kernel
theorem dX10_learnt_14 : decode cX10_learnt 14 = .ok (.ishl, 1) := by decide +kernel
theorem dX10_learnt_15 : decode cX10_learnt 15 = .ok (.if_icmp .ge 10, 3) := by decide +kernel
theorem dX10_learnt_18 : decode cX10_learnt 18 = .ok (.iload_n 2, 1) := by decide +kernel
theorem dX10_learnt_19 : decode cX10_learnt 19 = .ok (.invokestatic 182, 3) := by decide +kernel
theorem dX10_learnt_22 : decode cX10_learnt 22 = .ok (.ifCond .ne 5, 3) := by decide +kernel
theorem dX10_learnt_25 : decode cX10_learnt 25 = .ok (.iconst (-1), 1) := by decide +kernel
theorem dX10_learnt_26 : decode cX10_learnt 26 = .ok (.ireturn, 1) := by decide +kernel
theorem dX10_learnt_27 : decode cX10_learnt 27 = .ok (.aload_n 0, 1) := by decide +kernel
theorem dX10_learnt_28 : decode cX10_learnt 28 = .ok (.getfield 35, 3) := by decide +kernel
theorem dX10_learnt_31 : decode cX10_learnt 31 = .ok (.invokevirtual 220, 3) := by decide +kernel
theorem dX10_learnt_34 : decode cX10_learnt 34 = .ok (.ifCond .eq 6, 3) := by decide +kernel
theorem dX10_learnt_37 : decode cX10_learnt 37 = .ok (.bipush (-5), 2) := by decide +kernel
theorem dX10_learnt_39 : decode cX10_learnt 39 = .ok (.ireturn, 1) := by decide +kernel
theorem dX10_learnt_40 : decode cX10_learnt 40 = .ok (.aload_n 0, 1) := by decide +kernel
theorem dX10_learnt_41 : decode cX10_learnt 41 = .ok (.getfield 35, 3) := by decide +kernel
theorem dX10_learnt_44 : decode cX10_learnt 44 = .ok (.iload_n 1, 1) := by decide +kernel
theorem dX10_learnt_45 : decode cX10_learnt 45 = .ok (.aload_n 0, 1) := by decide +kernel
theorem dX10_learnt_46 : decode cX10_learnt 46 = .ok (.getfield 42, 3) := by decide +kernel
theorem dX10_learnt_49 : decode cX10_learnt 49 = .ok (.invokevirtual 228, 3) := by decide +kernel
theorem dX10_learnt_52 : decode cX10_learnt 52 = .ok (.istore_n 3, 1) := by decide +kernel
theorem dX10_learnt_53 : decode cX10_learnt 53 = .ok (.iload_n 2, 1) := by decide +kernel
theorem dX10_learnt_54 : decode cX10_learnt 54 = .ok (.ifCond .ne 7, 3) := by decide +kernel
theorem dX10_learnt_57 : decode cX10_learnt 57 = .ok (.iload_n 3, 1) := by decide +kernel
theorem dX10_learnt_58 : decode cX10_learnt 58 = .ok (.goto 16, 3) := by decide +kernel
theorem dX10_learnt_61 : decode cX10_learnt 61 = .ok (.aload_n 0, 1) := by decide +kernel
theorem dX10_learnt_62 : decode cX10_learnt 62 = .ok (.getfield 35, 3) := by decide +kernel
theorem dX10_learnt_65 : decode cX10_learnt 65 = .ok (.iload_n 3, 1) := by decide +kernel
theorem dX10_learnt_66 : decode cX10_learnt 66 = .ok (.iload_n 1, 1) := by decide +kernel
theorem dX10_learnt_67 : decode cX10_learnt 67 = .ok (.aload_n 0, 1) := by decide +kernel
theorem dX10_learnt_68 : decode cX10_learnt 68 = .ok (.getfield 42, 3) := by decide +kernel
theorem dX10_learnt_71 : decode cX10_learnt 71 = .ok (.invokevirtual 232, 3) := by decide +kernel
theorem dX10_learnt_74 : decode cX10_learnt 74 = .ok (.ireturn, 1) := by decide +kernel
theorem dX10_asleep_0 : decode cX10_asleep 0 = .ok (.aload_n 0, 1) := by decide +kernel
theorem dX10_asleep_1 : decode cX10_asleep 1 = .ok (.getfield 42, 3) := by decide +kernel
theorem dX10_asleep_4 : decode cX10_asleep 4 = .ok (.iload_n 1, 1) := by decide +kernel
theorem dX10_asleep_5 : decode cX10_asleep 5 = .ok (.invokevirtual 130, 3) := by decide +kernel
theorem dX10_asleep_8 : decode cX10_asleep 8 = .ok (.astore_n 3, 1) := by decide +kernel
theorem dX10_asleep_9 : decode cX10_asleep 9 = .ok (.aload_n 3, 1) := by decide +kernel
theorem dX10_asleep_10 : decode cX10_asleep 10 = .ok (.ifnull 10, 3) := by decide +kernel
theorem dX10_asleep_13 : decode cX10_asleep 13 = .ok (.iload_n 2, 1) := by decide +kernel
theorem dX10_asleep_14 : decode cX10_asleep 14 = .ok (.invokestatic 182, 3) := by decide +kernel
theorem dX10_asleep_17 : decode cX10_asleep 17 = .ok (.ifCond .ne 5, 3) := by decide +kernel
theorem dX10_asleep_20 : decode cX10_asleep 20 = .ok (.iconst (-1), 1) := by decide +kernel
theorem dX10_asleep_21 : decode cX10_asleep 21 = .ok (.ireturn, 1) := by decide +kernel
theorem dX10_asleep_22 : decode cX10_asleep 22 = .ok (.aload_n 0, 1) := by decide +kernel
theorem dX10_asleep_23 : decode cX10_asleep 23 = .ok (.getfield 42, 3) := by decide +kernel
theorem dX10_asleep_26 : decode cX10_asleep 26 = .ok (.aload_n 3, 1) := by decide +kernel
theorem dX10_asleep_27 : decode cX10_asleep 27 = .ok (.invokevirtual 236, 3) := by decide +kernel
theorem dX10_asleep_30 : decode cX10_asleep 30 = .ok (.istore 4, 2) := by decide +kernel
theorem dX10_asleep_32 : decode cX10_asleep 32 = .ok (.iload 4, 2) := by decide +kernel
theorem dX10_asleep_34 : decode cX10_asleep 34 = .ok (.ifCond .ge 5, 3) := by decide +kernel
theorem dX10_asleep_37 : decode cX10_asleep 37 = .ok (.iconst 0, 1) := by decide +kernel
theorem dX10_asleep_38 : decode cX10_asleep 38 = .ok (.ireturn, 1) := by decide +kernel
theorem dX10_asleep_39 : decode cX10_asleep 39 = .ok (.iload_n 2, 1) := by decide +kernel
theorem dX10_asleep_40 : decode cX10_asleep 40 = .ok (.ifCond .ne 15, 3) := by decide +kernel
theorem dX10_asleep_43 : decode cX10_asleep 43 = .ok (.aload_n 0, 1) := by decide +kernel
theorem dX10_asleep_44 : decode cX10_asleep 44 = .ok (.getfield 10, 3) := by decide +kernel
theorem dX10_asleep_47 : decode cX10_asleep 47 = .ok (.iload 4, 2) := by decide +kernel
theorem dX10_asleep_49 : decode cX10_asleep 49 = .ok (.invokevirtual 100, 3) := by decide +kernel
theorem dX10_asleep_52 : decode cX10_asleep 52 = .ok (.goto 13, 3) := by decide +kernel
theorem dX10_asleep_55 : decode cX10_asleep 55 = .ok (.aload_n 0, 1) := by decide +kernel
theorem dX10_asleep_56 : decode cX10_asleep 56 = .ok (.getfield 42, 3) := by decide +kernel
theorem dX10_asleep_59 : decode cX10_asleep 59 = .ok (.aload_n 3, 1) := by decide +kernel
theorem dX10_asleep_60 : decode cX10_asleep 60 = .ok (.iload 4, 2) := by decide +kernel
theorem dX10_asleep_62 : decode cX10_asleep 62 = .ok (.invokevirtual 239, 3) := by decide +kernel
theorem dX10_asleep_65 : decode cX10_asleep 65 = .ok (.ireturn, 1) := by decide +kernel
theorem dX10_ask_0 : decode cX10_ask 0 = .ok (.iload_n 1, 1) := by decide +kernel
theorem dX10_ask_1 : decode cX10_ask 1 = .ok (.invokestatic 182, 3) := by decide +kernel
theorem dX10_ask_4 : decode cX10_ask 4 = .ok (.ifCond .ne 5, 3) := by decide +kernel
theorem dX10_ask_7 : decode cX10_ask 7 = .ok (.iconst (-1), 1) := by decide +kernel
theorem dX10_ask_8 : decode cX10_ask 8 = .ok (.ireturn, 1) := by decide +kernel
theorem dX10_ask_9 : decode cX10_ask 9 = .ok (.aload_n 0, 1) := by decide +kernel
theorem dX10_ask_10 : decode cX10_ask 10 = .ok (.getfield 35, 3) := by decide +kernel
theorem dX10_ask_13 : decode cX10_ask 13 = .ok (.invokevirtual 243, 3) := by decide +kernel
theorem dX10_ask_16 : decode cX10_ask 16 = .ok (.iconst 2, 1) := by decide +kernel
theorem dX10_ask_17 : decode cX10_ask 17 = .ok (.if_icmp .ge 6, 3) := by decide +kernel
theorem dX10_ask_20 : decode cX10_ask 20 = .ok (.bipush (-5), 2) := by decide +kernel
theorem dX10_ask_22 : decode cX10_ask 22 = .ok (.ireturn, 1) := by decide +kernel
theorem dX10_ask_23 : decode cX10_ask 23 = .ok (.aload_n 0, 1) := by decide +kernel
theorem dX10_ask_24 : decode cX10_ask 24 = .ok (.getfield 35, 3) := by decide +kernel
theorem dX10_ask_27 : decode cX10_ask 27 = .ok (.invokevirtual 244, 3) := by decide +kernel
theorem dX10_ask_30 : decode cX10_ask 30 = .ok (.istore_n 2, 1) := by decide +kernel
theorem dX10_ask_31 : decode cX10_ask 31 = .ok (.iload_n 1, 1) := by decide +kernel
theorem dX10_ask_32 : decode cX10_ask 32 = .ok (.ifCond .ne 7, 3) := by decide +kernel
theorem dX10_ask_35 : decode cX10_ask 35 = .ok (.iload_n 2, 1) := by decide +kernel
theorem dX10_ask_36 : decode cX10_ask 36 = .ok (.goto 18, 3) := by decide +kernel
theorem dX10_ask_39 : decode cX10_ask 39 = .ok (.aload_n 0, 1) := by decide +kernel
theorem dX10_ask_40 : decode cX10_ask 40 = .ok (.getfield 35, 3) := by decide +kernel
theorem dX10_ask_43 : decode cX10_ask 43 = .ok (.iload_n 2, 1) := by decide +kernel
theorem dX10_ask_44 : decode cX10_ask 44 = .ok (.bipush 10, 2) := by decide +kernel
theorem dX10_ask_46 : decode cX10_ask 46 = .ok (.idiv, 1) := by decide +kernel
theorem dX10_ask_47 : decode cX10_ask 47 = .ok (.iload_n 2, 1) := by decide +kernel
theorem dX10_ask_48 : decode cX10_ask 48 = .ok (.bipush 10, 2) := by decide +kernel
theorem dX10_ask_50 : decode cX10_ask 50 = .ok (.irem, 1) := by decide +kernel
theorem dX10_ask_51 : decode cX10_ask 51 = .ok (.invokevirtual 247, 3) := by decide +kernel
theorem dX10_ask_54 : decode cX10_ask 54 = .ok (.ireturn, 1) := by decide +kernel
theorem dX10_years_0 : decode cX10_years 0 = .ok (.aload_n 0, 1) := by decide +kernel
theorem dX10_years_1 : decode cX10_years 1 = .ok (.getfield 35, 3) := by decide +kernel
theorem dX10_years_4 : decode cX10_years 4 = .ok (.iload_n 1, 1) := by decide +kernel
theorem dX10_years_5 : decode cX10_years 5 = .ok (.invokevirtual 123, 3) := by decide +kernel
theorem dX10_years_8 : decode cX10_years 8 = .ok (.ifCond .eq 13, 3) := by decide +kernel
theorem dX10_years_11 : decode cX10_years 11 = .ok (.iload_n 2, 1) := by decide +kernel
theorem dX10_years_12 : decode cX10_years 12 = .ok (.ifCond .lt 9, 3) := by decide +kernel
theorem dX10_years_15 : decode cX10_years 15 = .ok (.iload_n 2, 1) := by decide +kernel
theorem dX10_years_16 : decode cX10_years 16 = .ok (.bipush 99, 2) := by decide +kernel
theorem dX10_years_18 : decode cX10_years 18 = .ok (.if_icmp .le 5, 3) := by decide +kernel
theorem dX10_years_21 : decode cX10_years 21 = .ok (.iconst (-1), 1) := by decide +kernel
theorem dX10_years_22 : decode cX10_years 22 = .ok (.ireturn, 1) := by decide +kernel
theorem dX10_years_23 : decode cX10_years 23 = .ok (.iconst 0, 1) := by decide +kernel
theorem dX10_years_24 : decode cX10_years 24 = .ok (.istore_n 3, 1) := by decide +kernel
theorem dX10_years_25 : decode cX10_years 25 = .ok (.iconst 0, 1) := by decide +kernel
theorem dX10_years_26 : decode cX10_years 26 = .ok (.istore 4, 2) := by decide +kernel
theorem dX10_years_28 : decode cX10_years 28 = .ok (.iload 4, 2) := by decide +kernel
theorem dX10_years_30 : decode cX10_years 30 = .ok (.aload_n 0, 1) := by decide +kernel
theorem dX10_years_31 : decode cX10_years 31 = .ok (.getfield 10, 3) := by decide +kernel
theorem dX10_years_34 : decode cX10_years 34 = .ok (.invokevirtual 138, 3) := by decide +kernel
theorem dX10_years_37 : decode cX10_years 37 = .ok (.if_icmp .ge 30, 3) := by decide +kernel
theorem dX10_years_40 : decode cX10_years 40 = .ok (.iload_n 3, 1) := by decide +kernel
theorem dX10_years_41 : decode cX10_years 41 = .ok (.aload_n 0, 1) := by decide +kernel
theorem dX10_years_42 : decode cX10_years 42 = .ok (.getfield 35, 3) := by decide +kernel
theorem dX10_years_45 : decode cX10_years 45 = .ok (.iload_n 1, 1) := by decide +kernel
theorem dX10_years_46 : decode cX10_years 46 = .ok (.iload 4, 2) := by decide +kernel
theorem dX10_years_48 : decode cX10_years 48 = .ok (.invokevirtual 124, 3) := by decide +kernel
theorem dX10_years_51 : decode cX10_years 51 = .ok (.bipush 100, 2) := by decide +kernel
theorem dX10_years_53 : decode cX10_years 53 = .ok (.iload_n 2, 1) := by decide +kernel
theorem dX10_years_54 : decode cX10_years 54 = .ok (.isub, 1) := by decide +kernel
theorem dX10_years_55 : decode cX10_years 55 = .ok (.imul, 1) := by decide +kernel
theorem dX10_years_56 : decode cX10_years 56 = .ok (.bipush 100, 2) := by decide +kernel
theorem dX10_years_58 : decode cX10_years 58 = .ok (.idiv, 1) := by decide +kernel
theorem dX10_years_59 : decode cX10_years 59 = .ok (.iadd, 1) := by decide +kernel
theorem dX10_years_60 : decode cX10_years 60 = .ok (.istore_n 3, 1) := by decide +kernel
theorem dX10_years_61 : decode cX10_years 61 = .ok (.iinc 4 1, 3) := by decide +kernel
theorem dX10_years_64 : decode cX10_years 64 = .ok (.goto (-36), 3) := by decide +kernel
theorem dX10_years_67 : decode cX10_years 67 = .ok (.iload_n 3, 1) := by decide +kernel
theorem dX10_years_68 : decode cX10_years 68 = .ok (.ireturn, 1) := by decide +kernel
theorem dX10_undo_0 : decode cX10_undo 0 = .ok (.aload_n 0, 1) := by decide +kernel
theorem dX10_undo_1 : decode cX10_undo 1 = .ok (.getfield 19, 3) := by decide +kernel
theorem dX10_undo_4 : decode cX10_undo 4 = .ok (.aload_n 0, 1) := by decide +kernel
theorem dX10_undo_5 : decode cX10_undo 5 = .ok (.getfield 10, 3) := by decide +kernel
theorem dX10_undo_8 : decode cX10_undo 8 = .ok (.invokevirtual 250, 3) := by decide +kernel
theorem dX10_undo_11 : decode cX10_undo 11 = .ok (.ifCond .eq 13, 3) := by decide +kernel
theorem dX10_undo_14 : decode cX10_undo 14 = .ok (.aload_n 0, 1) := by decide +kernel
theorem dX10_undo_15 : decode cX10_undo 15 = .ok (.getfield 19, 3) := by decide +kernel
theorem dX10_undo_18 : decode cX10_undo 18 = .ok (.invokevirtual 254, 3) := by decide +kernel
theorem dX10_undo_21 : decode cX10_undo 21 = .ok (.goto 5, 3) := by decide +kernel
theorem dX10_undo_24 : decode cX10_undo 24 = .ok (.bipush (-5), 2) := by decide +kernel
theorem dX10_undo_26 : decode cX10_undo 26 = .ok (.ireturn, 1) := by decide +kernel
theorem dX10_redo_0 : decode cX10_redo 0 = .ok (.aload_n 0, 1) := by decide +kernel
theorem dX10_redo_1 : decode cX10_redo 1 = .ok (.getfield 19, 3) := by decide +kernel
theorem dX10_redo_4 : decode cX10_redo 4 = .ok (.aload_n 0, 1) := by decide +kernel
theorem dX10_redo_5 : decode cX10_redo 5 = .ok (.getfield 10, 3) := by decide +kernel
theorem dX10_redo_8 : decode cX10_redo 8 = .ok (.invokevirtual 257, 3) := by decide +kernel
theorem dX10_redo_11 : decode cX10_redo 11 = .ok (.ifCond .eq 13, 3) := by decide +kernel
theorem dX10_redo_14 : decode cX10_redo 14 = .ok (.aload_n 0, 1) := by decide +kernel
theorem dX10_redo_15 : decode cX10_redo 15 = .ok (.getfield 19, 3) := by decide +kernel
theorem dX10_redo_18 : decode cX10_redo 18 = .ok (.invokevirtual 260, 3) := by decide +kernel
theorem dX10_redo_21 : decode cX10_redo 21 = .ok (.goto 5, 3) := by decide +kernel
theorem dX10_redo_24 : decode cX10_redo 24 = .ok (.bipush (-5), 2) := by decide +kernel
theorem dX10_redo_26 : decode cX10_redo 26 = .ok (.ireturn, 1) := by decide +kernel
theorem dX10_body_0 : decode cX10_body 0 = .ok (.iload_n 1, 1) := by decide +kernel
theorem dX10_body_1 : decode cX10_body 1 = .ok (.invokestatic 263, 3) := by decide +kernel
theorem dX10_body_4 : decode cX10_body 4 = .ok (.ifCond .ne 5, 3) := by decide +kernel
theorem dX10_body_7 : decode cX10_body 7 = .ok (.iconst (-1), 1) := by decide +kernel
theorem dX10_body_8 : decode cX10_body 8 = .ok (.ireturn, 1) := by decide +kernel
theorem dX10_body_9 : decode cX10_body 9 = .ok (.aload_n 0, 1) := by decide +kernel
theorem dX10_body_10 : decode cX10_body 10 = .ok (.getfield 49, 3) := by decide +kernel
theorem dX10_body_13 : decode cX10_body 13 = .ok (.iload_n 1, 1) := by decide +kernel
theorem dX10_body_14 : decode cX10_body 14 = .ok (.invokevirtual 266, 3) := by decide +kernel
theorem dX10_body_17 : decode cX10_body 17 = .ok (.ireturn, 1) := by decide +kernel
theorem dX10_act_0 : decode cX10_act 0 = .ok (.aload_n 0, 1) := by decide +kernel
theorem dX10_act_1 : decode cX10_act 1 = .ok (.getfield 49, 3) := by decide +kernel
theorem dX10_act_4 : decode cX10_act 4 = .ok (.iload_n 1, 1) := by decide +kernel
theorem dX10_act_5 : decode cX10_act 5 = .ok (.iload_n 2, 1) := by decide +kernel
theorem dX10_act_6 : decode cX10_act 6 = .ok (.iload_n 3, 1) := by decide +kernel
theorem dX10_act_7 : decode cX10_act 7 = .ok (.invokevirtual 268, 3) := by decide +kernel
theorem dX10_act_10 : decode cX10_act 10 = .ok (.ireturn, 1) := by decide +kernel
theorem dX10_trace_0 : decode cX10_trace 0 = .ok (.aload_n 0, 1) := by decide +kernel
theorem dX10_trace_1 : decode cX10_trace 1 = .ok (.getfield 49, 3) := by decide +kernel
theorem dX10_trace_4 : decode cX10_trace 4 = .ok (.iload_n 1, 1) := by decide +kernel
theorem dX10_trace_5 : decode cX10_trace 5 = .ok (.invokevirtual 272, 3) := by decide +kernel
theorem dX10_trace_8 : decode cX10_trace 8 = .ok (.ireturn, 1) := by decide +kernel
theorem dX10_keep_0 : decode cX10_keep 0 = .ok (.iload_n 1, 1) := by decide +kernel
theorem dX10_keep_1 : decode cX10_keep 1 = .ok (.invokestatic 64, 3) := by decide +kernel
theorem dX10_keep_4 : decode cX10_keep 4 = .ok (.ifCond .eq 19, 3) := by decide +kernel
theorem dX10_keep_7 : decode cX10_keep 7 = .ok (.iload_n 2, 1) := by decide +kernel
theorem dX10_keep_8 : decode cX10_keep 8 = .ok (.iconst (-1), 1) := by decide +kernel
theorem dX10_keep_9 : decode cX10_keep 9 = .ok (.if_icmp .eq 16, 3) := by decide +kernel
theorem dX10_keep_12 : decode cX10_keep 12 = .ok (.aload_n 0, 1) := by decide +kernel
theorem dX10_keep_13 : decode cX10_keep 13 = .ok (.getfield 49, 3) := by decide +kernel
theorem dX10_keep_16 : decode cX10_keep 16 = .ok (.iload_n 2, 1) := by decide +kernel
theorem dX10_keep_17 : decode cX10_keep 17 = .ok (.invokevirtual 275, 3) := by decide +kernel
theorem dX10_keep_20 : decode cX10_keep 20 = .ok (.ifCond .ne 5, 3) := by decide +kernel
theorem dX10_keep_23 : decode cX10_keep 23 = .ok (.iconst (-1), 1) := by decide +kernel
theorem dX10_keep_24 : decode cX10_keep 24 = .ok (.ireturn, 1) := by decide +kernel
theorem dX10_keep_25 : decode cX10_keep 25 = .ok (.aload_n 0, 1) := by decide +kernel
theorem dX10_keep_26 : decode cX10_keep 26 = .ok (.getfield 55, 3) := by decide +kernel
theorem dX10_keep_29 : decode cX10_keep 29 = .ok (.iload_n 1, 1) := by decide +kernel
theorem dX10_keep_30 : decode cX10_keep 30 = .ok (.aaload, 1) := by decide +kernel
theorem dX10_keep_31 : decode cX10_keep 31 = .ok (.iload_n 2, 1) := by decide +kernel
theorem dX10_keep_32 : decode cX10_keep 32 = .ok (.invokevirtual 276, 3) := by decide +kernel
theorem dX10_keep_35 : decode cX10_keep 35 = .ok (.iconst 1, 1) := by decide +kernel
theorem dX10_keep_36 : decode cX10_keep 36 = .ok (.ireturn, 1) := by decide +kernel
theorem dX10_row_0 : decode cX10_row 0 = .ok (.iload_n 1, 1) := by decide +kernel
theorem dX10_row_1 : decode cX10_row 1 = .ok (.invokestatic 64, 3) := by decide +kernel
theorem dX10_row_4 : decode cX10_row 4 = .ok (.ifCond .eq 16, 3) := by decide +kernel
theorem dX10_row_7 : decode cX10_row 7 = .ok (.iload_n 2, 1) := by decide +kernel
theorem dX10_row_8 : decode cX10_row 8 = .ok (.invokestatic 279, 3) := by decide +kernel
theorem dX10_row_11 : decode cX10_row 11 = .ok (.ifCond .eq 9, 3) := by decide +kernel
theorem dX10_row_14 : decode cX10_row 14 = .ok (.iload_n 3, 1) := by decide +kernel
theorem dX10_row_15 : decode cX10_row 15 = .ok (.bipush 60, 2) := by decide +kernel
theorem dX10_row_17 : decode cX10_row 17 = .ok (.if_icmp .le 5, 3) := by decide +kernel
theorem dX10_row_20 : decode cX10_row 20 = .ok (.iconst (-1), 1) := by decide +kernel
theorem dX10_row_21 : decode cX10_row 21 = .ok (.ireturn, 1) := by decide +kernel
theorem dX10_row_22 : decode cX10_row 22 = .ok (.iload_n 3, 1) := by decide +kernel
theorem dX10_row_23 : decode cX10_row 23 = .ok (.ifCond .ge 6, 3) := by decide +kernel
theorem dX10_row_26 : decode cX10_row 26 = .ok (.bipush (-14), 2) := by decide +kernel
theorem dX10_row_28 : decode cX10_row 28 = .ok (.ireturn, 1) := by decide +kernel
theorem dX10_row_29 : decode cX10_row 29 = .ok (.aload_n 0, 1) := by decide +kernel
theorem dX10_row_30 : decode cX10_row 30 = .ok (.getfield 55, 3) := by decide +kernel
theorem dX10_row_33 : decode cX10_row 33 = .ok (.iload_n 1, 1) := by decide +kernel
theorem dX10_row_34 : decode cX10_row 34 = .ok (.aaload, 1) := by decide +kernel
theorem dX10_row_35 : decode cX10_row 35 = .ok (.iload_n 2, 1) := by decide +kernel
theorem dX10_row_36 : decode cX10_row 36 = .ok (.iload_n 3, 1) := by decide +kernel
theorem dX10_row_37 : decode cX10_row 37 = .ok (.invokevirtual 282, 3) := by decide +kernel
theorem dX10_row_40 : decode cX10_row 40 = .ok (.iconst 1, 1) := by decide +kernel
theorem dX10_row_41 : decode cX10_row 41 = .ok (.ireturn, 1) := by decide +kernel
theorem dX10_placeRefusal_0 : decode cX10_placeRefusal 0 = .ok (.iload_n 1, 1) := by decide +kernel
theorem dX10_placeRefusal_1 : decode cX10_placeRefusal 1 = .ok (.invokestatic 64, 3) := by decide +kernel
theorem dX10_placeRefusal_4 : decode cX10_placeRefusal 4 = .ok (.ifCond .ne 5, 3) := by decide +kernel
theorem dX10_placeRefusal_7 : decode cX10_placeRefusal 7 = .ok (.iconst (-1), 1) := by decide +kernel
theorem dX10_placeRefusal_8 : decode cX10_placeRefusal 8 = .ok (.ireturn, 1) := by decide +kernel
theorem dX10_placeRefusal_9 : decode cX10_placeRefusal 9 = .ok (.aload_n 0, 1) := by decide +kernel
theorem dX10_placeRefusal_10 : decode cX10_placeRefusal 10 = .ok (.getfield 55, 3) := by decide +kernel
theorem dX10_placeRefusal_13 : decode cX10_placeRefusal 13 = .ok (.iload_n 1, 1) := by decide +kernel
theorem dX10_placeRefusal_14 : decode cX10_placeRefusal 14 = .ok (.aaload, 1) := by decide +kernel
theorem dX10_placeRefusal_15 : decode cX10_placeRefusal 15 = .ok (.invokevirtual 68, 3) := by decide +kernel
theorem dX10_placeRefusal_18 : decode cX10_placeRefusal 18 = .ok (.ifCond .eq 6, 3) := by decide +kernel
theorem dX10_placeRefusal_21 : decode cX10_placeRefusal 21 = .ok (.bipush (-11), 2) := by decide +kernel
theorem dX10_placeRefusal_23 : decode cX10_placeRefusal 23 = .ok (.ireturn, 1) := by decide +kernel
theorem dX10_placeRefusal_24 : decode cX10_placeRefusal 24 = .ok (.aload_n 0, 1) := by decide +kernel
theorem dX10_placeRefusal_25 : decode cX10_placeRefusal 25 = .ok (.getfield 55, 3) := by decide +kernel
theorem dX10_placeRefusal_28 : decode cX10_placeRefusal 28 = .ok (.iload_n 1, 1) := by decide +kernel
theorem dX10_placeRefusal_29 : decode cX10_placeRefusal 29 = .ok (.aaload, 1) := by decide +kernel
theorem dX10_placeRefusal_30 : decode cX10_placeRefusal 30 = .ok (.invokevirtual 295, 3) := by decide +kernel
theorem dX10_placeRefusal_33 : decode cX10_placeRefusal 33 = .ok (.ifCond .ne 6, 3) := by decide +kernel
theorem dX10_placeRefusal_36 : decode cX10_placeRefusal 36 = .ok (.bipush (-12), 2) := by decide +kernel
theorem dX10_placeRefusal_38 : decode cX10_placeRefusal 38 = .ok (.ireturn, 1) := by decide +kernel
theorem dX10_placeRefusal_39 : decode cX10_placeRefusal 39 = .ok (.aload_n 0, 1) := by decide +kernel
theorem dX10_placeRefusal_40 : decode cX10_placeRefusal 40 = .ok (.getfield 55, 3) := by decide +kernel
theorem dX10_placeRefusal_43 : decode cX10_placeRefusal 43 = .ok (.iload_n 1, 1) := by decide +kernel
theorem dX10_placeRefusal_44 : decode cX10_placeRefusal 44 = .ok (.aaload, 1) := by decide +kernel
theorem dX10_placeRefusal_45 : decode cX10_placeRefusal 45 = .ok (.iload_n 2, 1) := by decide +kernel
theorem dX10_placeRefusal_46 : decode cX10_placeRefusal 46 = .ok (.iconst 1, 1) := by decide +kernel
theorem dX10_placeRefusal_47 : decode cX10_placeRefusal 47 = .ok (.invokevirtual 301, 3) := by decide +kernel
theorem dX10_placeRefusal_50 : decode cX10_placeRefusal 50 = .ok (.ifCond .eq 7, 3) := by decide +kernel
theorem dX10_placeRefusal_53 : decode cX10_placeRefusal 53 = .ok (.iconst 0, 1) := by decide +kernel
theorem dX10_placeRefusal_54 : decode cX10_placeRefusal 54 = .ok (.goto 5, 3) := by decide +kernel
theorem dX10_placeRefusal_57 : decode cX10_placeRefusal 57 = .ok (.bipush (-13), 2) := by decide +kernel
theorem dX10_placeRefusal_59 : decode cX10_placeRefusal 59 = .ok (.ireturn, 1) := by decide +kernel
theorem dX10_put_0 : decode cX10_put 0 = .ok (.aload_n 0, 1) := by decide +kernel
theorem dX10_put_1 : decode cX10_put 1 = .ok (.iload_n 1, 1) := by decide +kernel
theorem dX10_put_2 : decode cX10_put 2 = .ok (.iload_n 2, 1) := by decide +kernel
theorem dX10_put_3 : decode cX10_put 3 = .ok (.invokevirtual 285, 3) := by decide +kernel
theorem dX10_put_6 : decode cX10_put 6 = .ok (.istore 5, 2) := by decide +kernel
theorem dX10_put_8 : decode cX10_put 8 = .ok (.iload 5, 2) := by decide +kernel
theorem dX10_put_10 : decode cX10_put 10 = .ok (.ifCond .eq 6, 3) := by decide +kernel
theorem dX10_put_13 : decode cX10_put 13 = .ok (.iload 5, 2) := by decide +kernel
theorem dX10_put_15 : decode cX10_put 15 = .ok (.ireturn, 1) := by decide +kernel
theorem dX10_put_16 : decode cX10_put 16 = .ok (.aload_n 0, 1) := by decide +kernel
theorem dX10_put_17 : decode cX10_put 17 = .ok (.getfield 55, 3) := by decide +kernel
theorem dX10_put_20 : decode cX10_put 20 = .ok (.iload_n 1, 1) := by decide +kernel
theorem dX10_put_21 : decode cX10_put 21 = .ok (.aaload, 1) := by decide +kernel
theorem dX10_put_22 : decode cX10_put 22 = .ok (.iload_n 2, 1) := by decide +kernel
theorem dX10_put_23 : decode cX10_put 23 = .ok (.lload_n 3, 1) := by decide +kernel
theorem dX10_put_24 : decode cX10_put 24 = .ok (.invokevirtual 288, 3) := by decide +kernel
theorem dX10_put_27 : decode cX10_put 27 = .ok (.iconst 1, 1) := by decide +kernel
theorem dX10_put_28 : decode cX10_put 28 = .ok (.ireturn, 1) := by decide +kernel
theorem dX10_element_0 : decode cX10_element 0 = .ok (.aload_n 0, 1) := by decide +kernel
theorem dX10_element_1 : decode cX10_element 1 = .ok (.iload_n 1, 1) := by decide +kernel
theorem dX10_element_2 : decode cX10_element 2 = .ok (.iload_n 2, 1) := by decide +kernel
theorem dX10_element_3 : decode cX10_element 3 = .ok (.invokevirtual 285, 3) := by decide +kernel
theorem dX10_element_6 : decode cX10_element 6 = .ok (.ifCond .eq 9, 3) := by decide +kernel
theorem dX10_element_9 : decode cX10_element 9 = .ok (.ldc2_w 206, 3) := by decide +kernel
theorem dX10_element_12 : decode cX10_element 12 = .ok (.goto 13, 3) := by decide +kernel
theorem dX10_element_15 : decode cX10_element 15 = .ok (.aload_n 0, 1) := by decide +kernel
theorem dX10_element_16 : decode cX10_element 16 = .ok (.getfield 55, 3) := by decide +kernel
theorem dX10_element_19 : decode cX10_element 19 = .ok (.iload_n 1, 1) := by decide +kernel
theorem dX10_element_20 : decode cX10_element 20 = .ok (.aaload, 1) := by decide +kernel
theorem dX10_element_21 : decode cX10_element 21 = .ok (.iload_n 2, 1) := by decide +kernel
theorem dX10_element_22 : decode cX10_element 22 = .ok (.invokevirtual 292, 3) := by decide +kernel
theorem dX10_element_25 : decode cX10_element 25 = .ok (.lreturn, 1) := by decide +kernel
theorem dX10_shift_0 : decode cX10_shift 0 = .ok (.iload_n 1, 1) := by decide +kernel
theorem dX10_shift_1 : decode cX10_shift 1 = .ok (.invokestatic 64, 3) := by decide +kernel
theorem dX10_shift_4 : decode cX10_shift 4 = .ok (.ifCond .eq 10, 3) := by decide +kernel
theorem dX10_shift_7 : decode cX10_shift 7 = .ok (.iload_n 3, 1) := by decide +kernel
theorem dX10_shift_8 : decode cX10_shift 8 = .ok (.invokestatic 64, 3) := by decide +kernel
theorem dX10_shift_11 : decode cX10_shift 11 = .ok (.ifCond .ne 5, 3) := by decide +kernel
theorem dX10_shift_14 : decode cX10_shift 14 = .ok (.iconst (-1), 1) := by decide +kernel
theorem dX10_shift_15 : decode cX10_shift 15 = .ok (.ireturn, 1) := by decide +kernel
theorem dX10_shift_16 : decode cX10_shift 16 = .ok (.aload_n 0, 1) := by decide +kernel
theorem dX10_shift_17 : decode cX10_shift 17 = .ok (.getfield 55, 3) := by decide +kernel
theorem dX10_shift_20 : decode cX10_shift 20 = .ok (.iload_n 1, 1) := by decide +kernel
theorem dX10_shift_21 : decode cX10_shift 21 = .ok (.aaload, 1) := by decide +kernel
theorem dX10_shift_22 : decode cX10_shift 22 = .ok (.astore 6, 2) := by decide +kernel
theorem dX10_shift_24 : decode cX10_shift 24 = .ok (.aload_n 0, 1) := by decide +kernel
theorem dX10_shift_25 : decode cX10_shift 25 = .ok (.getfield 55, 3) := by decide +kernel
theorem dX10_shift_28 : decode cX10_shift 28 = .ok (.iload_n 3, 1) := by decide +kernel
theorem dX10_shift_29 : decode cX10_shift 29 = .ok (.aaload, 1) := by decide +kernel
theorem dX10_shift_30 : decode cX10_shift 30 = .ok (.astore 7, 2) := by decide +kernel
theorem dX10_shift_32 : decode cX10_shift 32 = .ok (.aload 6, 2) := by decide +kernel
theorem dX10_shift_34 : decode cX10_shift 34 = .ok (.invokevirtual 68, 3) := by decide +kernel
theorem dX10_shift_37 : decode cX10_shift 37 = .ok (.ifCond .ne 11, 3) := by decide +kernel
theorem dX10_shift_40 : decode cX10_shift 40 = .ok (.aload 7, 2) := by decide +kernel
theorem dX10_shift_42 : decode cX10_shift 42 = .ok (.invokevirtual 68, 3) := by decide +kernel
theorem dX10_shift_45 : decode cX10_shift 45 = .ok (.ifCond .eq 6, 3) := by decide +kernel
theorem dX10_shift_48 : decode cX10_shift 48 = .ok (.bipush (-11), 2) := by decide +kernel
theorem dX10_shift_50 : decode cX10_shift 50 = .ok (.ireturn, 1) := by decide +kernel
theorem dX10_shift_51 : decode cX10_shift 51 = .ok (.aload 6, 2) := by decide +kernel
theorem dX10_shift_53 : decode cX10_shift 53 = .ok (.invokevirtual 295, 3) := by decide +kernel
theorem dX10_shift_56 : decode cX10_shift 56 = .ok (.ifCond .eq 24, 3) := by decide +kernel
theorem dX10_shift_59 : decode cX10_shift 59 = .ok (.aload 7, 2) := by decide +kernel
theorem dX10_shift_61 : decode cX10_shift 61 = .ok (.invokevirtual 295, 3) := by decide +kernel
theorem dX10_shift_64 : decode cX10_shift 64 = .ok (.ifCond .eq 16, 3) := by decide +kernel
theorem dX10_shift_67 : decode cX10_shift 67 = .ok (.aload 6, 2) := by decide +kernel
theorem dX10_shift_69 : decode cX10_shift 69 = .ok (.invokevirtual 298, 3) := by decide +kernel
theorem dX10_shift_72 : decode cX10_shift 72 = .ok (.aload 7, 2) := by decide +kernel
theorem dX10_shift_74 : decode cX10_shift 74 = .ok (.invokevirtual 298, 3) := by decide +kernel
theorem dX10_shift_77 : decode cX10_shift 77 = .ok (.if_icmp .eq 6, 3) := by decide +kernel
theorem dX10_shift_80 : decode cX10_shift 80 = .ok (.bipush (-12), 2) := by decide +kernel
theorem dX10_shift_82 : decode cX10_shift 82 = .ok (.ireturn, 1) := by decide +kernel
theorem dX10_shift_83 : decode cX10_shift 83 = .ok (.aload 6, 2) := by decide +kernel
theorem dX10_shift_85 : decode cX10_shift 85 = .ok (.iload_n 2, 1) := by decide +kernel
theorem dX10_shift_86 : decode cX10_shift 86 = .ok (.iload 5, 2) := by decide +kernel
theorem dX10_shift_88 : decode cX10_shift 88 = .ok (.invokevirtual 301, 3) := by decide +kernel
theorem dX10_shift_91 : decode cX10_shift 91 = .ok (.ifCond .eq 15, 3) := by decide +kernel
theorem dX10_shift_94 : decode cX10_shift 94 = .ok (.aload 7, 2) := by decide +kernel
theorem dX10_shift_96 : decode cX10_shift 96 = .ok (.iload 4, 2) := by decide +kernel
theorem dX10_shift_98 : decode cX10_shift 98 = .ok (.iload 5, 2) := by decide +kernel
theorem dX10_shift_100 : decode cX10_shift 100 = .ok (.invokevirtual 301, 3) := by decide +kernel
theorem dX10_shift_103 : decode cX10_shift 103 = .ok (.ifCond .ne 6, 3) := by decide +kernel
theorem dX10_shift_106 : decode cX10_shift 106 = .ok (.bipush (-13), 2) := by decide +kernel
theorem dX10_shift_108 : decode cX10_shift 108 = .ok (.ireturn, 1) := by decide +kernel
theorem dX10_shift_109 : decode cX10_shift 109 = .ok (.aload 6, 2) := by decide +kernel
theorem dX10_shift_111 : decode cX10_shift 111 = .ok (.iload_n 2, 1) := by decide +kernel
theorem dX10_shift_112 : decode cX10_shift 112 = .ok (.aload 7, 2) := by decide +kernel
theorem dX10_shift_114 : decode cX10_shift 114 = .ok (.iload 4, 2) := by decide +kernel
theorem dX10_shift_116 : decode cX10_shift 116 = .ok (.iload 5, 2) := by decide +kernel
theorem dX10_shift_118 : decode cX10_shift 118 = .ok (.invokevirtual 304, 3) := by decide +kernel
theorem dX10_shift_121 : decode cX10_shift 121 = .ok (.iload 5, 2) := by decide +kernel
theorem dX10_shift_123 : decode cX10_shift 123 = .ok (.ireturn, 1) := by decide +kernel
theorem dX10_taken_0 : decode cX10_taken 0 = .ok (.iload_n 1, 1) := by decide +kernel
theorem dX10_taken_1 : decode cX10_taken 1 = .ok (.invokestatic 64, 3) := by decide +kernel
theorem dX10_taken_4 : decode cX10_taken 4 = .ok (.ifCond .eq 10, 3) := by decide +kernel
theorem dX10_taken_7 : decode cX10_taken 7 = .ok (.iload_n 2, 1) := by decide +kernel
theorem dX10_taken_8 : decode cX10_taken 8 = .ok (.invokestatic 263, 3) := by decide +kernel
theorem dX10_taken_11 : decode cX10_taken 11 = .ok (.ifCond .ne 5, 3) := by decide +kernel
theorem dX10_taken_14 : decode cX10_taken 14 = .ok (.iconst (-1), 1) := by decide +kernel
theorem dX10_taken_15 : decode cX10_taken 15 = .ok (.ireturn, 1) := by decide +kernel
theorem dX10_taken_16 : decode cX10_taken 16 = .ok (.aload_n 0, 1) := by decide +kernel
theorem dX10_taken_17 : decode cX10_taken 17 = .ok (.getfield 55, 3) := by decide +kernel
theorem dX10_taken_20 : decode cX10_taken 20 = .ok (.iload_n 1, 1) := by decide +kernel
theorem dX10_taken_21 : decode cX10_taken 21 = .ok (.aaload, 1) := by decide +kernel
theorem dX10_taken_22 : decode cX10_taken 22 = .ok (.astore_n 3, 1) := by decide +kernel
theorem dX10_taken_23 : decode cX10_taken 23 = .ok (.aload_n 3, 1) := by decide +kernel
theorem dX10_taken_24 : decode cX10_taken 24 = .ok (.invokevirtual 68, 3) := by decide +kernel
theorem dX10_taken_27 : decode cX10_taken 27 = .ok (.ifCond .eq 6, 3) := by decide +kernel
theorem dX10_taken_30 : decode cX10_taken 30 = .ok (.bipush (-11), 2) := by decide +kernel
theorem dX10_taken_32 : decode cX10_taken 32 = .ok (.ireturn, 1) := by decide +kernel
theorem dX10_taken_33 : decode cX10_taken 33 = .ok (.aload_n 3, 1) := by decide +kernel
theorem dX10_taken_34 : decode cX10_taken 34 = .ok (.invokevirtual 295, 3) := by decide +kernel
theorem dX10_taken_37 : decode cX10_taken 37 = .ok (.ifCond .eq 7, 3) := by decide +kernel
theorem dX10_taken_40 : decode cX10_taken 40 = .ok (.iconst (-1), 1) := by decide +kernel
theorem dX10_taken_41 : decode cX10_taken 41 = .ok (.goto 14, 3) := by decide +kernel
theorem dX10_taken_44 : decode cX10_taken 44 = .ok (.aload_n 0, 1) := by decide +kernel
theorem dX10_taken_45 : decode cX10_taken 45 = .ok (.getfield 49, 3) := by decide +kernel
theorem dX10_taken_48 : decode cX10_taken 48 = .ok (.aload_n 3, 1) := by decide +kernel
theorem dX10_taken_49 : decode cX10_taken 49 = .ok (.invokevirtual 308, 3) := by decide +kernel
theorem dX10_taken_52 : decode cX10_taken 52 = .ok (.invokevirtual 311, 3) := by decide +kernel
theorem dX10_taken_55 : decode cX10_taken 55 = .ok (.istore 4, 2) := by decide +kernel
theorem dX10_taken_57 : decode cX10_taken 57 = .ok (.iload 4, 2) := by decide +kernel
theorem dX10_taken_59 : decode cX10_taken 59 = .ok (.iload_n 2, 1) := by decide +kernel
theorem dX10_taken_60 : decode cX10_taken 60 = .ok (.invokestatic 314, 3) := by decide +kernel
theorem dX10_taken_63 : decode cX10_taken 63 = .ok (.ifCond .eq 8, 3) := by decide +kernel
theorem dX10_taken_66 : decode cX10_taken 66 = .ok (.iload 4, 2) := by decide +kernel
theorem dX10_taken_68 : decode cX10_taken 68 = .ok (.goto 5, 3) := by decide +kernel
theorem dX10_taken_71 : decode cX10_taken 71 = .ok (.bipush (-12), 2) := by decide +kernel
theorem dX10_taken_73 : decode cX10_taken 73 = .ok (.ireturn, 1) := by decide +kernel
theorem dX10_count_0 : decode cX10_count 0 = .ok (.iload_n 1, 1) := by decide +kernel
theorem dX10_count_1 : decode cX10_count 1 = .ok (.tableswitch 99 0 6 #[43, 51, 59, 67, 75, 83, 91], 43) := by decide +kernel
theorem dX10_count_44 : decode cX10_count 44 = .ok (.aload_n 0, 1) := by decide +kernel
theorem dX10_count_45 : decode cX10_count 45 = .ok (.getfield 10, 3) := by decide +kernel
theorem dX10_count_48 : decode cX10_count 48 = .ok (.invokevirtual 138, 3) := by decide +kernel
theorem dX10_count_51 : decode cX10_count 51 = .ok (.ireturn, 1) := by decide +kernel
theorem dX10_count_52 : decode cX10_count 52 = .ok (.aload_n 0, 1) := by decide +kernel
theorem dX10_count_53 : decode cX10_count 53 = .ok (.getfield 35, 3) := by decide +kernel
theorem dX10_count_56 : decode cX10_count 56 = .ok (.invokevirtual 243, 3) := by decide +kernel
theorem dX10_count_59 : decode cX10_count 59 = .ok (.ireturn, 1) := by decide +kernel
theorem dX10_count_60 : decode cX10_count 60 = .ok (.aload_n 0, 1) := by decide +kernel
theorem dX10_count_61 : decode cX10_count 61 = .ok (.getfield 42, 3) := by decide +kernel
theorem dX10_count_64 : decode cX10_count 64 = .ok (.invokevirtual 227, 3) := by decide +kernel
theorem dX10_count_67 : decode cX10_count 67 = .ok (.ireturn, 1) := by decide +kernel
theorem dX10_count_68 : decode cX10_count 68 = .ok (.aload_n 0, 1) := by decide +kernel
theorem dX10_count_69 : decode cX10_count 69 = .ok (.getfield 26, 3) := by decide +kernel
theorem dX10_count_72 : decode cX10_count 72 = .ok (.invokevirtual 106, 3) := by decide +kernel
theorem dX10_count_75 : decode cX10_count 75 = .ok (.ireturn, 1) := by decide +kernel
theorem dX10_count_76 : decode cX10_count 76 = .ok (.aload_n 0, 1) := by decide +kernel
theorem dX10_count_77 : decode cX10_count 77 = .ok (.getfield 19, 3) := by decide +kernel
theorem dX10_count_80 : decode cX10_count 80 = .ok (.invokevirtual 254, 3) := by decide +kernel
theorem dX10_count_83 : decode cX10_count 83 = .ok (.ireturn, 1) := by decide +kernel
theorem dX10_count_84 : decode cX10_count 84 = .ok (.aload_n 0, 1) := by decide +kernel
theorem dX10_count_85 : decode cX10_count 85 = .ok (.getfield 49, 3) := by decide +kernel
theorem dX10_count_88 : decode cX10_count 88 = .ok (.invokevirtual 317, 3) := by decide +kernel
theorem dX10_count_91 : decode cX10_count 91 = .ok (.ireturn, 1) := by decide +kernel
theorem dX10_count_92 : decode cX10_count 92 = .ok (.aload_n 0, 1) := by decide +kernel
theorem dX10_count_93 : decode cX10_count 93 = .ok (.getfield 49, 3) := by decide +kernel
theorem dX10_count_96 : decode cX10_count 96 = .ok (.invokevirtual 318, 3) := by decide +kernel
theorem dX10_count_99 : decode cX10_count 99 = .ok (.ireturn, 1) := by decide +kernel
theorem dX10_count_100 : decode cX10_count 100 = .ok (.iconst (-1), 1) := by decide +kernel
theorem dX10_count_101 : decode cX10_count 101 = .ok (.ireturn, 1) := by decide +kernel
def fX10_init (x0 : Int) (u0 : zMem) : zRs := if 0 ≤ x0 then (znew 5 u0 (fun v1 u2 => zic v1 (fX5_init v1 u2) (fun _ u3 => zpf 10 0 x0 v1 u3 (fun u4 => znew 2 u4 (fun v5 u6 => zic v5 (fX2_init v5 u6) (fun _ u7 => zpf 10 1 x0 v5 u7 (fun u8 => znew 9 u8 (fun v9 u10 => zic v9 (fX9_init v9 u10) (fun _ u11 => zpf 10 2 x0 v9 u11 (fun u12 => znew 3 u12 (fun v13 u14 => zgf 10 0 x0 u14 (fun v15 => zic v13 (fX3_init v13 v15 u14) (fun _ u16 => zpf 10 3 x0 v13 u16 (fun u17 => znew 1 u17 (fun v18 u19 => zgf 10 0 x0 u19 (fun v20 => zic v18 (fX1_init v18 v20 u19) (fun _ u21 => zpf 10 4 x0 v18 u21 (fun u22 => znew 0 u22 (fun v23 u24 => zic v23 (fX0_init v23 u24) (fun _ u25 => zpf 10 5 x0 v23 u25 (fun u26 => znar 23 6 u26 (fun v27 u28 => zpf 10 6 x0 v27 u28 (fun u29 => zlp (fun _ _ => none) (fun k32 (v30 : Int) (u31 : zMem) => if v30 ≥ 6 then (some (0, u31)) else (zgf 10 6 x0 u31 (fun v33 => znew 8 u31 (fun v34 u35 => zic v34 (fX8_init v34 u35) (fun _ u36 => zasr 23 8 v33 v30 v34 u36 (fun u37 => k32 (zw32 (v30 + 1)) u37)))))) 1000000 0 u29))))))))))))))))))))))) else none
set_option maxRecDepth 100000 in
set_option maxHeartbeats 4000000 in
theorem rX10_init (l : Launch) (w : zW) (x0 : Int) (u0 : zMem) : zSpc l w 3 yX10_init cX10_init 2 none 0 [zR x0] u0 (fX10_init x0 u0) := by
  refine zSpc_of (own := RX10) pnRX10 rfl (Nat.le_of_ble_eq_true rfl) (fun G p e R s m args below meth c C hini => ?_)
  unfold fX10_init
  refine zlocs (lb := [(0, zR x0)]) ⟨rfl, trivial⟩ ?_
  refine z_aload_n C (i := 0) (pc' := 1) dX10_init_0 rfl rfl rfl ?_
  refine z_objinit C (pc' := 4) woRX10_1 woi woc dX10_init_1 rfl (by decide) (Nat.le_of_ble_eq_true rfl) ?_
  refine z_aload_n C (i := 0) (pc' := 5) dX10_init_4 rfl rfl rfl ?_
  refine znew_core C (ci := 5) (pc' := 8) rfl wkRX10_7 wi5 wn5 dX10_init_5 rfl (fun v1 u2 => ?_)
  refine z_dup C (pc' := 9) dX10_init_8 rfl rfl ?_
  refine z_callN C (pc' := 12) lnRX10_9 lc_X5_init rfl dX10_init_9 rfl (by decide) (rX5_init l w v1 u2) rfl (Nat.le_of_ble_eq_true rfl) (fun _ u3 => ?_)
  refine z_putfRi C (pc' := 15) flRX10_10 hini rfl fb10_0 dX10_init_12 rfl (fun u4 => ?_)
  refine z_aload_n C (i := 0) (pc' := 16) dX10_init_15 rfl rfl rfl ?_
  refine znew_core C (ci := 2) (pc' := 19) rfl wkRX10_16 wi2 wn2 dX10_init_16 rfl (fun v5 u6 => ?_)
  refine z_dup C (pc' := 20) dX10_init_19 rfl rfl ?_
  refine z_callN C (pc' := 23) lnRX10_18 lc_X2_init rfl dX10_init_20 rfl (by decide) (rX2_init l w v5 u6) rfl (Nat.le_of_ble_eq_true rfl) (fun _ u7 => ?_)
  refine z_putfRi C (pc' := 26) flRX10_19 hini rfl fb10_1 dX10_init_23 rfl (fun u8 => ?_)
  refine z_aload_n C (i := 0) (pc' := 27) dX10_init_26 rfl rfl rfl ?_
  refine znew_core C (ci := 9) (pc' := 30) rfl wkRX10_23 wi9 wn9 dX10_init_27 rfl (fun v9 u10 => ?_)
  refine z_dup C (pc' := 31) dX10_init_30 rfl rfl ?_
  refine z_callN C (pc' := 34) lnRX10_25 lc_X9_init rfl dX10_init_31 rfl (by decide) (rX9_init l w v9 u10) rfl (Nat.le_of_ble_eq_true rfl) (fun _ u11 => ?_)
  refine z_putfRi C (pc' := 37) flRX10_26 hini rfl fb10_2 dX10_init_34 rfl (fun u12 => ?_)
  refine z_aload_n C (i := 0) (pc' := 38) dX10_init_37 rfl rfl rfl ?_
  refine znew_core C (ci := 3) (pc' := 41) rfl wkRX10_30 wi3 wn3 dX10_init_38 rfl (fun v13 u14 => ?_)
  refine z_dup C (pc' := 42) dX10_init_41 rfl rfl ?_
  refine z_aload_n C (i := 0) (pc' := 43) dX10_init_42 rfl rfl rfl ?_
  refine z_getfR C (pc' := 46) flRX10_10 dX10_init_43 rfl (fun v15 => ?_)
  refine z_callI C (pc' := 49) liRX10_32 lc_X3_init rfl dX10_init_46 rfl (by decide) (rX3_init l w v13 v15 u14) rfl (Nat.le_of_ble_eq_true rfl) (fun _ u16 => ?_)
  refine z_putfRi C (pc' := 52) flRX10_35 hini rfl fb10_3 dX10_init_49 rfl (fun u17 => ?_)
  refine z_aload_n C (i := 0) (pc' := 53) dX10_init_52 rfl rfl rfl ?_
  refine znew_core C (ci := 1) (pc' := 56) rfl wkRX10_39 wi1 wn1 dX10_init_53 rfl (fun v18 u19 => ?_)
  refine z_dup C (pc' := 57) dX10_init_56 rfl rfl ?_
  refine z_aload_n C (i := 0) (pc' := 58) dX10_init_57 rfl rfl rfl ?_
  refine z_getfR C (pc' := 61) flRX10_10 dX10_init_58 rfl (fun v20 => ?_)
  refine z_callI C (pc' := 64) liRX10_41 lc_X1_init rfl dX10_init_61 rfl (by decide) (rX1_init l w v18 v20 u19) rfl (Nat.le_of_ble_eq_true rfl) (fun _ u21 => ?_)
  refine z_putfRi C (pc' := 67) flRX10_42 hini rfl fb10_4 dX10_init_64 rfl (fun u22 => ?_)
  refine z_aload_n C (i := 0) (pc' := 68) dX10_init_67 rfl rfl rfl ?_
  refine znew_core C (ci := 0) (pc' := 71) rfl wkRX10_46 wi0 wn0 dX10_init_68 rfl (fun v23 u24 => ?_)
  refine z_dup C (pc' := 72) dX10_init_71 rfl rfl ?_
  refine z_callN C (pc' := 75) lnRX10_48 lc_X0_init rfl dX10_init_72 rfl (by decide) (rX0_init l w v23 u24) rfl (Nat.le_of_ble_eq_true rfl) (fun _ u25 => ?_)
  refine z_putfRi C (pc' := 78) flRX10_49 hini rfl fb10_5 dX10_init_75 rfl (fun u26 => ?_)
  refine z_aload_n C (i := 0) (pc' := 79) dX10_init_78 rfl rfl rfl ?_
  refine z_bipush C (pc' := 81) dX10_init_79 kb_6 rfl ?_
  refine z_anewarr C (kd := 23) (C' := RX8) (pc' := 84) (by decide) rfl wkRX10_53 (by decide +kernel) dX10_init_81 rfl (fun v27 u28 => ?_)
  refine z_putfRi C (pc' := 87) flRX10_55 hini rfl fb10_6 dX10_init_84 rfl (fun u29 => ?_)
  refine z_iconst C (pc' := 88) dX10_init_87 kc_0 rfl ?_
  refine z_istore_n C (i := 1) (la' := [(1, zI 0), (0, zR x0)]) (pc' := 89) dX10_init_88 rfl (by decide) rfl rfl ?_
  refine zlocs (lb := [(0, zR x0), (1, zI 0)]) ⟨rfl, rfl, trivial⟩ ?_
  refine zlp_ind (fun (f : Int → zMem → zRs) => ∀ (v30 : Int) (u31 : zMem), zSim G p l e R s m args below meth c w 2 (znc u0) (zM w 0 (znc u0) below args s) 89 [(0, zR x0), (1, zI v30)] [] u31 (f v30 u31)) (fun _ _ => znone) (fun k32 hk32 v30 u31 => ?_) _ _ _
  refine z_iload_n C (i := 1) (pc' := 90) dX10_init_89 rfl rfl rfl ?_
  refine z_bipush C (pc' := 92) dX10_init_90 kb_6 rfl ?_
  refine z_icmp_ge C (pc' := 114) (pf := 95) dX10_init_92 rfl rfl (fun _ => ?_) (fun _ => ?_)
  ·
    exact z_return C dX10_init_114
  ·
    refine z_aload_n C (i := 0) (pc' := 96) dX10_init_95 rfl rfl rfl ?_
    refine z_getfR C (pc' := 99) flRX10_55 dX10_init_96 rfl (fun v33 => ?_)
    refine z_iload_n C (i := 1) (pc' := 100) dX10_init_99 rfl rfl rfl ?_
    refine znew_core C (ci := 8) (pc' := 103) rfl wkRX10_53 wi8 wn8 dX10_init_100 rfl (fun v34 u35 => ?_)
    refine z_dup C (pc' := 104) dX10_init_103 rfl rfl ?_
    refine z_callN C (pc' := 107) lnRX10_59 lc_X8_init rfl dX10_init_104 rfl (by decide) (rX8_init l w v34 u35) rfl (Nat.le_of_ble_eq_true rfl) (fun _ u36 => ?_)
    refine z_aast C (ci := 8) (pc' := 108) (by decide) rfl rfl dX10_init_107 rfl (fun u37 => ?_)
    refine z_iinc C (i := 1) (la' := [(1, zI (zw32 (v30 + 1))), (0, zR x0)]) (pc' := 111) dX10_init_108 rfl (by decide) rfl rfl ?_
    refine z_goto C (pc' := 89) dX10_init_111 rfl ?_
    exact zlocs (lb := [(0, zR x0), (1, zI (zw32 (v30 + 1)))]) ⟨rfl, rfl, trivial⟩ (hk32 _ _)
def fX10_saying (x0 x1 x2 : Int) (u0 : zMem) : zRs := if x1 < 0 then (some ((-1), u0)) else (if x2 ≥ 0 then (zgf 10 0 x0 u0 (fun v1 => znz 10 (znz 10 (znz 100 (znz 100 (zvc 5 v1 (fX5_append v1 (zw32 (Int.tdiv x1 10)) (Int.tmod x1 10) (zw32 (Int.tdiv x2 100)) (Int.tmod x2 100) u0) (fun v2 u3 => some (v2, u3)))))))) else (some ((-1), u0)))
set_option maxRecDepth 100000 in
set_option maxHeartbeats 4000000 in
theorem rX10_saying (l : Launch) (w : zW) (x0 x1 x2 : Int) (u0 : zMem) : zSpc l w 3 yX10_saying cX10_saying 3 (some .int) 1 [zR x0, zI x1, zI x2] u0 (fX10_saying x0 x1 x2 u0) := by
  refine zSpc_of (own := RX10) pnRX10 rfl (Nat.le_of_ble_eq_true rfl) (fun G p e R s m args below meth c C hini => ?_)
  unfold fX10_saying
  refine zlocs (lb := [(0, zR x0), (1, zI x1), (2, zI x2)]) ⟨rfl, rfl, rfl, trivial⟩ ?_
  refine z_iload_n C (i := 1) (pc' := 1) dX10_saying_0 rfl rfl rfl ?_
  refine z_if_lt C (pc' := 8) (pf := 4) dX10_saying_1 rfl rfl (fun _ => ?_) (fun _ => ?_)
  ·
    refine z_iconst C (pc' := 9) dX10_saying_8 kc_m1 rfl ?_
    exact z_ireturn C dX10_saying_9
  ·
    refine z_iload_n C (i := 2) (pc' := 5) dX10_saying_4 rfl rfl rfl ?_
    refine z_if_ge C (pc' := 10) (pf := 8) dX10_saying_5 rfl rfl (fun _ => ?_) (fun _ => ?_)
    ·
      refine z_aload_n C (i := 0) (pc' := 11) dX10_saying_10 rfl rfl rfl ?_
      refine z_getfR C (pc' := 14) flRX10_10 dX10_saying_11 rfl (fun v1 => ?_)
      refine z_iload_n C (i := 1) (pc' := 15) dX10_saying_14 rfl rfl rfl ?_
      refine z_bipush C (pc' := 17) dX10_saying_15 kb_10 rfl ?_
      refine z_idiv C (pc' := 18) dX10_saying_17 rfl (fun _ => ?_)
      refine z_iload_n C (i := 1) (pc' := 19) dX10_saying_18 rfl rfl rfl ?_
      refine z_bipush C (pc' := 21) dX10_saying_19 kb_10 rfl ?_
      refine z_irem C (pc' := 22) dX10_saying_21 rfl (fun _ => ?_)
      refine z_iload_n C (i := 2) (pc' := 23) dX10_saying_22 rfl rfl rfl ?_
      refine z_bipush C (pc' := 25) dX10_saying_23 kb_100 rfl ?_
      refine z_idiv C (pc' := 26) dX10_saying_25 rfl (fun _ => ?_)
      refine z_iload_n C (i := 2) (pc' := 27) dX10_saying_26 rfl rfl rfl ?_
      refine z_bipush C (pc' := 29) dX10_saying_27 kb_100 rfl ?_
      refine z_irem C (pc' := 30) dX10_saying_29 rfl (fun _ => ?_)
      refine z_callV1 C (pc' := 33) lvRX10_60 lc_X5_append rfl dX10_saying_30 rfl (by decide) (rX5_append l w v1 (zw32 (Int.tdiv x1 10)) (Int.tmod x1 10) (zw32 (Int.tdiv x2 100)) (Int.tmod x2 100) u0) rfl (Nat.le_of_ble_eq_true rfl) (fun v2 u3 => ?_)
      exact z_ireturn C dX10_saying_33
    ·
      refine z_iconst C (pc' := 9) dX10_saying_8 kc_m1 rfl ?_
      exact z_ireturn C dX10_saying_9
def fX10_isShelf (x0 : Int) (u0 : zMem) : zRs := zjn (fun (u1 : zMem) => zbl 0 (some (0, u1))) (fun k2 => if x0 < 0 then (k2 u0) else (if x0 ≥ 6 then (k2 u0) else (zbl 1 (some (1, u0)))))
set_option maxRecDepth 100000 in
set_option maxHeartbeats 4000000 in
theorem rX10_isShelf (l : Launch) (w : zW) (x0 : Int) (u0 : zMem) : zSpc l w 1 yX10_isShelf cX10_isShelf 1 (some .boolean) 1 [zI x0] u0 (fX10_isShelf x0 u0) := by
  refine zSpc_of (own := RX10) pnRX10 rfl (Nat.le_of_ble_eq_true rfl) (fun G p e R s m args below meth c C hini => ?_)
  unfold fX10_isShelf
  refine zlocs (lb := [(0, zI x0)]) ⟨rfl, trivial⟩ ?_
  refine z_iload_n C (i := 0) (pc' := 1) dX10_isShelf_0 rfl rfl rfl ?_
  refine zjoin (P := fun (f : zMem → zRs) => ∀ (u1 : zMem), zSim G p l e R s m args below meth c w 1 (znc u0) (zM w 1 (znc u0) below args s) 14 [] [] u1 (f u1)) (fun u1 => ?_) (fun k2 hk2 => ?_)
  ·
    refine z_iconst C (pc' := 15) dX10_isShelf_14 kc_0 rfl ?_
    exact z_zreturn C dX10_isShelf_15
  ·
    refine z_if_lt C (pc' := 14) (pf := 4) dX10_isShelf_1 rfl rfl (fun _ => ?_) (fun _ => ?_)
    ·
      exact zlocs (lb := []) trivial (hk2 _)
    ·
      refine z_iload_n C (i := 0) (pc' := 5) dX10_isShelf_4 rfl rfl rfl ?_
      refine z_bipush C (pc' := 7) dX10_isShelf_5 kb_6 rfl ?_
      refine z_icmp_ge C (pc' := 14) (pf := 10) dX10_isShelf_7 rfl rfl (fun _ => ?_) (fun _ => ?_)
      ·
        exact zlocs (lb := []) trivial (hk2 _)
      ·
        refine z_iconst C (pc' := 11) dX10_isShelf_10 kc_1 rfl ?_
        refine z_goto C (pc' := 15) dX10_isShelf_11 rfl ?_
        exact z_zreturn C dX10_isShelf_15
def fX10_comesFrom (x0 x1 x2 : Int) (u0 : zMem) : zRs := if (zcmp x2 0) < 0 then (zbl 0 (some (0, u0))) else (zvc 8 x1 (fX8_length x1 u0) (fun v1 u2 => if (zcmp (zw64 (x2 + 4)) v1) ≤ 0 then (zgf 10 0 x0 u2 (fun v3 => zvc 8 x1 (fX8_at x1 (zw32 x2) u2) (fun v4 u5 => zvc 8 x1 (fX8_at x1 (zw32 ((zw32 x2) + 1)) u5) (fun v6 u7 => zvc 8 x1 (fX8_at x1 (zw32 ((zw32 x2) + 2)) u7) (fun v8 u9 => zvc 8 x1 (fX8_at x1 (zw32 ((zw32 x2) + 3)) u9) (fun v10 u11 => zvc 5 v3 (fX5_append v3 (zw32 v4) (zw32 v6) (zw32 v8) (zw32 v10) u11) (fun v12 u13 => if v12 < 0 then (zbl 0 (some (0, u13))) else (zbl 1 (some (1, u13)))))))))) else (zbl 0 (some (0, u2)))))
set_option maxRecDepth 100000 in
set_option maxHeartbeats 4000000 in
theorem rX10_comesFrom (l : Launch) (w : zW) (x0 x1 x2 : Int) (u0 : zMem) : zSpc l w 3 yX10_comesFrom cX10_comesFrom 6 (some .boolean) 1 [zR x0, zR x1, zL x2] u0 (fX10_comesFrom x0 x1 x2 u0) := by
  refine zSpc_of (own := RX10) pnRX10 rfl (Nat.le_of_ble_eq_true rfl) (fun G p e R s m args below meth c C hini => ?_)
  unfold fX10_comesFrom
  refine zlocs (lb := [(0, zR x0), (1, zR x1), (2, zL x2)]) ⟨rfl, rfl, rfl, trivial⟩ ?_
  refine z_lload_n C (i := 2) (pc' := 1) dX10_comesFrom_0 rfl rfl rfl ?_
  refine z_lconst C (pc' := 2) dX10_comesFrom_1 kl_0 rfl ?_
  refine z_lcmp C (pc' := 3) dX10_comesFrom_2 rfl ?_
  refine z_if_lt C (pc' := 20) (pf := 6) dX10_comesFrom_3 rfl rfl (fun _ => ?_) (fun _ => ?_)
  ·
    refine z_iconst C (pc' := 21) dX10_comesFrom_20 kc_0 rfl ?_
    exact z_zreturn C dX10_comesFrom_21
  ·
    refine z_lload_n C (i := 2) (pc' := 7) dX10_comesFrom_6 rfl rfl rfl ?_
    refine z_ldc2 C (pc' := 10) dX10_comesFrom_7 wlRX10_75 kj_4 rfl ?_
    refine z_ladd C (pc' := 11) dX10_comesFrom_10 rfl ?_
    refine z_aload_n C (i := 1) (pc' := 12) dX10_comesFrom_11 rfl rfl rfl ?_
    refine z_callV1 C (pc' := 15) lvRX10_321 lc_X8_length rfl dX10_comesFrom_12 rfl (by decide) (rX8_length l w x1 u0) rfl (Nat.le_of_ble_eq_true rfl) (fun v1 u2 => ?_)
    refine z_i2l C (pc' := 16) dX10_comesFrom_15 rfl ?_
    refine z_lcmp C (pc' := 17) dX10_comesFrom_16 rfl ?_
    refine z_if_le C (pc' := 22) (pf := 20) dX10_comesFrom_17 rfl rfl (fun _ => ?_) (fun _ => ?_)
    ·
      refine z_lload_n C (i := 2) (pc' := 23) dX10_comesFrom_22 rfl rfl rfl ?_
      refine z_l2i C (pc' := 24) dX10_comesFrom_23 rfl ?_
      refine z_istore C (i := 4) (la' := [(4, zI (zw32 x2)), (0, zR x0), (1, zR x1), (2, zL x2)]) (pc' := 26) dX10_comesFrom_24 (by decide) rfl rfl ?_
      refine z_aload_n C (i := 0) (pc' := 27) dX10_comesFrom_26 rfl rfl rfl ?_
      refine z_getfR C (pc' := 30) flRX10_10 dX10_comesFrom_27 rfl (fun v3 => ?_)
      refine z_aload_n C (i := 1) (pc' := 31) dX10_comesFrom_30 rfl rfl rfl ?_
      refine z_iload C (pc' := 33) dX10_comesFrom_31 rfl rfl ?_
      refine z_callV2 C (pc' := 36) lvRX10_292 lc_X8_at rfl dX10_comesFrom_33 rfl (by decide) (rX8_at l w x1 (zw32 x2) u2) rfl (Nat.le_of_ble_eq_true rfl) (fun v4 u5 => ?_)
      refine z_l2i C (pc' := 37) dX10_comesFrom_36 rfl ?_
      refine z_aload_n C (i := 1) (pc' := 38) dX10_comesFrom_37 rfl rfl rfl ?_
      refine z_iload C (pc' := 40) dX10_comesFrom_38 rfl rfl ?_
      refine z_iconst C (pc' := 41) dX10_comesFrom_40 kc_1 rfl ?_
      refine z_iadd C (pc' := 42) dX10_comesFrom_41 rfl ?_
      refine z_callV2 C (pc' := 45) lvRX10_292 lc_X8_at rfl dX10_comesFrom_42 rfl (by decide) (rX8_at l w x1 (zw32 ((zw32 x2) + 1)) u5) rfl (Nat.le_of_ble_eq_true rfl) (fun v6 u7 => ?_)
      refine z_l2i C (pc' := 46) dX10_comesFrom_45 rfl ?_
      refine z_aload_n C (i := 1) (pc' := 47) dX10_comesFrom_46 rfl rfl rfl ?_
      refine z_iload C (pc' := 49) dX10_comesFrom_47 rfl rfl ?_
      refine z_iconst C (pc' := 50) dX10_comesFrom_49 kc_2 rfl ?_
      refine z_iadd C (pc' := 51) dX10_comesFrom_50 rfl ?_
      refine z_callV2 C (pc' := 54) lvRX10_292 lc_X8_at rfl dX10_comesFrom_51 rfl (by decide) (rX8_at l w x1 (zw32 ((zw32 x2) + 2)) u7) rfl (Nat.le_of_ble_eq_true rfl) (fun v8 u9 => ?_)
      refine z_l2i C (pc' := 55) dX10_comesFrom_54 rfl ?_
      refine z_aload_n C (i := 1) (pc' := 56) dX10_comesFrom_55 rfl rfl rfl ?_
      refine z_iload C (pc' := 58) dX10_comesFrom_56 rfl rfl ?_
      refine z_iconst C (pc' := 59) dX10_comesFrom_58 kc_3 rfl ?_
      refine z_iadd C (pc' := 60) dX10_comesFrom_59 rfl ?_
      refine z_callV2 C (pc' := 63) lvRX10_292 lc_X8_at rfl dX10_comesFrom_60 rfl (by decide) (rX8_at l w x1 (zw32 ((zw32 x2) + 3)) u9) rfl (Nat.le_of_ble_eq_true rfl) (fun v10 u11 => ?_)
      refine z_l2i C (pc' := 64) dX10_comesFrom_63 rfl ?_
      refine z_callV1 C (pc' := 67) lvRX10_60 lc_X5_append rfl dX10_comesFrom_64 rfl (by decide) (rX5_append l w v3 (zw32 v4) (zw32 v6) (zw32 v8) (zw32 v10) u11) rfl (Nat.le_of_ble_eq_true rfl) (fun v12 u13 => ?_)
      refine z_istore C (i := 5) (la' := [(5, zI v12), (4, zI (zw32 x2)), (0, zR x0), (1, zR x1), (2, zL x2)]) (pc' := 69) dX10_comesFrom_67 (by decide) rfl rfl ?_
      refine z_iload C (pc' := 71) dX10_comesFrom_69 rfl rfl ?_
      refine z_if_lt C (pc' := 78) (pf := 74) dX10_comesFrom_71 rfl rfl (fun _ => ?_) (fun _ => ?_)
      ·
        refine z_iconst C (pc' := 79) dX10_comesFrom_78 kc_0 rfl ?_
        exact z_zreturn C dX10_comesFrom_79
      ·
        refine z_iconst C (pc' := 75) dX10_comesFrom_74 kc_1 rfl ?_
        refine z_goto C (pc' := 79) dX10_comesFrom_75 rfl ?_
        exact z_zreturn C dX10_comesFrom_79
    ·
      refine z_iconst C (pc' := 21) dX10_comesFrom_20 kc_0 rfl ?_
      exact z_zreturn C dX10_comesFrom_21
def fX10_sayings (x0 x1 x2 x3 : Int) (u0 : zMem) : zRs := zcall (fX10_isShelf x1 u0) (fun v1 u2 => if v1 = 0 then (some ((-1), u2)) else (if x3 < 1 then (some ((-1), u2)) else (if x3 ≤ 15 then (zgf 10 6 x0 u2 (fun v3 => zald 23 v3 x1 u2 (fun v4 => zvc 8 v4 (fX8_isBare v4 u2) (fun v5 u6 => if v5 = 0 then (zvc 8 v4 (fX8_holdsBytes v4 u6) (fun v7 u8 => if v7 ≠ 0 then (zlp (fun _ _ => none) (fun k11 (v9 : Int) (u10 : zMem) => if v9 ≥ x3 then (some (x3, u10)) else (zvc 10 x0 (fX10_comesFrom x0 v4 (zw64 (x2 + (zw64 (4 * v9)))) u10) (fun v12 u13 => if v12 ≠ 0 then (k11 (zw32 (v9 + 1)) u13) else (some (v9, u13))))) 1000000 0 u8) else (some ((-12), u8)))) else (some (0, u6)))))) else (some ((-1), u2)))))
set_option maxRecDepth 100000 in
set_option maxHeartbeats 4000000 in
theorem rX10_sayings (l : Launch) (w : zW) (x0 x1 x2 x3 : Int) (u0 : zMem) : zSpc l w 4 yX10_sayings cX10_sayings 6 (some .int) 1 [zR x0, zI x1, zI x2, zI x3] u0 (fX10_sayings x0 x1 x2 x3 u0) := by
  refine zSpc_of (own := RX10) pnRX10 rfl (Nat.le_of_ble_eq_true rfl) (fun G p e R s m args below meth c C hini => ?_)
  unfold fX10_sayings
  refine zlocs (lb := [(0, zR x0), (1, zI x1), (2, zI x2), (3, zI x3)]) ⟨rfl, rfl, rfl, rfl, trivial⟩ ?_
  refine z_iload_n C (i := 1) (pc' := 1) dX10_sayings_0 rfl rfl rfl ?_
  refine z_callS1 C (pc' := 4) lsRX10_64 lc_X10_isShelf rfl dX10_sayings_1 rfl (by decide) (rX10_isShelf l w x1 u0) rfl (Nat.le_of_ble_eq_true rfl) (fun v1 u2 => ?_)
  refine z_if_eq C (pc' := 18) (pf := 7) dX10_sayings_4 rfl rfl (fun _ => ?_) (fun _ => ?_)
  ·
    refine z_iconst C (pc' := 19) dX10_sayings_18 kc_m1 rfl ?_
    exact z_ireturn C dX10_sayings_19
  ·
    refine z_iload_n C (i := 3) (pc' := 8) dX10_sayings_7 rfl rfl rfl ?_
    refine z_iconst C (pc' := 9) dX10_sayings_8 kc_1 rfl ?_
    refine z_icmp_lt C (pc' := 18) (pf := 12) dX10_sayings_9 rfl rfl (fun _ => ?_) (fun _ => ?_)
    ·
      refine z_iconst C (pc' := 19) dX10_sayings_18 kc_m1 rfl ?_
      exact z_ireturn C dX10_sayings_19
    ·
      refine z_iload_n C (i := 3) (pc' := 13) dX10_sayings_12 rfl rfl rfl ?_
      refine z_bipush C (pc' := 15) dX10_sayings_13 kb_15 rfl ?_
      refine z_icmp_le C (pc' := 20) (pf := 18) dX10_sayings_15 rfl rfl (fun _ => ?_) (fun _ => ?_)
      ·
        refine z_aload_n C (i := 0) (pc' := 21) dX10_sayings_20 rfl rfl rfl ?_
        refine z_getfR C (pc' := 24) flRX10_55 dX10_sayings_21 rfl (fun v3 => ?_)
        refine z_iload_n C (i := 1) (pc' := 25) dX10_sayings_24 rfl rfl rfl ?_
        refine z_aald C (pc' := 26) (by decide) dX10_sayings_25 rfl (fun v4 => ?_)
        refine z_astore C (i := 4) (la' := [(4, zR v4), (0, zR x0), (1, zI x1), (2, zI x2), (3, zI x3)]) (pc' := 28) dX10_sayings_26 (by decide) rfl rfl ?_
        refine z_aload C (pc' := 30) dX10_sayings_28 rfl rfl ?_
        refine z_callV1 C (pc' := 33) lvRX10_68 lc_X8_isBare rfl dX10_sayings_30 rfl (by decide) (rX8_isBare l w v4 u2) rfl (Nat.le_of_ble_eq_true rfl) (fun v5 u6 => ?_)
        refine z_if_eq C (pc' := 38) (pf := 36) dX10_sayings_33 rfl rfl (fun _ => ?_) (fun _ => ?_)
        ·
          refine z_aload C (pc' := 40) dX10_sayings_38 rfl rfl ?_
          refine z_callV1 C (pc' := 43) lvRX10_72 lc_X8_holdsBytes rfl dX10_sayings_40 rfl (by decide) (rX8_holdsBytes l w v4 u6) rfl (Nat.le_of_ble_eq_true rfl) (fun v7 u8 => ?_)
          refine z_if_ne C (pc' := 49) (pf := 46) dX10_sayings_43 rfl rfl (fun _ => ?_) (fun _ => ?_)
          ·
            refine z_iconst C (pc' := 50) dX10_sayings_49 kc_0 rfl ?_
            refine z_istore C (i := 5) (la' := [(5, zI 0), (4, zR v4), (0, zR x0), (1, zI x1), (2, zI x2), (3, zI x3)]) (pc' := 52) dX10_sayings_50 (by decide) rfl rfl ?_
            refine zlocs (lb := [(0, zR x0), (2, zI x2), (3, zI x3), (4, zR v4), (5, zI 0)]) ⟨rfl, rfl, rfl, rfl, rfl, trivial⟩ ?_
            refine zlp_ind (fun (f : Int → zMem → zRs) => ∀ (v9 : Int) (u10 : zMem), zSim G p l e R s m args below meth c w 6 (znc u0) (zM w 1 (znc u0) below args s) 52 [(0, zR x0), (2, zI x2), (3, zI x3), (4, zR v4), (5, zI v9)] [] u10 (f v9 u10)) (fun _ _ => znone) (fun k11 hk11 v9 u10 => ?_) _ _ _
            refine z_iload C (pc' := 54) dX10_sayings_52 rfl rfl ?_
            refine z_iload_n C (i := 3) (pc' := 55) dX10_sayings_54 rfl rfl rfl ?_
            refine z_icmp_ge C (pc' := 86) (pf := 58) dX10_sayings_55 rfl rfl (fun _ => ?_) (fun _ => ?_)
            ·
              refine z_iload_n C (i := 3) (pc' := 87) dX10_sayings_86 rfl rfl rfl ?_
              exact z_ireturn C dX10_sayings_87
            ·
              refine z_aload_n C (i := 0) (pc' := 59) dX10_sayings_58 rfl rfl rfl ?_
              refine z_aload C (pc' := 61) dX10_sayings_59 rfl rfl ?_
              refine z_iload_n C (i := 2) (pc' := 62) dX10_sayings_61 rfl rfl rfl ?_
              refine z_i2l C (pc' := 63) dX10_sayings_62 rfl ?_
              refine z_ldc2 C (pc' := 66) dX10_sayings_63 wlRX10_75 kj_4 rfl ?_
              refine z_iload C (pc' := 68) dX10_sayings_66 rfl rfl ?_
              refine z_i2l C (pc' := 69) dX10_sayings_68 rfl ?_
              refine z_lmul C (pc' := 70) dX10_sayings_69 rfl ?_
              refine z_ladd C (pc' := 71) dX10_sayings_70 rfl ?_
              refine z_callV1 C (pc' := 74) lvRX10_77 lc_X10_comesFrom rfl dX10_sayings_71 rfl (by decide) (rX10_comesFrom l w x0 v4 (zw64 (x2 + (zw64 (4 * v9)))) u10) rfl (Nat.le_of_ble_eq_true rfl) (fun v12 u13 => ?_)
              refine z_if_ne C (pc' := 80) (pf := 77) dX10_sayings_74 rfl rfl (fun _ => ?_) (fun _ => ?_)
              ·
                refine z_iinc C (i := 5) (la' := [(5, zI (zw32 (v9 + 1))), (0, zR x0), (2, zI x2), (3, zI x3), (4, zR v4)]) (pc' := 83) dX10_sayings_80 rfl (by decide) rfl rfl ?_
                refine z_goto C (pc' := 52) dX10_sayings_83 rfl ?_
                exact zlocs (lb := [(0, zR x0), (2, zI x2), (3, zI x3), (4, zR v4), (5, zI (zw32 (v9 + 1)))]) ⟨rfl, rfl, rfl, rfl, rfl, trivial⟩ (hk11 _ _)
              ·
                refine z_iload C (pc' := 79) dX10_sayings_77 rfl rfl ?_
                exact z_ireturn C dX10_sayings_79
          ·
            refine z_bipush C (pc' := 48) dX10_sayings_46 kb_m12 rfl ?_
            exact z_ireturn C dX10_sayings_48
        ·
          refine z_iconst C (pc' := 37) dX10_sayings_36 kc_0 rfl ?_
          exact z_ireturn C dX10_sayings_37
      ·
        refine z_iconst C (pc' := 19) dX10_sayings_18 kc_m1 rfl ?_
        exact z_ireturn C dX10_sayings_19
def fX10_mend (x0 x1 x2 x3 : Int) (u0 : zMem) : zRs := zgf 10 0 x0 u0 (fun v1 => zvc 5 v1 (fX5_has v1 x1 u0) (fun v2 u3 => if v2 = 0 then (some ((-1), u3)) else (zcall (fX5_fits x2 x3 u3) (fun v4 u5 => if v4 ≠ 0 then (zgf 10 0 x0 u5 (fun v6 => zvc 5 v6 (fX5_part v6 x1 x2 u5) (fun v7 u8 => if v7 = x3 then (some (v7, u8)) else (zgf 10 0 x0 u8 (fun v9 => zvc 5 v9 (fX5_change v9 x1 x2 x3 u8) (fun _ u10 => zgf 10 1 x0 u10 (fun v11 => zvc 2 v11 (fX2_note v11 x1 x2 v7 x3 u10) (fun _ u12 => some (v7, u12))))))))) else (some ((-1), u5))))))
set_option maxRecDepth 100000 in
set_option maxHeartbeats 4000000 in
theorem rX10_mend (l : Launch) (w : zW) (x0 x1 x2 x3 : Int) (u0 : zMem) : zSpc l w 3 yX10_mend cX10_mend 5 (some .int) 1 [zR x0, zI x1, zI x2, zI x3] u0 (fX10_mend x0 x1 x2 x3 u0) := by
  refine zSpc_of (own := RX10) pnRX10 rfl (Nat.le_of_ble_eq_true rfl) (fun G p e R s m args below meth c C hini => ?_)
  unfold fX10_mend
  refine zlocs (lb := [(0, zR x0), (1, zI x1), (2, zI x2), (3, zI x3)]) ⟨rfl, rfl, rfl, rfl, trivial⟩ ?_
  refine z_aload_n C (i := 0) (pc' := 1) dX10_mend_0 rfl rfl rfl ?_
  refine z_getfR C (pc' := 4) flRX10_10 dX10_mend_1 rfl (fun v1 => ?_)
  refine z_iload_n C (i := 1) (pc' := 5) dX10_mend_4 rfl rfl rfl ?_
  refine z_callV1 C (pc' := 8) lvRX10_81 lc_X5_has rfl dX10_mend_5 rfl (by decide) (rX5_has l w v1 x1 u0) rfl (Nat.le_of_ble_eq_true rfl) (fun v2 u3 => ?_)
  refine z_if_eq C (pc' := 19) (pf := 11) dX10_mend_8 rfl rfl (fun _ => ?_) (fun _ => ?_)
  ·
    refine z_iconst C (pc' := 20) dX10_mend_19 kc_m1 rfl ?_
    exact z_ireturn C dX10_mend_20
  ·
    refine z_iload_n C (i := 2) (pc' := 12) dX10_mend_11 rfl rfl rfl ?_
    refine z_iload_n C (i := 3) (pc' := 13) dX10_mend_12 rfl rfl rfl ?_
    refine z_callS1 C (pc' := 16) lsRX10_84 lc_X5_fits rfl dX10_mend_13 rfl (by decide) (rX5_fits l w x2 x3 u3) rfl (Nat.le_of_ble_eq_true rfl) (fun v4 u5 => ?_)
    refine z_if_ne C (pc' := 21) (pf := 19) dX10_mend_16 rfl rfl (fun _ => ?_) (fun _ => ?_)
    ·
      refine z_aload_n C (i := 0) (pc' := 22) dX10_mend_21 rfl rfl rfl ?_
      refine z_getfR C (pc' := 25) flRX10_10 dX10_mend_22 rfl (fun v6 => ?_)
      refine z_iload_n C (i := 1) (pc' := 26) dX10_mend_25 rfl rfl rfl ?_
      refine z_iload_n C (i := 2) (pc' := 27) dX10_mend_26 rfl rfl rfl ?_
      refine z_callV1 C (pc' := 30) lvRX10_88 lc_X5_part rfl dX10_mend_27 rfl (by decide) (rX5_part l w v6 x1 x2 u5) rfl (Nat.le_of_ble_eq_true rfl) (fun v7 u8 => ?_)
      refine z_istore C (i := 4) (la' := [(4, zI v7), (0, zR x0), (1, zI x1), (2, zI x2), (3, zI x3)]) (pc' := 32) dX10_mend_30 (by decide) rfl rfl ?_
      refine z_iload C (pc' := 34) dX10_mend_32 rfl rfl ?_
      refine z_iload_n C (i := 3) (pc' := 35) dX10_mend_34 rfl rfl rfl ?_
      refine z_icmp_eq C (pc' := 60) (pf := 38) dX10_mend_35 rfl rfl (fun _ => ?_) (fun _ => ?_)
      ·
        refine z_iload C (pc' := 62) dX10_mend_60 rfl rfl ?_
        exact z_ireturn C dX10_mend_62
      ·
        refine z_aload_n C (i := 0) (pc' := 39) dX10_mend_38 rfl rfl rfl ?_
        refine z_getfR C (pc' := 42) flRX10_10 dX10_mend_39 rfl (fun v9 => ?_)
        refine z_iload_n C (i := 1) (pc' := 43) dX10_mend_42 rfl rfl rfl ?_
        refine z_iload_n C (i := 2) (pc' := 44) dX10_mend_43 rfl rfl rfl ?_
        refine z_iload_n C (i := 3) (pc' := 45) dX10_mend_44 rfl rfl rfl ?_
        refine z_callV0 C (pc' := 48) lvRX10_92 lc_X5_change rfl dX10_mend_45 rfl (by decide) (rX5_change l w v9 x1 x2 x3 u8) rfl (Nat.le_of_ble_eq_true rfl) (fun _ u10 => ?_)
        refine z_aload_n C (i := 0) (pc' := 49) dX10_mend_48 rfl rfl rfl ?_
        refine z_getfR C (pc' := 52) flRX10_19 dX10_mend_49 rfl (fun v11 => ?_)
        refine z_iload_n C (i := 1) (pc' := 53) dX10_mend_52 rfl rfl rfl ?_
        refine z_iload_n C (i := 2) (pc' := 54) dX10_mend_53 rfl rfl rfl ?_
        refine z_iload C (pc' := 56) dX10_mend_54 rfl rfl ?_
        refine z_iload_n C (i := 3) (pc' := 57) dX10_mend_56 rfl rfl rfl ?_
        refine z_callV0 C (pc' := 60) lvRX10_96 lc_X2_note rfl dX10_mend_57 rfl (by decide) (rX2_note l w v11 x1 x2 v7 x3 u10) rfl (Nat.le_of_ble_eq_true rfl) (fun _ u12 => ?_)
        refine z_iload C (pc' := 62) dX10_mend_60 rfl rfl ?_
        exact z_ireturn C dX10_mend_62
    ·
      refine z_iconst C (pc' := 20) dX10_mend_19 kc_m1 rfl ?_
      exact z_ireturn C dX10_mend_20
def fX10_of (x0 x1 x2 : Int) (u0 : zMem) : zRs := zgf 10 0 x0 u0 (fun v1 => zvc 5 v1 (fX5_has v1 x1 u0) (fun v2 u3 => if v2 = 0 then (some ((-1), u3)) else (if x2 < 0 then (some ((-1), u3)) else (if x2 ≤ 4 then (if x2 ≠ 4 then (zgf 10 0 x0 u3 (fun v4 => zvc 5 v4 (fX5_part v4 x1 x2 u3) (fun v5 u6 => some (v5, u6)))) else (zgf 10 0 x0 u3 (fun v7 => zvc 5 v7 (fX5_minute v7 x1 u3) (fun v8 u9 => some (v8, u9))))) else (some ((-1), u3))))))
set_option maxRecDepth 100000 in
set_option maxHeartbeats 4000000 in
theorem rX10_of (l : Launch) (w : zW) (x0 x1 x2 : Int) (u0 : zMem) : zSpc l w 2 yX10_of cX10_of 3 (some .int) 1 [zR x0, zI x1, zI x2] u0 (fX10_of x0 x1 x2 u0) := by
  refine zSpc_of (own := RX10) pnRX10 rfl (Nat.le_of_ble_eq_true rfl) (fun G p e R s m args below meth c C hini => ?_)
  unfold fX10_of
  refine zlocs (lb := [(0, zR x0), (1, zI x1), (2, zI x2)]) ⟨rfl, rfl, rfl, trivial⟩ ?_
  refine z_aload_n C (i := 0) (pc' := 1) dX10_of_0 rfl rfl rfl ?_
  refine z_getfR C (pc' := 4) flRX10_10 dX10_of_1 rfl (fun v1 => ?_)
  refine z_iload_n C (i := 1) (pc' := 5) dX10_of_4 rfl rfl rfl ?_
  refine z_callV1 C (pc' := 8) lvRX10_81 lc_X5_has rfl dX10_of_5 rfl (by decide) (rX5_has l w v1 x1 u0) rfl (Nat.le_of_ble_eq_true rfl) (fun v2 u3 => ?_)
  refine z_if_eq C (pc' := 20) (pf := 11) dX10_of_8 rfl rfl (fun _ => ?_) (fun _ => ?_)
  ·
    refine z_iconst C (pc' := 21) dX10_of_20 kc_m1 rfl ?_
    exact z_ireturn C dX10_of_21
  ·
    refine z_iload_n C (i := 2) (pc' := 12) dX10_of_11 rfl rfl rfl ?_
    refine z_if_lt C (pc' := 20) (pf := 15) dX10_of_12 rfl rfl (fun _ => ?_) (fun _ => ?_)
    ·
      refine z_iconst C (pc' := 21) dX10_of_20 kc_m1 rfl ?_
      exact z_ireturn C dX10_of_21
    ·
      refine z_iload_n C (i := 2) (pc' := 16) dX10_of_15 rfl rfl rfl ?_
      refine z_iconst C (pc' := 17) dX10_of_16 kc_4 rfl ?_
      refine z_icmp_le C (pc' := 22) (pf := 20) dX10_of_17 rfl rfl (fun _ => ?_) (fun _ => ?_)
      ·
        refine z_iload_n C (i := 2) (pc' := 23) dX10_of_22 rfl rfl rfl ?_
        refine z_iconst C (pc' := 24) dX10_of_23 kc_4 rfl ?_
        refine z_icmp_ne C (pc' := 38) (pf := 27) dX10_of_24 rfl rfl (fun _ => ?_) (fun _ => ?_)
        ·
          refine z_aload_n C (i := 0) (pc' := 39) dX10_of_38 rfl rfl rfl ?_
          refine z_getfR C (pc' := 42) flRX10_10 dX10_of_39 rfl (fun v4 => ?_)
          refine z_iload_n C (i := 1) (pc' := 43) dX10_of_42 rfl rfl rfl ?_
          refine z_iload_n C (i := 2) (pc' := 44) dX10_of_43 rfl rfl rfl ?_
          refine z_callV1 C (pc' := 47) lvRX10_88 lc_X5_part rfl dX10_of_44 rfl (by decide) (rX5_part l w v4 x1 x2 u3) rfl (Nat.le_of_ble_eq_true rfl) (fun v5 u6 => ?_)
          exact z_ireturn C dX10_of_47
        ·
          refine z_aload_n C (i := 0) (pc' := 28) dX10_of_27 rfl rfl rfl ?_
          refine z_getfR C (pc' := 31) flRX10_10 dX10_of_28 rfl (fun v7 => ?_)
          refine z_iload_n C (i := 1) (pc' := 32) dX10_of_31 rfl rfl rfl ?_
          refine z_callV1 C (pc' := 35) lvRX10_100 lc_X5_minute rfl dX10_of_32 rfl (by decide) (rX5_minute l w v7 x1 u3) rfl (Nat.le_of_ble_eq_true rfl) (fun v8 u9 => ?_)
          refine z_goto C (pc' := 47) dX10_of_35 rfl ?_
          exact z_ireturn C dX10_of_47
      ·
        refine z_iconst C (pc' := 21) dX10_of_20 kc_m1 rfl ?_
        exact z_ireturn C dX10_of_21
def fX10_feed (x0 x1 : Int) (u0 : zMem) : zRs := if x1 < 0 then (some ((-1), u0)) else (if x1 ≤ 255 then (zgf 10 2 x0 u0 (fun v1 => zvc 9 v1 (fX9_append v1 x1 u0) (fun v2 u3 => if v2 = 0 then (some ((-3), u3)) else (zgf 10 2 x0 u3 (fun v4 => zvc 9 v4 (fX9_length v4 u3) (fun v5 u6 => some (v5, u6))))))) else (some ((-1), u0)))
set_option maxRecDepth 100000 in
set_option maxHeartbeats 4000000 in
theorem rX10_feed (l : Launch) (w : zW) (x0 x1 : Int) (u0 : zMem) : zSpc l w 2 yX10_feed cX10_feed 2 (some .int) 1 [zR x0, zI x1] u0 (fX10_feed x0 x1 u0) := by
  refine zSpc_of (own := RX10) pnRX10 rfl (Nat.le_of_ble_eq_true rfl) (fun G p e R s m args below meth c C hini => ?_)
  unfold fX10_feed
  refine zlocs (lb := [(0, zR x0), (1, zI x1)]) ⟨rfl, rfl, trivial⟩ ?_
  refine z_iload_n C (i := 1) (pc' := 1) dX10_feed_0 rfl rfl rfl ?_
  refine z_if_lt C (pc' := 11) (pf := 4) dX10_feed_1 rfl rfl (fun _ => ?_) (fun _ => ?_)
  ·
    refine z_iconst C (pc' := 12) dX10_feed_11 kc_m1 rfl ?_
    exact z_ireturn C dX10_feed_12
  ·
    refine z_iload_n C (i := 1) (pc' := 5) dX10_feed_4 rfl rfl rfl ?_
    refine z_sipush C (pc' := 8) dX10_feed_5 ks_255 rfl ?_
    refine z_icmp_le C (pc' := 13) (pf := 11) dX10_feed_8 rfl rfl (fun _ => ?_) (fun _ => ?_)
    ·
      refine z_aload_n C (i := 0) (pc' := 14) dX10_feed_13 rfl rfl rfl ?_
      refine z_getfR C (pc' := 17) flRX10_26 dX10_feed_14 rfl (fun v1 => ?_)
      refine z_iload_n C (i := 1) (pc' := 18) dX10_feed_17 rfl rfl rfl ?_
      refine z_callV1 C (pc' := 21) lvRX10_104 lc_X9_append rfl dX10_feed_18 rfl (by decide) (rX9_append l w v1 x1 u0) rfl (Nat.le_of_ble_eq_true rfl) (fun v2 u3 => ?_)
      refine z_if_eq C (pc' := 34) (pf := 24) dX10_feed_21 rfl rfl (fun _ => ?_) (fun _ => ?_)
      ·
        refine z_bipush C (pc' := 36) dX10_feed_34 kb_m3 rfl ?_
        exact z_ireturn C dX10_feed_36
      ·
        refine z_aload_n C (i := 0) (pc' := 25) dX10_feed_24 rfl rfl rfl ?_
        refine z_getfR C (pc' := 28) flRX10_26 dX10_feed_25 rfl (fun v4 => ?_)
        refine z_callV1 C (pc' := 31) lvRX10_106 lc_X9_length rfl dX10_feed_28 rfl (by decide) (rX9_length l w v4 u3) rfl (Nat.le_of_ble_eq_true rfl) (fun v5 u6 => ?_)
        refine z_goto C (pc' := 36) dX10_feed_31 rfl ?_
        exact z_ireturn C dX10_feed_36
    ·
      refine z_iconst C (pc' := 12) dX10_feed_11 kc_m1 rfl ?_
      exact z_ireturn C dX10_feed_12
def fX10_writer (x0 x1 x2 : Int) (u0 : zMem) : zRs := if x1 < 0 then (some ((-1), u0)) else (if x1 > 10 then (some ((-1), u0)) else (if x2 < 0 then (some ((-1), u0)) else (if x2 ≤ 7 then (zgf 10 3 x0 u0 (fun v1 => zvc 3 v1 (fX3_isFull v1 u0) (fun v2 u3 => if v2 = 0 then (zgf 10 2 x0 u3 (fun v4 => zvc 9 v4 (fX9_parse v4 u3) (fun v5 u6 => zjn (fun (v7 : Int) (u8 : zMem) => zgf 10 2 x0 u8 (fun v10 => zvc 9 v10 (fX9_clear v10 u8) (fun _ u11 => some (v7, u11)))) (fun k9 => if v5 < 0 then (zgf 10 3 x0 u6 (fun v12 => zgf 10 2 x0 u6 (fun v13 => zvc 3 v12 (fX3_admit v12 v13 x1 x2 u6) (fun v14 u15 => k9 v14 u15)))) else (k9 (zw32 ((-100) - v5)) u6))))) else (some ((-3), u3))))) else (some ((-1), u0)))))
set_option maxRecDepth 100000 in
set_option maxHeartbeats 4000000 in
theorem rX10_writer (l : Launch) (w : zW) (x0 x1 x2 : Int) (u0 : zMem) : zSpc l w 207 yX10_writer cX10_writer 5 (some .int) 1 [zR x0, zI x1, zI x2] u0 (fX10_writer x0 x1 x2 u0) := by
  refine zSpc_of (own := RX10) pnRX10 rfl (Nat.le_of_ble_eq_true rfl) (fun G p e R s m args below meth c C hini => ?_)
  unfold fX10_writer
  refine zlocs (lb := [(0, zR x0), (1, zI x1), (2, zI x2)]) ⟨rfl, rfl, rfl, trivial⟩ ?_
  refine z_iload_n C (i := 1) (pc' := 1) dX10_writer_0 rfl rfl rfl ?_
  refine z_if_lt C (pc' := 20) (pf := 4) dX10_writer_1 rfl rfl (fun _ => ?_) (fun _ => ?_)
  ·
    refine z_iconst C (pc' := 21) dX10_writer_20 kc_m1 rfl ?_
    exact z_ireturn C dX10_writer_21
  ·
    refine z_iload_n C (i := 1) (pc' := 5) dX10_writer_4 rfl rfl rfl ?_
    refine z_bipush C (pc' := 7) dX10_writer_5 kb_10 rfl ?_
    refine z_icmp_gt C (pc' := 20) (pf := 10) dX10_writer_7 rfl rfl (fun _ => ?_) (fun _ => ?_)
    ·
      refine z_iconst C (pc' := 21) dX10_writer_20 kc_m1 rfl ?_
      exact z_ireturn C dX10_writer_21
    ·
      refine z_iload_n C (i := 2) (pc' := 11) dX10_writer_10 rfl rfl rfl ?_
      refine z_if_lt C (pc' := 20) (pf := 14) dX10_writer_11 rfl rfl (fun _ => ?_) (fun _ => ?_)
      ·
        refine z_iconst C (pc' := 21) dX10_writer_20 kc_m1 rfl ?_
        exact z_ireturn C dX10_writer_21
      ·
        refine z_iload_n C (i := 2) (pc' := 15) dX10_writer_14 rfl rfl rfl ?_
        refine z_bipush C (pc' := 17) dX10_writer_15 kb_7 rfl ?_
        refine z_icmp_le C (pc' := 22) (pf := 20) dX10_writer_17 rfl rfl (fun _ => ?_) (fun _ => ?_)
        ·
          refine z_aload_n C (i := 0) (pc' := 23) dX10_writer_22 rfl rfl rfl ?_
          refine z_getfR C (pc' := 26) flRX10_35 dX10_writer_23 rfl (fun v1 => ?_)
          refine z_callV1 C (pc' := 29) lvRX10_110 lc_X3_isFull rfl dX10_writer_26 rfl (by decide) (rX3_isFull l w v1 u0) rfl (Nat.le_of_ble_eq_true rfl) (fun v2 u3 => ?_)
          refine z_if_eq C (pc' := 35) (pf := 32) dX10_writer_29 rfl rfl (fun _ => ?_) (fun _ => ?_)
          ·
            refine z_aload_n C (i := 0) (pc' := 36) dX10_writer_35 rfl rfl rfl ?_
            refine z_getfR C (pc' := 39) flRX10_26 dX10_writer_36 rfl (fun v4 => ?_)
            refine z_callV1 C (pc' := 42) lvRX10_113 lc_X9_parse rfl dX10_writer_39 rfl (by decide) (rX9_parse l w v4 u3) rfl (Nat.le_of_ble_eq_true rfl) (fun v5 u6 => ?_)
            refine z_istore_n C (i := 3) (la' := [(3, zI v5), (0, zR x0), (1, zI x1), (2, zI x2)]) (pc' := 43) dX10_writer_42 rfl (by decide) rfl rfl ?_
            refine z_iload_n C (i := 3) (pc' := 44) dX10_writer_43 rfl rfl rfl ?_
            refine zjoin (P := fun (f : Int → zMem → zRs) => ∀ (v7 : Int) (u8 : zMem), zSim G p l e R s m args below meth c w 5 (znc u0) (zM w 1 (znc u0) below args s) 67 [(0, zR x0)] [zI v7] u8 (f v7 u8)) (fun v7 u8 => ?_) (fun k9 hk9 => ?_)
            ·
              refine z_istore C (i := 4) (la' := [(4, zI v7), (0, zR x0)]) (pc' := 69) dX10_writer_67 (by decide) rfl rfl ?_
              refine z_aload_n C (i := 0) (pc' := 70) dX10_writer_69 rfl rfl rfl ?_
              refine z_getfR C (pc' := 73) flRX10_26 dX10_writer_70 rfl (fun v10 => ?_)
              refine z_callV0 C (pc' := 76) lvRX10_120 lc_X9_clear rfl dX10_writer_73 rfl (by decide) (rX9_clear l w v10 u8) rfl (Nat.le_of_ble_eq_true rfl) (fun _ u11 => ?_)
              refine z_iload C (pc' := 78) dX10_writer_76 rfl rfl ?_
              exact z_ireturn C dX10_writer_78
            ·
              refine z_if_lt C (pc' := 54) (pf := 47) dX10_writer_44 rfl rfl (fun _ => ?_) (fun _ => ?_)
              ·
                refine z_aload_n C (i := 0) (pc' := 55) dX10_writer_54 rfl rfl rfl ?_
                refine z_getfR C (pc' := 58) flRX10_35 dX10_writer_55 rfl (fun v12 => ?_)
                refine z_aload_n C (i := 0) (pc' := 59) dX10_writer_58 rfl rfl rfl ?_
                refine z_getfR C (pc' := 62) flRX10_26 dX10_writer_59 rfl (fun v13 => ?_)
                refine z_iload_n C (i := 1) (pc' := 63) dX10_writer_62 rfl rfl rfl ?_
                refine z_iload_n C (i := 2) (pc' := 64) dX10_writer_63 rfl rfl rfl ?_
                refine z_callV1 C (pc' := 67) lvRX10_116 lc_X3_admit rfl dX10_writer_64 rfl (by decide) (rX3_admit l w v12 v13 x1 x2 u6) rfl (Nat.le_of_ble_eq_true rfl) (fun v14 u15 => ?_)
                exact zlocs (lb := [(0, zR x0)]) ⟨rfl, trivial⟩ (hk9 _ _)
              ·
                refine z_bipush C (pc' := 49) dX10_writer_47 kb_m100 rfl ?_
                refine z_iload_n C (i := 3) (pc' := 50) dX10_writer_49 rfl rfl rfl ?_
                refine z_isub C (pc' := 51) dX10_writer_50 rfl ?_
                refine z_goto C (pc' := 67) dX10_writer_51 rfl ?_
                exact zlocs (lb := [(0, zR x0)]) ⟨rfl, trivial⟩ (hk9 _ _)
          ·
            refine z_bipush C (pc' := 34) dX10_writer_32 kb_m3 rfl ?_
            exact z_ireturn C dX10_writer_34
        ·
          refine z_iconst C (pc' := 21) dX10_writer_20 kc_m1 rfl ?_
          exact z_ireturn C dX10_writer_21
def fX10_heed (x0 x1 x2 : Int) (u0 : zMem) : zRs := zgf 10 3 x0 u0 (fun v1 => zvc 3 v1 (fX3_has v1 x1 u0) (fun v2 u3 => if v2 = 0 then (some ((-1), u3)) else (zgf 10 0 x0 u3 (fun v4 => zvc 5 v4 (fX5_has v4 x2 u3) (fun v5 u6 => if v5 ≠ 0 then (zgf 10 3 x0 u6 (fun v7 => zvc 3 v7 (fX3_heedOf v7 x1 x2 u6) (fun v8 u9 => some (v8, u9)))) else (some ((-1), u6)))))))
set_option maxRecDepth 100000 in
set_option maxHeartbeats 4000000 in
theorem rX10_heed (l : Launch) (w : zW) (x0 x1 x2 : Int) (u0 : zMem) : zSpc l w 5 yX10_heed cX10_heed 3 (some .int) 1 [zR x0, zI x1, zI x2] u0 (fX10_heed x0 x1 x2 u0) := by
  refine zSpc_of (own := RX10) pnRX10 rfl (Nat.le_of_ble_eq_true rfl) (fun G p e R s m args below meth c C hini => ?_)
  unfold fX10_heed
  refine zlocs (lb := [(0, zR x0), (1, zI x1), (2, zI x2)]) ⟨rfl, rfl, rfl, trivial⟩ ?_
  refine z_aload_n C (i := 0) (pc' := 1) dX10_heed_0 rfl rfl rfl ?_
  refine z_getfR C (pc' := 4) flRX10_35 dX10_heed_1 rfl (fun v1 => ?_)
  refine z_iload_n C (i := 1) (pc' := 5) dX10_heed_4 rfl rfl rfl ?_
  refine z_callV1 C (pc' := 8) lvRX10_123 lc_X3_has rfl dX10_heed_5 rfl (by decide) (rX3_has l w v1 x1 u0) rfl (Nat.le_of_ble_eq_true rfl) (fun v2 u3 => ?_)
  refine z_if_eq C (pc' := 22) (pf := 11) dX10_heed_8 rfl rfl (fun _ => ?_) (fun _ => ?_)
  ·
    refine z_iconst C (pc' := 23) dX10_heed_22 kc_m1 rfl ?_
    exact z_ireturn C dX10_heed_23
  ·
    refine z_aload_n C (i := 0) (pc' := 12) dX10_heed_11 rfl rfl rfl ?_
    refine z_getfR C (pc' := 15) flRX10_10 dX10_heed_12 rfl (fun v4 => ?_)
    refine z_iload_n C (i := 2) (pc' := 16) dX10_heed_15 rfl rfl rfl ?_
    refine z_callV1 C (pc' := 19) lvRX10_81 lc_X5_has rfl dX10_heed_16 rfl (by decide) (rX5_has l w v4 x2 u3) rfl (Nat.le_of_ble_eq_true rfl) (fun v5 u6 => ?_)
    refine z_if_ne C (pc' := 24) (pf := 22) dX10_heed_19 rfl rfl (fun _ => ?_) (fun _ => ?_)
    ·
      refine z_aload_n C (i := 0) (pc' := 25) dX10_heed_24 rfl rfl rfl ?_
      refine z_getfR C (pc' := 28) flRX10_35 dX10_heed_25 rfl (fun v7 => ?_)
      refine z_iload_n C (i := 1) (pc' := 29) dX10_heed_28 rfl rfl rfl ?_
      refine z_iload_n C (i := 2) (pc' := 30) dX10_heed_29 rfl rfl rfl ?_
      refine z_callV1 C (pc' := 33) lvRX10_124 lc_X3_heedOf rfl dX10_heed_30 rfl (by decide) (rX3_heedOf l w v7 x1 x2 u6) rfl (Nat.le_of_ble_eq_true rfl) (fun v8 u9 => ?_)
      exact z_ireturn C dX10_heed_33
    ·
      refine z_iconst C (pc' := 23) dX10_heed_22 kc_m1 rfl ?_
      exact z_ireturn C dX10_heed_23
def fX10_take (x0 x1 x2 : Int) (u0 : zMem) : zRs := zgf 10 3 x0 u0 (fun v1 => zvc 3 v1 (fX3_has v1 x1 u0) (fun v2 u3 => if v2 ≠ 0 then (zgf 10 4 x0 u3 (fun v4 => zvc 1 v4 (fX1_open v4 x1 u3) (fun v5 u6 => zgf 10 4 x0 u6 (fun v7 => zvc 1 v7 (fX1_paper v7 v5 u6) (fun v8 u9 => if v8 ≠ -1 then (zgf 10 3 x0 u9 (fun v10 => zvc 3 v10 (fX3_takeDown v10 x1 x2 v8 u9) (fun _ u11 => some (v5, u11)))) else (some ((-3), u9))))))) else (some ((-1), u3))))
set_option maxRecDepth 100000 in
set_option maxHeartbeats 4000000 in
theorem rX10_take (l : Launch) (w : zW) (x0 x1 x2 : Int) (u0 : zMem) : zSpc l w 7 yX10_take cX10_take 5 (some .int) 1 [zR x0, zI x1, zI x2] u0 (fX10_take x0 x1 x2 u0) := by
  refine zSpc_of (own := RX10) pnRX10 rfl (Nat.le_of_ble_eq_true rfl) (fun G p e R s m args below meth c C hini => ?_)
  unfold fX10_take
  refine zlocs (lb := [(0, zR x0), (1, zI x1), (2, zI x2)]) ⟨rfl, rfl, rfl, trivial⟩ ?_
  refine z_aload_n C (i := 0) (pc' := 1) dX10_take_0 rfl rfl rfl ?_
  refine z_getfR C (pc' := 4) flRX10_35 dX10_take_1 rfl (fun v1 => ?_)
  refine z_iload_n C (i := 1) (pc' := 5) dX10_take_4 rfl rfl rfl ?_
  refine z_callV1 C (pc' := 8) lvRX10_123 lc_X3_has rfl dX10_take_5 rfl (by decide) (rX3_has l w v1 x1 u0) rfl (Nat.le_of_ble_eq_true rfl) (fun v2 u3 => ?_)
  refine z_if_ne C (pc' := 13) (pf := 11) dX10_take_8 rfl rfl (fun _ => ?_) (fun _ => ?_)
  ·
    refine z_aload_n C (i := 0) (pc' := 14) dX10_take_13 rfl rfl rfl ?_
    refine z_getfR C (pc' := 17) flRX10_42 dX10_take_14 rfl (fun v4 => ?_)
    refine z_iload_n C (i := 1) (pc' := 18) dX10_take_17 rfl rfl rfl ?_
    refine z_callV1 C (pc' := 21) lvRX10_127 lc_X1_open rfl dX10_take_18 rfl (by decide) (rX1_open l w v4 x1 u3) rfl (Nat.le_of_ble_eq_true rfl) (fun v5 u6 => ?_)
    refine z_istore_n C (i := 3) (la' := [(3, zI v5), (0, zR x0), (1, zI x1), (2, zI x2)]) (pc' := 22) dX10_take_21 rfl (by decide) rfl rfl ?_
    refine z_aload_n C (i := 0) (pc' := 23) dX10_take_22 rfl rfl rfl ?_
    refine z_getfR C (pc' := 26) flRX10_42 dX10_take_23 rfl (fun v7 => ?_)
    refine z_iload_n C (i := 3) (pc' := 27) dX10_take_26 rfl rfl rfl ?_
    refine z_callV3 C (pc' := 30) lvRX10_130 lc_X1_paper rfl dX10_take_27 rfl (by decide) (rX1_paper l w v7 v5 u6) rfl (Nat.le_of_ble_eq_true rfl) (fun v8 u9 => ?_)
    refine z_astore C (i := 4) (la' := [(4, zR v8), (3, zI v5), (0, zR x0), (1, zI x1), (2, zI x2)]) (pc' := 32) dX10_take_30 (by decide) rfl rfl ?_
    refine z_aload C (pc' := 34) dX10_take_32 rfl rfl ?_
    refine z_ifnonnull C (pc' := 40) (pf := 37) dX10_take_34 rfl rfl (fun _ => ?_) (fun _ => ?_)
    ·
      refine z_aload_n C (i := 0) (pc' := 41) dX10_take_40 rfl rfl rfl ?_
      refine z_getfR C (pc' := 44) flRX10_35 dX10_take_41 rfl (fun v10 => ?_)
      refine z_iload_n C (i := 1) (pc' := 45) dX10_take_44 rfl rfl rfl ?_
      refine z_iload_n C (i := 2) (pc' := 46) dX10_take_45 rfl rfl rfl ?_
      refine z_aload C (pc' := 48) dX10_take_46 rfl rfl ?_
      refine z_callV0 C (pc' := 51) lvRX10_134 lc_X3_takeDown rfl dX10_take_48 rfl (by decide) (rX3_takeDown l w v10 x1 x2 v8 u9) rfl (Nat.le_of_ble_eq_true rfl) (fun _ u11 => ?_)
      refine z_iload_n C (i := 3) (pc' := 52) dX10_take_51 rfl rfl rfl ?_
      exact z_ireturn C dX10_take_52
    ·
      refine z_bipush C (pc' := 39) dX10_take_37 kb_m3 rfl ?_
      exact z_ireturn C dX10_take_39
  ·
    refine z_iconst C (pc' := 12) dX10_take_11 kc_m1 rfl ?_
    exact z_ireturn C dX10_take_12
def fX10_told (x0 x1 x2 : Int) (u0 : zMem) : zRs := zjn (fun (u1 : zMem) => if x2 < 0 then (some ((-1), u1)) else (zgf 10 0 x0 u1 (fun v3 => zvc 5 v3 (fX5_size v3 u1) (fun v4 u5 => if x2 < (zshl 1 v4) then (zgf 10 4 x0 u5 (fun v6 => zvc 1 v6 (fX1_open v6 x1 u5) (fun v7 u8 => zgf 10 4 x0 u8 (fun v9 => zvc 1 v9 (fX1_paper v9 v7 u8) (fun v10 u11 => if v10 ≠ -1 then (zlp (fun _ _ => none) (fun k14 (v12 : Int) (u13 : zMem) => zgf 10 0 x0 u13 (fun v15 => zvc 5 v15 (fX5_size v15 u13) (fun v16 u17 => if v12 ≥ v16 then (some (v7, u17)) else (zjn (fun (u18 : zMem) => k14 (zw32 (v12 + 1)) u18) (fun k19 => if (zand (zshr x2 v12) 1) = 0 then (k19 u17) else (zgf 10 0 x0 u17 (fun v20 => zvc 5 v20 (fX5_part v20 v12 1 u17) (fun v21 u22 => zgf 10 0 x0 u22 (fun v23 => zvc 5 v23 (fX5_part v23 v12 3 u22) (fun v24 u25 => zvc 6 v10 (fX6_append v10 v12 v21 v24 u25) (fun v26 u27 => k19 u27))))))))))) 1000000 0 u11) else (some ((-3), u11))))))) else (some ((-1), u5)))))) (fun k2 => if x1 = (-1) then (k2 u0) else (zgf 10 3 x0 u0 (fun v28 => zvc 3 v28 (fX3_has v28 x1 u0) (fun v29 u30 => if v29 = 0 then (some ((-1), u30)) else (k2 u30)))))
set_option maxRecDepth 100000 in
set_option maxHeartbeats 4000000 in
theorem rX10_told (l : Launch) (w : zW) (x0 x1 x2 : Int) (u0 : zMem) : zSpc l w 3 yX10_told cX10_told 6 (some .int) 1 [zR x0, zI x1, zI x2] u0 (fX10_told x0 x1 x2 u0) := by
  refine zSpc_of (own := RX10) pnRX10 rfl (Nat.le_of_ble_eq_true rfl) (fun G p e R s m args below meth c C hini => ?_)
  unfold fX10_told
  refine zlocs (lb := [(0, zR x0), (1, zI x1), (2, zI x2)]) ⟨rfl, rfl, rfl, trivial⟩ ?_
  refine z_iload_n C (i := 1) (pc' := 1) dX10_told_0 rfl rfl rfl ?_
  refine z_iconst C (pc' := 2) dX10_told_1 kc_m1 rfl ?_
  refine zjoin (P := fun (f : zMem → zRs) => ∀ (u1 : zMem), zSim G p l e R s m args below meth c w 6 (znc u0) (zM w 1 (znc u0) below args s) 16 [(0, zR x0), (1, zI x1), (2, zI x2)] [] u1 (f u1)) (fun u1 => ?_) (fun k2 hk2 => ?_)
  ·
    refine z_iload_n C (i := 2) (pc' := 17) dX10_told_16 rfl rfl rfl ?_
    refine z_if_lt C (pc' := 33) (pf := 20) dX10_told_17 rfl rfl (fun _ => ?_) (fun _ => ?_)
    ·
      refine z_iconst C (pc' := 34) dX10_told_33 kc_m1 rfl ?_
      exact z_ireturn C dX10_told_34
    ·
      refine z_iload_n C (i := 2) (pc' := 21) dX10_told_20 rfl rfl rfl ?_
      refine z_iconst C (pc' := 22) dX10_told_21 kc_1 rfl ?_
      refine z_aload_n C (i := 0) (pc' := 23) dX10_told_22 rfl rfl rfl ?_
      refine z_getfR C (pc' := 26) flRX10_10 dX10_told_23 rfl (fun v3 => ?_)
      refine z_callV1 C (pc' := 29) lvRX10_138 lc_X5_size rfl dX10_told_26 rfl (by decide) (rX5_size l w v3 u1) rfl (Nat.le_of_ble_eq_true rfl) (fun v4 u5 => ?_)
      refine z_ishl C (pc' := 30) dX10_told_29 rfl ?_
      refine z_icmp_lt C (pc' := 35) (pf := 33) dX10_told_30 rfl rfl (fun _ => ?_) (fun _ => ?_)
      ·
        refine z_aload_n C (i := 0) (pc' := 36) dX10_told_35 rfl rfl rfl ?_
        refine z_getfR C (pc' := 39) flRX10_42 dX10_told_36 rfl (fun v6 => ?_)
        refine z_iload_n C (i := 1) (pc' := 40) dX10_told_39 rfl rfl rfl ?_
        refine z_callV1 C (pc' := 43) lvRX10_127 lc_X1_open rfl dX10_told_40 rfl (by decide) (rX1_open l w v6 x1 u5) rfl (Nat.le_of_ble_eq_true rfl) (fun v7 u8 => ?_)
        refine z_istore_n C (i := 3) (la' := [(3, zI v7), (0, zR x0), (1, zI x1), (2, zI x2)]) (pc' := 44) dX10_told_43 rfl (by decide) rfl rfl ?_
        refine z_aload_n C (i := 0) (pc' := 45) dX10_told_44 rfl rfl rfl ?_
        refine z_getfR C (pc' := 48) flRX10_42 dX10_told_45 rfl (fun v9 => ?_)
        refine z_iload_n C (i := 3) (pc' := 49) dX10_told_48 rfl rfl rfl ?_
        refine z_callV3 C (pc' := 52) lvRX10_130 lc_X1_paper rfl dX10_told_49 rfl (by decide) (rX1_paper l w v9 v7 u8) rfl (Nat.le_of_ble_eq_true rfl) (fun v10 u11 => ?_)
        refine z_astore C (i := 4) (la' := [(4, zR v10), (3, zI v7), (0, zR x0), (1, zI x1), (2, zI x2)]) (pc' := 54) dX10_told_52 (by decide) rfl rfl ?_
        refine z_aload C (pc' := 56) dX10_told_54 rfl rfl ?_
        refine z_ifnonnull C (pc' := 62) (pf := 59) dX10_told_56 rfl rfl (fun _ => ?_) (fun _ => ?_)
        ·
          refine z_iconst C (pc' := 63) dX10_told_62 kc_0 rfl ?_
          refine z_istore C (i := 5) (la' := [(5, zI 0), (4, zR v10), (3, zI v7), (0, zR x0), (1, zI x1), (2, zI x2)]) (pc' := 65) dX10_told_63 (by decide) rfl rfl ?_
          refine zlocs (lb := [(0, zR x0), (2, zI x2), (3, zI v7), (4, zR v10), (5, zI 0)]) ⟨rfl, rfl, rfl, rfl, rfl, trivial⟩ ?_
          refine zlp_ind (fun (f : Int → zMem → zRs) => ∀ (v12 : Int) (u13 : zMem), zSim G p l e R s m args below meth c w 6 (znc u0) (zM w 1 (znc u0) below args s) 65 [(0, zR x0), (2, zI x2), (3, zI v7), (4, zR v10), (5, zI v12)] [] u13 (f v12 u13)) (fun _ _ => znone) (fun k14 hk14 v12 u13 => ?_) _ _ _
          refine z_iload C (pc' := 67) dX10_told_65 rfl rfl ?_
          refine z_aload_n C (i := 0) (pc' := 68) dX10_told_67 rfl rfl rfl ?_
          refine z_getfR C (pc' := 71) flRX10_10 dX10_told_68 rfl (fun v15 => ?_)
          refine z_callV1 C (pc' := 74) lvRX10_138 lc_X5_size rfl dX10_told_71 rfl (by decide) (rX5_size l w v15 u13) rfl (Nat.le_of_ble_eq_true rfl) (fun v16 u17 => ?_)
          refine z_icmp_ge C (pc' := 120) (pf := 77) dX10_told_74 rfl rfl (fun _ => ?_) (fun _ => ?_)
          ·
            refine z_iload_n C (i := 3) (pc' := 121) dX10_told_120 rfl rfl rfl ?_
            exact z_ireturn C dX10_told_121
          ·
            refine z_iload_n C (i := 2) (pc' := 78) dX10_told_77 rfl rfl rfl ?_
            refine z_iload C (pc' := 80) dX10_told_78 rfl rfl ?_
            refine z_ishr C (pc' := 81) dX10_told_80 rfl ?_
            refine z_iconst C (pc' := 82) dX10_told_81 kc_1 rfl ?_
            refine z_iand C (pc' := 83) dX10_told_82 rfl ?_
            refine zjoin (P := fun (f : zMem → zRs) => ∀ (u18 : zMem), zSim G p l e R s m args below meth c w 6 (znc u0) (zM w 1 (znc u0) below args s) 114 [(0, zR x0), (2, zI x2), (3, zI v7), (4, zR v10), (5, zI v12)] [] u18 (f u18)) (fun u18 => ?_) (fun k19 hk19 => ?_)
            ·
              refine z_iinc C (i := 5) (la' := [(5, zI (zw32 (v12 + 1))), (0, zR x0), (2, zI x2), (3, zI v7), (4, zR v10)]) (pc' := 117) dX10_told_114 rfl (by decide) rfl rfl ?_
              refine z_goto C (pc' := 65) dX10_told_117 rfl ?_
              exact zlocs (lb := [(0, zR x0), (2, zI x2), (3, zI v7), (4, zR v10), (5, zI (zw32 (v12 + 1)))]) ⟨rfl, rfl, rfl, rfl, rfl, trivial⟩ (hk14 _ _)
            ·
              refine z_if_eq C (pc' := 114) (pf := 86) dX10_told_83 rfl rfl (fun _ => ?_) (fun _ => ?_)
              ·
                exact zlocs (lb := [(0, zR x0), (2, zI x2), (3, zI v7), (4, zR v10), (5, zI v12)]) ⟨rfl, rfl, rfl, rfl, rfl, trivial⟩ (hk19 _)
              ·
                refine z_aload C (pc' := 88) dX10_told_86 rfl rfl ?_
                refine z_iload C (pc' := 90) dX10_told_88 rfl rfl ?_
                refine z_aload_n C (i := 0) (pc' := 91) dX10_told_90 rfl rfl rfl ?_
                refine z_getfR C (pc' := 94) flRX10_10 dX10_told_91 rfl (fun v20 => ?_)
                refine z_iload C (pc' := 96) dX10_told_94 rfl rfl ?_
                refine z_iconst C (pc' := 97) dX10_told_96 kc_1 rfl ?_
                refine z_callV1 C (pc' := 100) lvRX10_88 lc_X5_part rfl dX10_told_97 rfl (by decide) (rX5_part l w v20 v12 1 u17) rfl (Nat.le_of_ble_eq_true rfl) (fun v21 u22 => ?_)
                refine z_aload_n C (i := 0) (pc' := 101) dX10_told_100 rfl rfl rfl ?_
                refine z_getfR C (pc' := 104) flRX10_10 dX10_told_101 rfl (fun v23 => ?_)
                refine z_iload C (pc' := 106) dX10_told_104 rfl rfl ?_
                refine z_iconst C (pc' := 107) dX10_told_106 kc_3 rfl ?_
                refine z_callV1 C (pc' := 110) lvRX10_88 lc_X5_part rfl dX10_told_107 rfl (by decide) (rX5_part l w v23 v12 3 u22) rfl (Nat.le_of_ble_eq_true rfl) (fun v24 u25 => ?_)
                refine z_callV1 C (pc' := 113) lvRX10_141 lc_X6_append rfl dX10_told_110 rfl (by decide) (rX6_append l w v10 v12 v21 v24 u25) rfl (Nat.le_of_ble_eq_true rfl) (fun v26 u27 => ?_)
                refine z_pop C (pc' := 114) dX10_told_113 rfl rfl ?_
                exact zlocs (lb := [(0, zR x0), (2, zI x2), (3, zI v7), (4, zR v10), (5, zI v12)]) ⟨rfl, rfl, rfl, rfl, rfl, trivial⟩ (hk19 _)
        ·
          refine z_bipush C (pc' := 61) dX10_told_59 kb_m3 rfl ?_
          exact z_ireturn C dX10_told_61
      ·
        refine z_iconst C (pc' := 34) dX10_told_33 kc_m1 rfl ?_
        exact z_ireturn C dX10_told_34
  ·
    refine z_icmp_eq C (pc' := 16) (pf := 5) dX10_told_2 rfl rfl (fun _ => ?_) (fun _ => ?_)
    ·
      exact zlocs (lb := [(0, zR x0), (1, zI x1), (2, zI x2)]) ⟨rfl, rfl, rfl, trivial⟩ (hk2 _)
    ·
      refine z_aload_n C (i := 0) (pc' := 6) dX10_told_5 rfl rfl rfl ?_
      refine z_getfR C (pc' := 9) flRX10_35 dX10_told_6 rfl (fun v28 => ?_)
      refine z_iload_n C (i := 1) (pc' := 10) dX10_told_9 rfl rfl rfl ?_
      refine z_callV1 C (pc' := 13) lvRX10_123 lc_X3_has rfl dX10_told_10 rfl (by decide) (rX3_has l w v28 x1 u0) rfl (Nat.le_of_ble_eq_true rfl) (fun v29 u30 => ?_)
      refine z_if_eq C (pc' := 33) (pf := 16) dX10_told_13 rfl rfl (fun _ => ?_) (fun _ => ?_)
      ·
        refine z_iconst C (pc' := 34) dX10_told_33 kc_m1 rfl ?_
        exact z_ireturn C dX10_told_34
      ·
        exact zlocs (lb := [(0, zR x0), (1, zI x1), (2, zI x2)]) ⟨rfl, rfl, rfl, trivial⟩ (hk2 _)
def fX10_add (x0 x1 x2 x3 : Int) (u0 : zMem) : zRs := zgf 10 4 x0 u0 (fun v1 => zvc 1 v1 (fX1_paper v1 x1 u0) (fun v2 u3 => if v2 = -1 then (some ((-1), u3)) else (zgf 10 0 x0 u3 (fun v4 => zvc 5 v4 (fX5_has v4 x2 u3) (fun v5 u6 => if v5 = 0 then (some ((-1), u6)) else (zvc 6 v2 (fX6_placeOf v2 x2 u6) (fun v7 u8 => if v7 ≥ 0 then (some ((-1), u8)) else (if x3 < 0 then (some ((-1), u8)) else (zvc 6 v2 (fX6_size v2 u8) (fun v9 u10 => if x3 ≤ v9 then (zgf 10 0 x0 u10 (fun v11 => zvc 5 v11 (fX5_part v11 x2 1 u10) (fun v12 u13 => zgf 10 0 x0 u13 (fun v14 => zvc 5 v14 (fX5_part v14 x2 3 u13) (fun v15 u16 => zvc 6 v2 (fX6_append v2 x2 v12 v15 u16) (fun v17 u18 => if v17 ≠ 0 then (zvc 6 v2 (fX6_size v2 u18) (fun v19 u20 => zvc 6 v2 (fX6_markAdded v2 (zw32 (v19 - 1)) u20) (fun _ u21 => zvc 6 v2 (fX6_size v2 u21) (fun v22 u23 => zvc 6 v2 (fX6_move v2 (zw32 (v22 - 1)) x3 u23) (fun _ u24 => zvc 6 v2 (fX6_size v2 u24) (fun v25 u26 => some (v25, u26))))))) else (some ((-3), u18)))))))) else (some ((-1), u10))))))))))))
set_option maxRecDepth 100000 in
set_option maxHeartbeats 4000000 in
theorem rX10_add (l : Launch) (w : zW) (x0 x1 x2 x3 : Int) (u0 : zMem) : zSpc l w 3 yX10_add cX10_add 5 (some .int) 1 [zR x0, zI x1, zI x2, zI x3] u0 (fX10_add x0 x1 x2 x3 u0) := by
  refine zSpc_of (own := RX10) pnRX10 rfl (Nat.le_of_ble_eq_true rfl) (fun G p e R s m args below meth c C hini => ?_)
  unfold fX10_add
  refine zlocs (lb := [(0, zR x0), (1, zI x1), (2, zI x2), (3, zI x3)]) ⟨rfl, rfl, rfl, rfl, trivial⟩ ?_
  refine z_aload_n C (i := 0) (pc' := 1) dX10_add_0 rfl rfl rfl ?_
  refine z_getfR C (pc' := 4) flRX10_42 dX10_add_1 rfl (fun v1 => ?_)
  refine z_iload_n C (i := 1) (pc' := 5) dX10_add_4 rfl rfl rfl ?_
  refine z_callV3 C (pc' := 8) lvRX10_130 lc_X1_paper rfl dX10_add_5 rfl (by decide) (rX1_paper l w v1 x1 u0) rfl (Nat.le_of_ble_eq_true rfl) (fun v2 u3 => ?_)
  refine z_astore C (i := 4) (la' := [(4, zR v2), (0, zR x0), (1, zI x1), (2, zI x2), (3, zI x3)]) (pc' := 10) dX10_add_8 (by decide) rfl rfl ?_
  refine z_aload C (pc' := 12) dX10_add_10 rfl rfl ?_
  refine z_ifnull C (pc' := 48) (pf := 15) dX10_add_12 rfl rfl (fun _ => ?_) (fun _ => ?_)
  ·
    refine z_iconst C (pc' := 49) dX10_add_48 kc_m1 rfl ?_
    exact z_ireturn C dX10_add_49
  ·
    refine z_aload_n C (i := 0) (pc' := 16) dX10_add_15 rfl rfl rfl ?_
    refine z_getfR C (pc' := 19) flRX10_10 dX10_add_16 rfl (fun v4 => ?_)
    refine z_iload_n C (i := 2) (pc' := 20) dX10_add_19 rfl rfl rfl ?_
    refine z_callV1 C (pc' := 23) lvRX10_81 lc_X5_has rfl dX10_add_20 rfl (by decide) (rX5_has l w v4 x2 u3) rfl (Nat.le_of_ble_eq_true rfl) (fun v5 u6 => ?_)
    refine z_if_eq C (pc' := 48) (pf := 26) dX10_add_23 rfl rfl (fun _ => ?_) (fun _ => ?_)
    ·
      refine z_iconst C (pc' := 49) dX10_add_48 kc_m1 rfl ?_
      exact z_ireturn C dX10_add_49
    ·
      refine z_aload C (pc' := 28) dX10_add_26 rfl rfl ?_
      refine z_iload_n C (i := 2) (pc' := 29) dX10_add_28 rfl rfl rfl ?_
      refine z_callV1 C (pc' := 32) lvRX10_146 lc_X6_placeOf rfl dX10_add_29 rfl (by decide) (rX6_placeOf l w v2 x2 u6) rfl (Nat.le_of_ble_eq_true rfl) (fun v7 u8 => ?_)
      refine z_if_ge C (pc' := 48) (pf := 35) dX10_add_32 rfl rfl (fun _ => ?_) (fun _ => ?_)
      ·
        refine z_iconst C (pc' := 49) dX10_add_48 kc_m1 rfl ?_
        exact z_ireturn C dX10_add_49
      ·
        refine z_iload_n C (i := 3) (pc' := 36) dX10_add_35 rfl rfl rfl ?_
        refine z_if_lt C (pc' := 48) (pf := 39) dX10_add_36 rfl rfl (fun _ => ?_) (fun _ => ?_)
        ·
          refine z_iconst C (pc' := 49) dX10_add_48 kc_m1 rfl ?_
          exact z_ireturn C dX10_add_49
        ·
          refine z_iload_n C (i := 3) (pc' := 40) dX10_add_39 rfl rfl rfl ?_
          refine z_aload C (pc' := 42) dX10_add_40 rfl rfl ?_
          refine z_callV1 C (pc' := 45) lvRX10_149 lc_X6_size rfl dX10_add_42 rfl (by decide) (rX6_size l w v2 u8) rfl (Nat.le_of_ble_eq_true rfl) (fun v9 u10 => ?_)
          refine z_icmp_le C (pc' := 50) (pf := 48) dX10_add_45 rfl rfl (fun _ => ?_) (fun _ => ?_)
          ·
            refine z_aload C (pc' := 52) dX10_add_50 rfl rfl ?_
            refine z_iload_n C (i := 2) (pc' := 53) dX10_add_52 rfl rfl rfl ?_
            refine z_aload_n C (i := 0) (pc' := 54) dX10_add_53 rfl rfl rfl ?_
            refine z_getfR C (pc' := 57) flRX10_10 dX10_add_54 rfl (fun v11 => ?_)
            refine z_iload_n C (i := 2) (pc' := 58) dX10_add_57 rfl rfl rfl ?_
            refine z_iconst C (pc' := 59) dX10_add_58 kc_1 rfl ?_
            refine z_callV1 C (pc' := 62) lvRX10_88 lc_X5_part rfl dX10_add_59 rfl (by decide) (rX5_part l w v11 x2 1 u10) rfl (Nat.le_of_ble_eq_true rfl) (fun v12 u13 => ?_)
            refine z_aload_n C (i := 0) (pc' := 63) dX10_add_62 rfl rfl rfl ?_
            refine z_getfR C (pc' := 66) flRX10_10 dX10_add_63 rfl (fun v14 => ?_)
            refine z_iload_n C (i := 2) (pc' := 67) dX10_add_66 rfl rfl rfl ?_
            refine z_iconst C (pc' := 68) dX10_add_67 kc_3 rfl ?_
            refine z_callV1 C (pc' := 71) lvRX10_88 lc_X5_part rfl dX10_add_68 rfl (by decide) (rX5_part l w v14 x2 3 u13) rfl (Nat.le_of_ble_eq_true rfl) (fun v15 u16 => ?_)
            refine z_callV1 C (pc' := 74) lvRX10_141 lc_X6_append rfl dX10_add_71 rfl (by decide) (rX6_append l w v2 x2 v12 v15 u16) rfl (Nat.le_of_ble_eq_true rfl) (fun v17 u18 => ?_)
            refine z_if_ne C (pc' := 80) (pf := 77) dX10_add_74 rfl rfl (fun _ => ?_) (fun _ => ?_)
            ·
              refine z_aload C (pc' := 82) dX10_add_80 rfl rfl ?_
              refine z_aload C (pc' := 84) dX10_add_82 rfl rfl ?_
              refine z_callV1 C (pc' := 87) lvRX10_149 lc_X6_size rfl dX10_add_84 rfl (by decide) (rX6_size l w v2 u18) rfl (Nat.le_of_ble_eq_true rfl) (fun v19 u20 => ?_)
              refine z_iconst C (pc' := 88) dX10_add_87 kc_1 rfl ?_
              refine z_isub C (pc' := 89) dX10_add_88 rfl ?_
              refine z_callV0 C (pc' := 92) lvRX10_150 lc_X6_markAdded rfl dX10_add_89 rfl (by decide) (rX6_markAdded l w v2 (zw32 (v19 - 1)) u20) rfl (Nat.le_of_ble_eq_true rfl) (fun _ u21 => ?_)
              refine z_aload C (pc' := 94) dX10_add_92 rfl rfl ?_
              refine z_aload C (pc' := 96) dX10_add_94 rfl rfl ?_
              refine z_callV1 C (pc' := 99) lvRX10_149 lc_X6_size rfl dX10_add_96 rfl (by decide) (rX6_size l w v2 u21) rfl (Nat.le_of_ble_eq_true rfl) (fun v22 u23 => ?_)
              refine z_iconst C (pc' := 100) dX10_add_99 kc_1 rfl ?_
              refine z_isub C (pc' := 101) dX10_add_100 rfl ?_
              refine z_iload_n C (i := 3) (pc' := 102) dX10_add_101 rfl rfl rfl ?_
              refine z_callV0 C (pc' := 105) lvRX10_154 lc_X6_move rfl dX10_add_102 rfl (by decide) (rX6_move l w v2 (zw32 (v22 - 1)) x3 u23) rfl (Nat.le_of_ble_eq_true rfl) (fun _ u24 => ?_)
              refine z_aload C (pc' := 107) dX10_add_105 rfl rfl ?_
              refine z_callV1 C (pc' := 110) lvRX10_149 lc_X6_size rfl dX10_add_107 rfl (by decide) (rX6_size l w v2 u24) rfl (Nat.le_of_ble_eq_true rfl) (fun v25 u26 => ?_)
              exact z_ireturn C dX10_add_110
            ·
              refine z_bipush C (pc' := 79) dX10_add_77 kb_m3 rfl ?_
              exact z_ireturn C dX10_add_79
          ·
            refine z_iconst C (pc' := 49) dX10_add_48 kc_m1 rfl ?_
            exact z_ireturn C dX10_add_49
def fX10_strike (x0 x1 x2 : Int) (u0 : zMem) : zRs := zgf 10 4 x0 u0 (fun v1 => zvc 1 v1 (fX1_paper v1 x1 u0) (fun v2 u3 => if v2 = -1 then (some ((-1), u3)) else (zvc 6 v2 (fX6_hasPlace v2 x2 u3) (fun v4 u5 => if v4 ≠ 0 then (zvc 6 v2 (fX6_drop v2 x2 u5) (fun _ u6 => zvc 6 v2 (fX6_size v2 u6) (fun v7 u8 => some (v7, u8)))) else (some ((-1), u5))))))
set_option maxRecDepth 100000 in
set_option maxHeartbeats 4000000 in
theorem rX10_strike (l : Launch) (w : zW) (x0 x1 x2 : Int) (u0 : zMem) : zSpc l w 4 yX10_strike cX10_strike 4 (some .int) 1 [zR x0, zI x1, zI x2] u0 (fX10_strike x0 x1 x2 u0) := by
  refine zSpc_of (own := RX10) pnRX10 rfl (Nat.le_of_ble_eq_true rfl) (fun G p e R s m args below meth c C hini => ?_)
  unfold fX10_strike
  refine zlocs (lb := [(0, zR x0), (1, zI x1), (2, zI x2)]) ⟨rfl, rfl, rfl, trivial⟩ ?_
  refine z_aload_n C (i := 0) (pc' := 1) dX10_strike_0 rfl rfl rfl ?_
  refine z_getfR C (pc' := 4) flRX10_42 dX10_strike_1 rfl (fun v1 => ?_)
  refine z_iload_n C (i := 1) (pc' := 5) dX10_strike_4 rfl rfl rfl ?_
  refine z_callV3 C (pc' := 8) lvRX10_130 lc_X1_paper rfl dX10_strike_5 rfl (by decide) (rX1_paper l w v1 x1 u0) rfl (Nat.le_of_ble_eq_true rfl) (fun v2 u3 => ?_)
  refine z_astore_n C (i := 3) (la' := [(3, zR v2), (0, zR x0), (1, zI x1), (2, zI x2)]) (pc' := 9) dX10_strike_8 rfl (by decide) rfl rfl ?_
  refine z_aload_n C (i := 3) (pc' := 10) dX10_strike_9 rfl rfl rfl ?_
  refine z_ifnull C (pc' := 21) (pf := 13) dX10_strike_10 rfl rfl (fun _ => ?_) (fun _ => ?_)
  ·
    refine z_iconst C (pc' := 22) dX10_strike_21 kc_m1 rfl ?_
    exact z_ireturn C dX10_strike_22
  ·
    refine z_aload_n C (i := 3) (pc' := 14) dX10_strike_13 rfl rfl rfl ?_
    refine z_iload_n C (i := 2) (pc' := 15) dX10_strike_14 rfl rfl rfl ?_
    refine z_callV1 C (pc' := 18) lvRX10_158 lc_X6_hasPlace rfl dX10_strike_15 rfl (by decide) (rX6_hasPlace l w v2 x2 u3) rfl (Nat.le_of_ble_eq_true rfl) (fun v4 u5 => ?_)
    refine z_if_ne C (pc' := 23) (pf := 21) dX10_strike_18 rfl rfl (fun _ => ?_) (fun _ => ?_)
    ·
      refine z_aload_n C (i := 3) (pc' := 24) dX10_strike_23 rfl rfl rfl ?_
      refine z_iload_n C (i := 2) (pc' := 25) dX10_strike_24 rfl rfl rfl ?_
      refine z_callV0 C (pc' := 28) lvRX10_161 lc_X6_drop rfl dX10_strike_25 rfl (by decide) (rX6_drop l w v2 x2 u5) rfl (Nat.le_of_ble_eq_true rfl) (fun _ u6 => ?_)
      refine z_aload_n C (i := 3) (pc' := 29) dX10_strike_28 rfl rfl rfl ?_
      refine z_callV1 C (pc' := 32) lvRX10_149 lc_X6_size rfl dX10_strike_29 rfl (by decide) (rX6_size l w v2 u6) rfl (Nat.le_of_ble_eq_true rfl) (fun v7 u8 => ?_)
      exact z_ireturn C dX10_strike_32
    ·
      refine z_iconst C (pc' := 22) dX10_strike_21 kc_m1 rfl ?_
      exact z_ireturn C dX10_strike_22
def fX10_read (x0 x1 x2 : Int) (u0 : zMem) : zRs := zgf 10 4 x0 u0 (fun v1 => zvc 1 v1 (fX1_paper v1 x1 u0) (fun v2 u3 => if v2 = -1 then (some ((-1), u3)) else (if x2 < 0 then (some ((-1), u3)) else (if x2 ≤ 10 then (zgf 10 0 x0 u3 (fun v4 => zvc 6 v2 (fX6_hear v2 v4 x2 u3) (fun v5 u6 => some (v5, u6)))) else (some ((-1), u3))))))
set_option maxRecDepth 100000 in
set_option maxHeartbeats 4000000 in
theorem rX10_read (l : Launch) (w : zW) (x0 x1 x2 : Int) (u0 : zMem) : zSpc l w 5 yX10_read cX10_read 4 (some .int) 1 [zR x0, zI x1, zI x2] u0 (fX10_read x0 x1 x2 u0) := by
  refine zSpc_of (own := RX10) pnRX10 rfl (Nat.le_of_ble_eq_true rfl) (fun G p e R s m args below meth c C hini => ?_)
  unfold fX10_read
  refine zlocs (lb := [(0, zR x0), (1, zI x1), (2, zI x2)]) ⟨rfl, rfl, rfl, trivial⟩ ?_
  refine z_aload_n C (i := 0) (pc' := 1) dX10_read_0 rfl rfl rfl ?_
  refine z_getfR C (pc' := 4) flRX10_42 dX10_read_1 rfl (fun v1 => ?_)
  refine z_iload_n C (i := 1) (pc' := 5) dX10_read_4 rfl rfl rfl ?_
  refine z_callV3 C (pc' := 8) lvRX10_130 lc_X1_paper rfl dX10_read_5 rfl (by decide) (rX1_paper l w v1 x1 u0) rfl (Nat.le_of_ble_eq_true rfl) (fun v2 u3 => ?_)
  refine z_astore_n C (i := 3) (la' := [(3, zR v2), (0, zR x0), (1, zI x1), (2, zI x2)]) (pc' := 9) dX10_read_8 rfl (by decide) rfl rfl ?_
  refine z_aload_n C (i := 3) (pc' := 10) dX10_read_9 rfl rfl rfl ?_
  refine z_ifnull C (pc' := 23) (pf := 13) dX10_read_10 rfl rfl (fun _ => ?_) (fun _ => ?_)
  ·
    refine z_iconst C (pc' := 24) dX10_read_23 kc_m1 rfl ?_
    exact z_ireturn C dX10_read_24
  ·
    refine z_iload_n C (i := 2) (pc' := 14) dX10_read_13 rfl rfl rfl ?_
    refine z_if_lt C (pc' := 23) (pf := 17) dX10_read_14 rfl rfl (fun _ => ?_) (fun _ => ?_)
    ·
      refine z_iconst C (pc' := 24) dX10_read_23 kc_m1 rfl ?_
      exact z_ireturn C dX10_read_24
    ·
      refine z_iload_n C (i := 2) (pc' := 18) dX10_read_17 rfl rfl rfl ?_
      refine z_bipush C (pc' := 20) dX10_read_18 kb_10 rfl ?_
      refine z_icmp_le C (pc' := 25) (pf := 23) dX10_read_20 rfl rfl (fun _ => ?_) (fun _ => ?_)
      ·
        refine z_aload_n C (i := 3) (pc' := 26) dX10_read_25 rfl rfl rfl ?_
        refine z_aload_n C (i := 0) (pc' := 27) dX10_read_26 rfl rfl rfl ?_
        refine z_getfR C (pc' := 30) flRX10_10 dX10_read_27 rfl (fun v4 => ?_)
        refine z_iload_n C (i := 2) (pc' := 31) dX10_read_30 rfl rfl rfl ?_
        refine z_callV1 C (pc' := 34) lvRX10_164 lc_X6_hear rfl dX10_read_31 rfl (by decide) (rX6_hear l w v2 v4 x2 u3) rfl (Nat.le_of_ble_eq_true rfl) (fun v5 u6 => ?_)
        exact z_ireturn C dX10_read_34
      ·
        refine z_iconst C (pc' := 24) dX10_read_23 kc_m1 rfl ?_
        exact z_ireturn C dX10_read_24
def fX10_cut (x0 x1 x2 : Int) (u0 : zMem) : zRs := zgf 10 4 x0 u0 (fun v1 => zvc 1 v1 (fX1_paper v1 x1 u0) (fun v2 u3 => if v2 = -1 then (some ((-1), u3)) else (if x2 < 0 then (some ((-1), u3)) else (if x2 ≤ 16 then (zvc 6 v2 (fX6_shorten v2 x2 u3) (fun v4 u5 => some (v4, u5))) else (some ((-1), u3))))))
set_option maxRecDepth 100000 in
set_option maxHeartbeats 4000000 in
theorem rX10_cut (l : Launch) (w : zW) (x0 x1 x2 : Int) (u0 : zMem) : zSpc l w 5 yX10_cut cX10_cut 4 (some .int) 1 [zR x0, zI x1, zI x2] u0 (fX10_cut x0 x1 x2 u0) := by
  refine zSpc_of (own := RX10) pnRX10 rfl (Nat.le_of_ble_eq_true rfl) (fun G p e R s m args below meth c C hini => ?_)
  unfold fX10_cut
  refine zlocs (lb := [(0, zR x0), (1, zI x1), (2, zI x2)]) ⟨rfl, rfl, rfl, trivial⟩ ?_
  refine z_aload_n C (i := 0) (pc' := 1) dX10_cut_0 rfl rfl rfl ?_
  refine z_getfR C (pc' := 4) flRX10_42 dX10_cut_1 rfl (fun v1 => ?_)
  refine z_iload_n C (i := 1) (pc' := 5) dX10_cut_4 rfl rfl rfl ?_
  refine z_callV3 C (pc' := 8) lvRX10_130 lc_X1_paper rfl dX10_cut_5 rfl (by decide) (rX1_paper l w v1 x1 u0) rfl (Nat.le_of_ble_eq_true rfl) (fun v2 u3 => ?_)
  refine z_astore_n C (i := 3) (la' := [(3, zR v2), (0, zR x0), (1, zI x1), (2, zI x2)]) (pc' := 9) dX10_cut_8 rfl (by decide) rfl rfl ?_
  refine z_aload_n C (i := 3) (pc' := 10) dX10_cut_9 rfl rfl rfl ?_
  refine z_ifnull C (pc' := 23) (pf := 13) dX10_cut_10 rfl rfl (fun _ => ?_) (fun _ => ?_)
  ·
    refine z_iconst C (pc' := 24) dX10_cut_23 kc_m1 rfl ?_
    exact z_ireturn C dX10_cut_24
  ·
    refine z_iload_n C (i := 2) (pc' := 14) dX10_cut_13 rfl rfl rfl ?_
    refine z_if_lt C (pc' := 23) (pf := 17) dX10_cut_14 rfl rfl (fun _ => ?_) (fun _ => ?_)
    ·
      refine z_iconst C (pc' := 24) dX10_cut_23 kc_m1 rfl ?_
      exact z_ireturn C dX10_cut_24
    ·
      refine z_iload_n C (i := 2) (pc' := 18) dX10_cut_17 rfl rfl rfl ?_
      refine z_bipush C (pc' := 20) dX10_cut_18 kb_16 rfl ?_
      refine z_icmp_le C (pc' := 25) (pf := 23) dX10_cut_20 rfl rfl (fun _ => ?_) (fun _ => ?_)
      ·
        refine z_aload_n C (i := 3) (pc' := 26) dX10_cut_25 rfl rfl rfl ?_
        refine z_iload_n C (i := 2) (pc' := 27) dX10_cut_26 rfl rfl rfl ?_
        refine z_callV1 C (pc' := 30) lvRX10_168 lc_X6_shorten rfl dX10_cut_27 rfl (by decide) (rX6_shorten l w v2 x2 u3) rfl (Nat.le_of_ble_eq_true rfl) (fun v4 u5 => ?_)
        exact z_ireturn C dX10_cut_30
      ·
        refine z_iconst C (pc' := 24) dX10_cut_23 kc_m1 rfl ?_
        exact z_ireturn C dX10_cut_24
def fX10_page (x0 x1 x2 : Int) (u0 : zMem) : zRs := zgf 10 4 x0 u0 (fun v1 => zvc 1 v1 (fX1_paper v1 x1 u0) (fun v2 u3 => if v2 = -1 then (some ((-2000000000), u3)) else (if x2 ≥ 0 then (if x2 < 100 then (if x2 = 0 then (zvc 6 v2 (fX6_size v2 u3) (fun v5 u6 => some (v5, u6))) else (if x2 = 1 then (zvc 6 v2 (fX6_by v2 u3) (fun v8 u9 => some (v8, u9))) else (if x2 = 2 then (zvc 6 v2 (fX6_bits v2 u3) (fun v11 u12 => some (v11, u12))) else (if x2 = 3 then (zvc 6 v2 (fX6_total v2 u3) (fun v14 u15 => some (v14, u15))) else (some ((-2000000000), u3)))))) else (znz 100 (znz 100 (zvc 6 v2 (fX6_hasPlace v2 (zw32 ((zw32 (Int.tdiv x2 100)) - 1)) u3) (fun v16 u17 => zjn (fun (u18 : zMem) => some ((-2000000000), u18)) (fun k19 => if v16 = 0 then (k19 u17) else (if (Int.tmod x2 100) ≥ 4 then (k19 u17) else (zvc 6 v2 (fX6_part v2 (zw32 ((zw32 (Int.tdiv x2 100)) - 1)) (Int.tmod x2 100) u17) (fun v20 u21 => some (v20, u21)))))))))) else (some ((-2000000000), u3)))))
set_option maxRecDepth 100000 in
set_option maxHeartbeats 4000000 in
theorem rX10_page (l : Launch) (w : zW) (x0 x1 x2 : Int) (u0 : zMem) : zSpc l w 3 yX10_page cX10_page 6 (some .int) 1 [zR x0, zI x1, zI x2] u0 (fX10_page x0 x1 x2 u0) := by
  refine zSpc_of (own := RX10) pnRX10 rfl (Nat.le_of_ble_eq_true rfl) (fun G p e R s m args below meth c C hini => ?_)
  unfold fX10_page
  refine zlocs (lb := [(0, zR x0), (1, zI x1), (2, zI x2)]) ⟨rfl, rfl, rfl, trivial⟩ ?_
  refine z_aload_n C (i := 0) (pc' := 1) dX10_page_0 rfl rfl rfl ?_
  refine z_getfR C (pc' := 4) flRX10_42 dX10_page_1 rfl (fun v1 => ?_)
  refine z_iload_n C (i := 1) (pc' := 5) dX10_page_4 rfl rfl rfl ?_
  refine z_callV3 C (pc' := 8) lvRX10_130 lc_X1_paper rfl dX10_page_5 rfl (by decide) (rX1_paper l w v1 x1 u0) rfl (Nat.le_of_ble_eq_true rfl) (fun v2 u3 => ?_)
  refine z_astore_n C (i := 3) (la' := [(3, zR v2), (0, zR x0), (1, zI x1), (2, zI x2)]) (pc' := 9) dX10_page_8 rfl (by decide) rfl rfl ?_
  refine z_aload_n C (i := 3) (pc' := 10) dX10_page_9 rfl rfl rfl ?_
  refine z_ifnull C (pc' := 17) (pf := 13) dX10_page_10 rfl rfl (fun _ => ?_) (fun _ => ?_)
  ·
    refine z_ldc C (pc' := 19) dX10_page_17 wcRX10_171 ki_m2000000000 rfl ?_
    exact z_ireturn C dX10_page_19
  ·
    refine z_iload_n C (i := 2) (pc' := 14) dX10_page_13 rfl rfl rfl ?_
    refine z_if_ge C (pc' := 20) (pf := 17) dX10_page_14 rfl rfl (fun _ => ?_) (fun _ => ?_)
    ·
      refine z_iload_n C (i := 2) (pc' := 21) dX10_page_20 rfl rfl rfl ?_
      refine z_bipush C (pc' := 23) dX10_page_21 kb_100 rfl ?_
      refine z_icmp_lt C (pc' := 69) (pf := 26) dX10_page_23 rfl rfl (fun _ => ?_) (fun _ => ?_)
      ·
        refine z_iload_n C (i := 2) (pc' := 70) dX10_page_69 rfl rfl rfl ?_
        refine z_tcase C (pc' := 100) dX10_page_70 0 (by decide) (by decide) rfl rfl (fun _ => ?_) (fun h4 => ?_)
        ·
          refine z_aload_n C (i := 3) (pc' := 101) dX10_page_100 rfl rfl rfl ?_
          refine z_callV1 C (pc' := 104) lvRX10_149 lc_X6_size rfl dX10_page_101 rfl (by decide) (rX6_size l w v2 u3) rfl (Nat.le_of_ble_eq_true rfl) (fun v5 u6 => ?_)
          exact z_ireturn C dX10_page_104
        ·
          refine z_tcase C (pc' := 105) dX10_page_70 1 (by decide) (by decide) rfl rfl (fun _ => ?_) (fun h7 => ?_)
          ·
            refine z_aload_n C (i := 3) (pc' := 106) dX10_page_105 rfl rfl rfl ?_
            refine z_callV1 C (pc' := 109) lvRX10_173 lc_X6_by rfl dX10_page_106 rfl (by decide) (rX6_by l w v2 u3) rfl (Nat.le_of_ble_eq_true rfl) (fun v8 u9 => ?_)
            exact z_ireturn C dX10_page_109
          ·
            refine z_tcase C (pc' := 110) dX10_page_70 2 (by decide) (by decide) rfl rfl (fun _ => ?_) (fun h10 => ?_)
            ·
              refine z_aload_n C (i := 3) (pc' := 111) dX10_page_110 rfl rfl rfl ?_
              refine z_callV1 C (pc' := 114) lvRX10_176 lc_X6_bits rfl dX10_page_111 rfl (by decide) (rX6_bits l w v2 u3) rfl (Nat.le_of_ble_eq_true rfl) (fun v11 u12 => ?_)
              exact z_ireturn C dX10_page_114
            ·
              refine z_tcase C (pc' := 115) dX10_page_70 3 (by decide) (by decide) rfl rfl (fun _ => ?_) (fun h13 => ?_)
              ·
                refine z_aload_n C (i := 3) (pc' := 116) dX10_page_115 rfl rfl rfl ?_
                refine z_callV1 C (pc' := 119) lvRX10_179 lc_X6_total rfl dX10_page_116 rfl (by decide) (rX6_total l w v2 u3) rfl (Nat.le_of_ble_eq_true rfl) (fun v14 u15 => ?_)
                exact z_ireturn C dX10_page_119
              ·
                refine z_tdef C (pc' := 120) dX10_page_70 (by omega) rfl ?_
                refine z_ldc C (pc' := 122) dX10_page_120 wcRX10_171 ki_m2000000000 rfl ?_
                exact z_ireturn C dX10_page_122
      ·
        refine z_iload_n C (i := 2) (pc' := 27) dX10_page_26 rfl rfl rfl ?_
        refine z_bipush C (pc' := 29) dX10_page_27 kb_100 rfl ?_
        refine z_idiv C (pc' := 30) dX10_page_29 rfl (fun _ => ?_)
        refine z_iconst C (pc' := 31) dX10_page_30 kc_1 rfl ?_
        refine z_isub C (pc' := 32) dX10_page_31 rfl ?_
        refine z_istore C (i := 4) (la' := [(4, zI (zw32 ((zw32 (Int.tdiv x2 100)) - 1))), (3, zR v2), (0, zR x0), (1, zI x1), (2, zI x2)]) (pc' := 34) dX10_page_32 (by decide) rfl rfl ?_
        refine z_iload_n C (i := 2) (pc' := 35) dX10_page_34 rfl rfl rfl ?_
        refine z_bipush C (pc' := 37) dX10_page_35 kb_100 rfl ?_
        refine z_irem C (pc' := 38) dX10_page_37 rfl (fun _ => ?_)
        refine z_istore C (i := 5) (la' := [(5, zI (Int.tmod x2 100)), (4, zI (zw32 ((zw32 (Int.tdiv x2 100)) - 1))), (3, zR v2), (0, zR x0), (1, zI x1), (2, zI x2)]) (pc' := 40) dX10_page_38 (by decide) rfl rfl ?_
        refine z_aload_n C (i := 3) (pc' := 41) dX10_page_40 rfl rfl rfl ?_
        refine z_iload C (pc' := 43) dX10_page_41 rfl rfl ?_
        refine z_callV1 C (pc' := 46) lvRX10_158 lc_X6_hasPlace rfl dX10_page_43 rfl (by decide) (rX6_hasPlace l w v2 (zw32 ((zw32 (Int.tdiv x2 100)) - 1)) u3) rfl (Nat.le_of_ble_eq_true rfl) (fun v16 u17 => ?_)
        refine zjoin (P := fun (f : zMem → zRs) => ∀ (u18 : zMem), zSim G p l e R s m args below meth c w 6 (znc u0) (zM w 1 (znc u0) below args s) 66 [] [] u18 (f u18)) (fun u18 => ?_) (fun k19 hk19 => ?_)
        ·
          refine z_ldc C (pc' := 68) dX10_page_66 wcRX10_171 ki_m2000000000 rfl ?_
          exact z_ireturn C dX10_page_68
        ·
          refine z_if_eq C (pc' := 66) (pf := 49) dX10_page_46 rfl rfl (fun _ => ?_) (fun _ => ?_)
          ·
            exact zlocs (lb := []) trivial (hk19 _)
          ·
            refine z_iload C (pc' := 51) dX10_page_49 rfl rfl ?_
            refine z_iconst C (pc' := 52) dX10_page_51 kc_4 rfl ?_
            refine z_icmp_ge C (pc' := 66) (pf := 55) dX10_page_52 rfl rfl (fun _ => ?_) (fun _ => ?_)
            ·
              exact zlocs (lb := []) trivial (hk19 _)
            ·
              refine z_aload_n C (i := 3) (pc' := 56) dX10_page_55 rfl rfl rfl ?_
              refine z_iload C (pc' := 58) dX10_page_56 rfl rfl ?_
              refine z_iload C (pc' := 60) dX10_page_58 rfl rfl ?_
              refine z_callV1 C (pc' := 63) lvRX10_172 lc_X6_part rfl dX10_page_60 rfl (by decide) (rX6_part l w v2 (zw32 ((zw32 (Int.tdiv x2 100)) - 1)) (Int.tmod x2 100) u17) rfl (Nat.le_of_ble_eq_true rfl) (fun v20 u21 => ?_)
              refine z_goto C (pc' := 68) dX10_page_63 rfl ?_
              exact z_ireturn C dX10_page_68
    ·
      refine z_ldc C (pc' := 19) dX10_page_17 wcRX10_171 ki_m2000000000 rfl ?_
      exact z_ireturn C dX10_page_19
def fX10_led (x0 x1 x2 : Int) (u0 : zMem) : zRs := zgf 10 4 x0 u0 (fun v1 => zvc 1 v1 (fX1_paper v1 x1 u0) (fun v2 u3 => if v2 = -1 then (some ((-1), u3)) else (zgf 10 0 x0 u3 (fun v4 => zvc 5 v4 (fX5_has v4 x2 u3) (fun v5 u6 => if v5 ≠ 0 then (zvc 6 v2 (fX6_placeOf v2 x2 u6) (fun v7 u8 => if v7 ≥ 0 then (some (v7, u8)) else (some ((-2), u8)))) else (some ((-1), u6)))))))
set_option maxRecDepth 100000 in
set_option maxHeartbeats 4000000 in
theorem rX10_led (l : Launch) (w : zW) (x0 x1 x2 : Int) (u0 : zMem) : zSpc l w 2 yX10_led cX10_led 5 (some .int) 1 [zR x0, zI x1, zI x2] u0 (fX10_led x0 x1 x2 u0) := by
  refine zSpc_of (own := RX10) pnRX10 rfl (Nat.le_of_ble_eq_true rfl) (fun G p e R s m args below meth c C hini => ?_)
  unfold fX10_led
  refine zlocs (lb := [(0, zR x0), (1, zI x1), (2, zI x2)]) ⟨rfl, rfl, rfl, trivial⟩ ?_
  refine z_aload_n C (i := 0) (pc' := 1) dX10_led_0 rfl rfl rfl ?_
  refine z_getfR C (pc' := 4) flRX10_42 dX10_led_1 rfl (fun v1 => ?_)
  refine z_iload_n C (i := 1) (pc' := 5) dX10_led_4 rfl rfl rfl ?_
  refine z_callV3 C (pc' := 8) lvRX10_130 lc_X1_paper rfl dX10_led_5 rfl (by decide) (rX1_paper l w v1 x1 u0) rfl (Nat.le_of_ble_eq_true rfl) (fun v2 u3 => ?_)
  refine z_astore_n C (i := 3) (la' := [(3, zR v2), (0, zR x0), (1, zI x1), (2, zI x2)]) (pc' := 9) dX10_led_8 rfl (by decide) rfl rfl ?_
  refine z_aload_n C (i := 3) (pc' := 10) dX10_led_9 rfl rfl rfl ?_
  refine z_ifnull C (pc' := 24) (pf := 13) dX10_led_10 rfl rfl (fun _ => ?_) (fun _ => ?_)
  ·
    refine z_iconst C (pc' := 25) dX10_led_24 kc_m1 rfl ?_
    exact z_ireturn C dX10_led_25
  ·
    refine z_aload_n C (i := 0) (pc' := 14) dX10_led_13 rfl rfl rfl ?_
    refine z_getfR C (pc' := 17) flRX10_10 dX10_led_14 rfl (fun v4 => ?_)
    refine z_iload_n C (i := 2) (pc' := 18) dX10_led_17 rfl rfl rfl ?_
    refine z_callV1 C (pc' := 21) lvRX10_81 lc_X5_has rfl dX10_led_18 rfl (by decide) (rX5_has l w v4 x2 u3) rfl (Nat.le_of_ble_eq_true rfl) (fun v5 u6 => ?_)
    refine z_if_ne C (pc' := 26) (pf := 24) dX10_led_21 rfl rfl (fun _ => ?_) (fun _ => ?_)
    ·
      refine z_aload_n C (i := 3) (pc' := 27) dX10_led_26 rfl rfl rfl ?_
      refine z_iload_n C (i := 2) (pc' := 28) dX10_led_27 rfl rfl rfl ?_
      refine z_callV1 C (pc' := 31) lvRX10_146 lc_X6_placeOf rfl dX10_led_28 rfl (by decide) (rX6_placeOf l w v2 x2 u6) rfl (Nat.le_of_ble_eq_true rfl) (fun v7 u8 => ?_)
      refine z_istore C (i := 4) (la' := [(4, zI v7), (3, zR v2), (0, zR x0), (1, zI x1), (2, zI x2)]) (pc' := 33) dX10_led_31 (by decide) rfl rfl ?_
      refine z_iload C (pc' := 35) dX10_led_33 rfl rfl ?_
      refine z_if_ge C (pc' := 43) (pf := 38) dX10_led_35 rfl rfl (fun _ => ?_) (fun _ => ?_)
      ·
        refine z_iload C (pc' := 45) dX10_led_43 rfl rfl ?_
        exact z_ireturn C dX10_led_45
      ·
        refine z_bipush C (pc' := 40) dX10_led_38 kb_m2 rfl ?_
        refine z_goto C (pc' := 45) dX10_led_40 rfl ?_
        exact z_ireturn C dX10_led_45
    ·
      refine z_iconst C (pc' := 25) dX10_led_24 kc_m1 rfl ?_
      exact z_ireturn C dX10_led_25
def fX10_isChoice (x0 : Int) (u0 : zMem) : zRs := zjn (fun (u1 : zMem) => zbl 1 (some (1, u1))) (fun k2 => if x0 = 0 then (k2 u0) else (if x0 ≠ 1 then (zbl 0 (some (0, u0))) else (k2 u0)))
set_option maxRecDepth 100000 in
set_option maxHeartbeats 4000000 in
theorem rX10_isChoice (l : Launch) (w : zW) (x0 : Int) (u0 : zMem) : zSpc l w 1 yX10_isChoice cX10_isChoice 1 (some .boolean) 1 [zI x0] u0 (fX10_isChoice x0 u0) := by
  refine zSpc_of (own := RX10) pnRX10 rfl (Nat.le_of_ble_eq_true rfl) (fun G p e R s m args below meth c C hini => ?_)
  unfold fX10_isChoice
  refine zlocs (lb := [(0, zI x0)]) ⟨rfl, trivial⟩ ?_
  refine z_iload_n C (i := 0) (pc' := 1) dX10_isChoice_0 rfl rfl rfl ?_
  refine zjoin (P := fun (f : zMem → zRs) => ∀ (u1 : zMem), zSim G p l e R s m args below meth c w 1 (znc u0) (zM w 1 (znc u0) below args s) 9 [] [] u1 (f u1)) (fun u1 => ?_) (fun k2 hk2 => ?_)
  ·
    refine z_iconst C (pc' := 10) dX10_isChoice_9 kc_1 rfl ?_
    refine z_goto C (pc' := 14) dX10_isChoice_10 rfl ?_
    exact z_zreturn C dX10_isChoice_14
  ·
    refine z_if_eq C (pc' := 9) (pf := 4) dX10_isChoice_1 rfl rfl (fun _ => ?_) (fun _ => ?_)
    ·
      exact zlocs (lb := []) trivial (hk2 _)
    ·
      refine z_iload_n C (i := 0) (pc' := 5) dX10_isChoice_4 rfl rfl rfl ?_
      refine z_iconst C (pc' := 6) dX10_isChoice_5 kc_1 rfl ?_
      refine z_icmp_ne C (pc' := 13) (pf := 9) dX10_isChoice_6 rfl rfl (fun _ => ?_) (fun _ => ?_)
      ·
        refine z_iconst C (pc' := 14) dX10_isChoice_13 kc_0 rfl ?_
        exact z_zreturn C dX10_isChoice_14
      ·
        exact zlocs (lb := []) trivial (hk2 _)
def fX10_sure (x0 x1 x2 : Int) (u0 : zMem) : zRs := zgf 10 0 x0 u0 (fun v1 => zvc 5 v1 (fX5_has v1 x1 u0) (fun v2 u3 => if v2 = 0 then (some ((-1), u3)) else (zcall (fX10_isChoice x2 u3) (fun v4 u5 => if v4 ≠ 0 then (if x2 ≠ 0 then (zgf 10 4 x0 u5 (fun v6 => zvc 1 v6 (fX1_writersWith v6 x1 u5) (fun v7 u8 => some (v7, u8)))) else (zgf 10 4 x0 u5 (fun v9 => zvc 1 v9 (fX1_papersWith v9 x1 u5) (fun v10 u11 => some (v10, u11))))) else (some ((-1), u5))))))
set_option maxRecDepth 100000 in
set_option maxHeartbeats 4000000 in
theorem rX10_sure (l : Launch) (w : zW) (x0 x1 x2 : Int) (u0 : zMem) : zSpc l w 4 yX10_sure cX10_sure 3 (some .int) 1 [zR x0, zI x1, zI x2] u0 (fX10_sure x0 x1 x2 u0) := by
  refine zSpc_of (own := RX10) pnRX10 rfl (Nat.le_of_ble_eq_true rfl) (fun G p e R s m args below meth c C hini => ?_)
  unfold fX10_sure
  refine zlocs (lb := [(0, zR x0), (1, zI x1), (2, zI x2)]) ⟨rfl, rfl, rfl, trivial⟩ ?_
  refine z_aload_n C (i := 0) (pc' := 1) dX10_sure_0 rfl rfl rfl ?_
  refine z_getfR C (pc' := 4) flRX10_10 dX10_sure_1 rfl (fun v1 => ?_)
  refine z_iload_n C (i := 1) (pc' := 5) dX10_sure_4 rfl rfl rfl ?_
  refine z_callV1 C (pc' := 8) lvRX10_81 lc_X5_has rfl dX10_sure_5 rfl (by decide) (rX5_has l w v1 x1 u0) rfl (Nat.le_of_ble_eq_true rfl) (fun v2 u3 => ?_)
  refine z_if_eq C (pc' := 18) (pf := 11) dX10_sure_8 rfl rfl (fun _ => ?_) (fun _ => ?_)
  ·
    refine z_iconst C (pc' := 19) dX10_sure_18 kc_m1 rfl ?_
    exact z_ireturn C dX10_sure_19
  ·
    refine z_iload_n C (i := 2) (pc' := 12) dX10_sure_11 rfl rfl rfl ?_
    refine z_callS1 C (pc' := 15) lsRX10_182 lc_X10_isChoice rfl dX10_sure_12 rfl (by decide) (rX10_isChoice l w x2 u3) rfl (Nat.le_of_ble_eq_true rfl) (fun v4 u5 => ?_)
    refine z_if_ne C (pc' := 20) (pf := 18) dX10_sure_15 rfl rfl (fun _ => ?_) (fun _ => ?_)
    ·
      refine z_iload_n C (i := 2) (pc' := 21) dX10_sure_20 rfl rfl rfl ?_
      refine z_if_ne C (pc' := 35) (pf := 24) dX10_sure_21 rfl rfl (fun _ => ?_) (fun _ => ?_)
      ·
        refine z_aload_n C (i := 0) (pc' := 36) dX10_sure_35 rfl rfl rfl ?_
        refine z_getfR C (pc' := 39) flRX10_42 dX10_sure_36 rfl (fun v6 => ?_)
        refine z_iload_n C (i := 1) (pc' := 40) dX10_sure_39 rfl rfl rfl ?_
        refine z_callV1 C (pc' := 43) lvRX10_188 lc_X1_writersWith rfl dX10_sure_40 rfl (by decide) (rX1_writersWith l w v6 x1 u5) rfl (Nat.le_of_ble_eq_true rfl) (fun v7 u8 => ?_)
        exact z_ireturn C dX10_sure_43
      ·
        refine z_aload_n C (i := 0) (pc' := 25) dX10_sure_24 rfl rfl rfl ?_
        refine z_getfR C (pc' := 28) flRX10_42 dX10_sure_25 rfl (fun v9 => ?_)
        refine z_iload_n C (i := 1) (pc' := 29) dX10_sure_28 rfl rfl rfl ?_
        refine z_callV1 C (pc' := 32) lvRX10_185 lc_X1_papersWith rfl dX10_sure_29 rfl (by decide) (rX1_papersWith l w v9 x1 u5) rfl (Nat.le_of_ble_eq_true rfl) (fun v10 u11 => ?_)
        refine z_goto C (pc' := 43) dX10_sure_32 rfl ?_
        exact z_ireturn C dX10_sure_43
    ·
      refine z_iconst C (pc' := 19) dX10_sure_18 kc_m1 rfl ?_
      exact z_ireturn C dX10_sure_19
def fX10_only (x0 : Int) (u0 : zMem) : zRs := zgf 10 4 x0 u0 (fun v1 => zvc 1 v1 (fX1_onlyOnce v1 u0) (fun v2 u3 => some (v2, u3)))
set_option maxRecDepth 100000 in
set_option maxHeartbeats 4000000 in
theorem rX10_only (l : Launch) (w : zW) (x0 : Int) (u0 : zMem) : zSpc l w 5 yX10_only cX10_only 1 (some .int) 1 [zR x0] u0 (fX10_only x0 u0) := by
  refine zSpc_of (own := RX10) pnRX10 rfl (Nat.le_of_ble_eq_true rfl) (fun G p e R s m args below meth c C hini => ?_)
  unfold fX10_only
  refine zlocs (lb := [(0, zR x0)]) ⟨rfl, trivial⟩ ?_
  refine z_aload_n C (i := 0) (pc' := 1) dX10_only_0 rfl rfl rfl ?_
  refine z_getfR C (pc' := 4) flRX10_42 dX10_only_1 rfl (fun v1 => ?_)
  refine z_callV1 C (pc' := 7) lvRX10_191 lc_X1_onlyOnce rfl dX10_only_4 rfl (by decide) (rX1_onlyOnce l w v1 u0) rfl (Nat.le_of_ble_eq_true rfl) (fun v2 u3 => ?_)
  exact z_ireturn C dX10_only_7
def fX10_fight (x0 x1 x2 : Int) (u0 : zMem) : zRs := if x1 < 0 then (some ((-1), u0)) else (znz 10 (znz 10 (if (zw32 (Int.tdiv x1 10)) = (Int.tmod x1 10) then (some ((-1), u0)) else (zcall (fX10_isChoice x2 u0) (fun v1 u2 => if v1 ≠ 0 then (zgf 10 4 x0 u2 (fun v3 => znz 10 (zvc 1 v3 (fX1_paper v3 (zw32 (Int.tdiv x1 10)) u2) (fun v4 u5 => zgf 10 4 x0 u5 (fun v6 => znz 10 (zvc 1 v6 (fX1_paper v6 (Int.tmod x1 10) u5) (fun v7 u8 => if v4 = -1 then (some ((-1), u8)) else (if v7 ≠ -1 then (if x2 ≠ 0 then (zgf 10 4 x0 u8 (fun v9 => zvc 1 v9 (fX1_firstFight v9 v4 v7 u8) (fun v10 u11 => some (v10, u11)))) else (zgf 10 4 x0 u8 (fun v12 => zvc 1 v12 (fX1_fightsOf v12 v4 v7 u8) (fun v13 u14 => some (v13, u14))))) else (some ((-1), u8)))))))))) else (some ((-1), u2)))))))
set_option maxRecDepth 100000 in
set_option maxHeartbeats 4000000 in
theorem rX10_fight (l : Launch) (w : zW) (x0 x1 x2 : Int) (u0 : zMem) : zSpc l w 4 yX10_fight cX10_fight 5 (some .int) 1 [zR x0, zI x1, zI x2] u0 (fX10_fight x0 x1 x2 u0) := by
  refine zSpc_of (own := RX10) pnRX10 rfl (Nat.le_of_ble_eq_true rfl) (fun G p e R s m args below meth c C hini => ?_)
  unfold fX10_fight
  refine zlocs (lb := [(0, zR x0), (1, zI x1), (2, zI x2)]) ⟨rfl, rfl, rfl, trivial⟩ ?_
  refine z_iload_n C (i := 1) (pc' := 1) dX10_fight_0 rfl rfl rfl ?_
  refine z_if_lt C (pc' := 22) (pf := 4) dX10_fight_1 rfl rfl (fun _ => ?_) (fun _ => ?_)
  ·
    refine z_iconst C (pc' := 23) dX10_fight_22 kc_m1 rfl ?_
    exact z_ireturn C dX10_fight_23
  ·
    refine z_iload_n C (i := 1) (pc' := 5) dX10_fight_4 rfl rfl rfl ?_
    refine z_bipush C (pc' := 7) dX10_fight_5 kb_10 rfl ?_
    refine z_idiv C (pc' := 8) dX10_fight_7 rfl (fun _ => ?_)
    refine z_iload_n C (i := 1) (pc' := 9) dX10_fight_8 rfl rfl rfl ?_
    refine z_bipush C (pc' := 11) dX10_fight_9 kb_10 rfl ?_
    refine z_irem C (pc' := 12) dX10_fight_11 rfl (fun _ => ?_)
    refine z_icmp_eq C (pc' := 22) (pf := 15) dX10_fight_12 rfl rfl (fun _ => ?_) (fun _ => ?_)
    ·
      refine z_iconst C (pc' := 23) dX10_fight_22 kc_m1 rfl ?_
      exact z_ireturn C dX10_fight_23
    ·
      refine z_iload_n C (i := 2) (pc' := 16) dX10_fight_15 rfl rfl rfl ?_
      refine z_callS1 C (pc' := 19) lsRX10_182 lc_X10_isChoice rfl dX10_fight_16 rfl (by decide) (rX10_isChoice l w x2 u0) rfl (Nat.le_of_ble_eq_true rfl) (fun v1 u2 => ?_)
      refine z_if_ne C (pc' := 24) (pf := 22) dX10_fight_19 rfl rfl (fun _ => ?_) (fun _ => ?_)
      ·
        refine z_aload_n C (i := 0) (pc' := 25) dX10_fight_24 rfl rfl rfl ?_
        refine z_getfR C (pc' := 28) flRX10_42 dX10_fight_25 rfl (fun v3 => ?_)
        refine z_iload_n C (i := 1) (pc' := 29) dX10_fight_28 rfl rfl rfl ?_
        refine z_bipush C (pc' := 31) dX10_fight_29 kb_10 rfl ?_
        refine z_idiv C (pc' := 32) dX10_fight_31 rfl (fun _ => ?_)
        refine z_callV3 C (pc' := 35) lvRX10_130 lc_X1_paper rfl dX10_fight_32 rfl (by decide) (rX1_paper l w v3 (zw32 (Int.tdiv x1 10)) u2) rfl (Nat.le_of_ble_eq_true rfl) (fun v4 u5 => ?_)
        refine z_astore_n C (i := 3) (la' := [(3, zR v4), (0, zR x0), (1, zI x1), (2, zI x2)]) (pc' := 36) dX10_fight_35 rfl (by decide) rfl rfl ?_
        refine z_aload_n C (i := 0) (pc' := 37) dX10_fight_36 rfl rfl rfl ?_
        refine z_getfR C (pc' := 40) flRX10_42 dX10_fight_37 rfl (fun v6 => ?_)
        refine z_iload_n C (i := 1) (pc' := 41) dX10_fight_40 rfl rfl rfl ?_
        refine z_bipush C (pc' := 43) dX10_fight_41 kb_10 rfl ?_
        refine z_irem C (pc' := 44) dX10_fight_43 rfl (fun _ => ?_)
        refine z_callV3 C (pc' := 47) lvRX10_130 lc_X1_paper rfl dX10_fight_44 rfl (by decide) (rX1_paper l w v6 (Int.tmod x1 10) u5) rfl (Nat.le_of_ble_eq_true rfl) (fun v7 u8 => ?_)
        refine z_astore C (i := 4) (la' := [(4, zR v7), (3, zR v4), (0, zR x0), (1, zI x1), (2, zI x2)]) (pc' := 49) dX10_fight_47 (by decide) rfl rfl ?_
        refine z_aload_n C (i := 3) (pc' := 50) dX10_fight_49 rfl rfl rfl ?_
        refine z_ifnull C (pc' := 58) (pf := 53) dX10_fight_50 rfl rfl (fun _ => ?_) (fun _ => ?_)
        ·
          refine z_iconst C (pc' := 59) dX10_fight_58 kc_m1 rfl ?_
          exact z_ireturn C dX10_fight_59
        ·
          refine z_aload C (pc' := 55) dX10_fight_53 rfl rfl ?_
          refine z_ifnonnull C (pc' := 60) (pf := 58) dX10_fight_55 rfl rfl (fun _ => ?_) (fun _ => ?_)
          ·
            refine z_iload_n C (i := 2) (pc' := 61) dX10_fight_60 rfl rfl rfl ?_
            refine z_if_ne C (pc' := 77) (pf := 64) dX10_fight_61 rfl rfl (fun _ => ?_) (fun _ => ?_)
            ·
              refine z_aload_n C (i := 0) (pc' := 78) dX10_fight_77 rfl rfl rfl ?_
              refine z_getfR C (pc' := 81) flRX10_42 dX10_fight_78 rfl (fun v9 => ?_)
              refine z_aload_n C (i := 3) (pc' := 82) dX10_fight_81 rfl rfl rfl ?_
              refine z_aload C (pc' := 84) dX10_fight_82 rfl rfl ?_
              refine z_callV1 C (pc' := 87) lvRX10_198 lc_X1_firstFight rfl dX10_fight_84 rfl (by decide) (rX1_firstFight l w v9 v4 v7 u8) rfl (Nat.le_of_ble_eq_true rfl) (fun v10 u11 => ?_)
              exact z_ireturn C dX10_fight_87
            ·
              refine z_aload_n C (i := 0) (pc' := 65) dX10_fight_64 rfl rfl rfl ?_
              refine z_getfR C (pc' := 68) flRX10_42 dX10_fight_65 rfl (fun v12 => ?_)
              refine z_aload_n C (i := 3) (pc' := 69) dX10_fight_68 rfl rfl rfl ?_
              refine z_aload C (pc' := 71) dX10_fight_69 rfl rfl ?_
              refine z_callV1 C (pc' := 74) lvRX10_194 lc_X1_fightsOf rfl dX10_fight_71 rfl (by decide) (rX1_fightsOf l w v12 v4 v7 u8) rfl (Nat.le_of_ble_eq_true rfl) (fun v13 u14 => ?_)
              refine z_goto C (pc' := 87) dX10_fight_74 rfl ?_
              exact z_ireturn C dX10_fight_87
          ·
            refine z_iconst C (pc' := 59) dX10_fight_58 kc_m1 rfl ?_
            exact z_ireturn C dX10_fight_59
      ·
        refine z_iconst C (pc' := 23) dX10_fight_22 kc_m1 rfl ?_
        exact z_ireturn C dX10_fight_23
def fX10_order (x0 x1 : Int) (u0 : zMem) : zRs := if x1 < 0 then (some ((-1), u0)) else (if x1 < 16 then (zgf 10 4 x0 u0 (fun v1 => zvc 1 v1 (fX1_inOrder v1 x1 u0) (fun v2 u3 => some (v2, u3)))) else (some ((-1), u0)))
set_option maxRecDepth 100000 in
set_option maxHeartbeats 4000000 in
theorem rX10_order (l : Launch) (w : zW) (x0 x1 : Int) (u0 : zMem) : zSpc l w 6 yX10_order cX10_order 2 (some .int) 1 [zR x0, zI x1] u0 (fX10_order x0 x1 u0) := by
  refine zSpc_of (own := RX10) pnRX10 rfl (Nat.le_of_ble_eq_true rfl) (fun G p e R s m args below meth c C hini => ?_)
  unfold fX10_order
  refine zlocs (lb := [(0, zR x0), (1, zI x1)]) ⟨rfl, rfl, trivial⟩ ?_
  refine z_iload_n C (i := 1) (pc' := 1) dX10_order_0 rfl rfl rfl ?_
  refine z_if_lt C (pc' := 10) (pf := 4) dX10_order_1 rfl rfl (fun _ => ?_) (fun _ => ?_)
  ·
    refine z_iconst C (pc' := 11) dX10_order_10 kc_m1 rfl ?_
    exact z_ireturn C dX10_order_11
  ·
    refine z_iload_n C (i := 1) (pc' := 5) dX10_order_4 rfl rfl rfl ?_
    refine z_bipush C (pc' := 7) dX10_order_5 kb_16 rfl ?_
    refine z_icmp_lt C (pc' := 12) (pf := 10) dX10_order_7 rfl rfl (fun _ => ?_) (fun _ => ?_)
    ·
      refine z_aload_n C (i := 0) (pc' := 13) dX10_order_12 rfl rfl rfl ?_
      refine z_getfR C (pc' := 16) flRX10_42 dX10_order_13 rfl (fun v1 => ?_)
      refine z_iload_n C (i := 1) (pc' := 17) dX10_order_16 rfl rfl rfl ?_
      refine z_callV1 C (pc' := 20) lvRX10_201 lc_X1_inOrder rfl dX10_order_17 rfl (by decide) (rX1_inOrder l w v1 x1 u0) rfl (Nat.le_of_ble_eq_true rfl) (fun v2 u3 => ?_)
      exact z_ireturn C dX10_order_20
    ·
      refine z_iconst C (pc' := 11) dX10_order_10 kc_m1 rfl ?_
      exact z_ireturn C dX10_order_11
def fX10_commonDivisor (x0 x1 : Int) (u0 : zMem) : zRs := zlp (fun _ _ _ _ => none) (fun k5 (v1 : Int) (v2 : Int) (v3 : Int) (u4 : zMem) => if v3 ≥ 1000 then (some (v1, u4)) else (if (zcmp v2 0) = 0 then (some (v1, u4)) else (znz v2 (k5 v2 (Int.tmod v1 v2) (zw32 (v3 + 1)) u4)))) 1000000 x0 x1 0 u0
set_option maxRecDepth 100000 in
set_option maxHeartbeats 4000000 in
theorem rX10_commonDivisor (l : Launch) (w : zW) (x0 x1 : Int) (u0 : zMem) : zSpc l w 1 yX10_commonDivisor cX10_commonDivisor 11 (some .long) 2 [zL x0, zL x1] u0 (fX10_commonDivisor x0 x1 u0) := by
  refine zSpc_of (own := RX10) pnRX10 rfl (Nat.le_of_ble_eq_true rfl) (fun G p e R s m args below meth c C hini => ?_)
  unfold fX10_commonDivisor
  refine zlocs (lb := [(0, zL x0), (2, zL x1)]) ⟨rfl, rfl, trivial⟩ ?_
  refine z_lload_n C (i := 0) (pc' := 1) dX10_commonDivisor_0 rfl rfl rfl ?_
  refine z_lstore C (i := 4) (la' := [(4, zL x0), (0, zL x0), (2, zL x1)]) (pc' := 3) dX10_commonDivisor_1 (by decide) rfl rfl ?_
  refine z_lload_n C (i := 2) (pc' := 4) dX10_commonDivisor_3 rfl rfl rfl ?_
  refine z_lstore C (i := 6) (la' := [(6, zL x1), (4, zL x0), (0, zL x0), (2, zL x1)]) (pc' := 6) dX10_commonDivisor_4 (by decide) rfl rfl ?_
  refine z_iconst C (pc' := 7) dX10_commonDivisor_6 kc_0 rfl ?_
  refine z_istore C (i := 8) (la' := [(8, zI 0), (6, zL x1), (4, zL x0), (0, zL x0), (2, zL x1)]) (pc' := 9) dX10_commonDivisor_7 (by decide) rfl rfl ?_
  refine zlocs (lb := [(4, zL x0), (6, zL x1), (8, zI 0)]) ⟨rfl, rfl, rfl, trivial⟩ ?_
  refine zlp_ind (fun (f : Int → Int → Int → zMem → zRs) => ∀ (v1 : Int) (v2 : Int) (v3 : Int) (u4 : zMem), zSim G p l e R s m args below meth c w 11 (znc u0) (zM w 2 (znc u0) below args s) 9 [(4, zL v1), (6, zL v2), (8, zI v3)] [] u4 (f v1 v2 v3 u4)) (fun _ _ _ _ => znone) (fun k5 hk5 v1 v2 v3 u4 => ?_) _ _ _ _ _
  refine z_iload C (pc' := 11) dX10_commonDivisor_9 rfl rfl ?_
  refine z_sipush C (pc' := 14) dX10_commonDivisor_11 ks_1000 rfl ?_
  refine z_icmp_ge C (pc' := 45) (pf := 17) dX10_commonDivisor_14 rfl rfl (fun _ => ?_) (fun _ => ?_)
  ·
    refine z_lload C (pc' := 47) dX10_commonDivisor_45 rfl rfl ?_
    exact z_lreturn C dX10_commonDivisor_47
  ·
    refine z_lload C (pc' := 19) dX10_commonDivisor_17 rfl rfl ?_
    refine z_lconst C (pc' := 20) dX10_commonDivisor_19 kl_0 rfl ?_
    refine z_lcmp C (pc' := 21) dX10_commonDivisor_20 rfl ?_
    refine z_if_eq C (pc' := 45) (pf := 24) dX10_commonDivisor_21 rfl rfl (fun _ => ?_) (fun _ => ?_)
    ·
      refine z_lload C (pc' := 47) dX10_commonDivisor_45 rfl rfl ?_
      exact z_lreturn C dX10_commonDivisor_47
    ·
      refine z_lload C (pc' := 26) dX10_commonDivisor_24 rfl rfl ?_
      refine z_lload C (pc' := 28) dX10_commonDivisor_26 rfl rfl ?_
      refine z_lrem C (pc' := 29) dX10_commonDivisor_28 rfl (fun _ => ?_)
      refine z_lstore C (i := 9) (la' := [(9, zL (Int.tmod v1 v2)), (4, zL v1), (6, zL v2), (8, zI v3)]) (pc' := 31) dX10_commonDivisor_29 (by decide) rfl rfl ?_
      refine z_lload C (pc' := 33) dX10_commonDivisor_31 rfl rfl ?_
      refine z_lstore C (i := 4) (la' := [(4, zL v2), (9, zL (Int.tmod v1 v2)), (6, zL v2), (8, zI v3)]) (pc' := 35) dX10_commonDivisor_33 (by decide) rfl rfl ?_
      refine z_lload C (pc' := 37) dX10_commonDivisor_35 rfl rfl ?_
      refine z_lstore C (i := 6) (la' := [(6, zL (Int.tmod v1 v2)), (4, zL v2), (9, zL (Int.tmod v1 v2)), (8, zI v3)]) (pc' := 39) dX10_commonDivisor_37 (by decide) rfl rfl ?_
      refine z_iinc C (i := 8) (la' := [(8, zI (zw32 (v3 + 1))), (6, zL (Int.tmod v1 v2)), (4, zL v2), (9, zL (Int.tmod v1 v2))]) (pc' := 42) dX10_commonDivisor_39 rfl (by decide) rfl rfl ?_
      refine z_goto C (pc' := 9) dX10_commonDivisor_42 rfl ?_
      exact zlocs (lb := [(4, zL v2), (6, zL (Int.tmod v1 v2)), (8, zI (zw32 (v3 + 1)))]) ⟨rfl, rfl, rfl, trivial⟩ (hk5 _ _ _ _)
def fX10_said (x0 x1 x2 x3 : Int) (u0 : zMem) : zRs := zgf 10 0 x0 u0 (fun v1 => zvc 5 v1 (fX5_has v1 x1 u0) (fun v2 u3 => if v2 = 0 then (some ((-9223372036854775808), u3)) else (if x2 < 1 then (some ((-9223372036854775808), u3)) else (if x2 > 99 then (some ((-9223372036854775808), u3)) else (zcall (fX10_isChoice x3 u3) (fun v4 u5 => if v4 ≠ 0 then (zgf 10 4 x0 u5 (fun v6 => zgf 10 3 x0 u5 (fun v7 => zvc 1 v6 (fX1_chanceIfSaid v6 x1 v7 u5) (fun v8 u9 => zgf 10 4 x0 u9 (fun v10 => zvc 1 v10 (fX1_chanceIfNot v10 x1 u9) (fun v11 u12 => zcall (fX10_commonDivisor (zw64 (x2 * v8)) (zw64 ((zw64 (x2 * v8)) + (zw64 ((zw32 (100 - x2)) * v11)))) u12) (fun v13 u14 => zjn (fun (u15 : zMem) => some (x3, u15)) (fun k16 => if (zcmp (zw64 (x2 * v8)) 0) = 0 then (k16 u14) else (if (zcmp v13 0) ≠ 0 then (if x3 ≠ 0 then (znz v13 (some ((zw64 (Int.tdiv (zw64 ((zw64 (x2 * v8)) + (zw64 ((zw32 (100 - x2)) * v11)))) v13)), u14))) else (znz v13 (some ((zw64 (Int.tdiv (zw64 (x2 * v8)) v13)), u14)))) else (k16 u14)))))))))) else (some ((-9223372036854775808), u5))))))))
set_option maxRecDepth 100000 in
set_option maxHeartbeats 4000000 in
theorem rX10_said (l : Launch) (w : zW) (x0 x1 x2 x3 : Int) (u0 : zMem) : zSpc l w 6 yX10_said cX10_said 10 (some .long) 2 [zR x0, zI x1, zI x2, zI x3] u0 (fX10_said x0 x1 x2 x3 u0) := by
  refine zSpc_of (own := RX10) pnRX10 rfl (Nat.le_of_ble_eq_true rfl) (fun G p e R s m args below meth c C hini => ?_)
  unfold fX10_said
  refine zlocs (lb := [(0, zR x0), (1, zI x1), (2, zI x2), (3, zI x3)]) ⟨rfl, rfl, rfl, rfl, trivial⟩ ?_
  refine z_aload_n C (i := 0) (pc' := 1) dX10_said_0 rfl rfl rfl ?_
  refine z_getfR C (pc' := 4) flRX10_10 dX10_said_1 rfl (fun v1 => ?_)
  refine z_iload_n C (i := 1) (pc' := 5) dX10_said_4 rfl rfl rfl ?_
  refine z_callV1 C (pc' := 8) lvRX10_81 lc_X5_has rfl dX10_said_5 rfl (by decide) (rX5_has l w v1 x1 u0) rfl (Nat.le_of_ble_eq_true rfl) (fun v2 u3 => ?_)
  refine z_if_eq C (pc' := 29) (pf := 11) dX10_said_8 rfl rfl (fun _ => ?_) (fun _ => ?_)
  ·
    refine z_ldc2 C (pc' := 32) dX10_said_29 wlRX10_206 kj_m9223372036854775808 rfl ?_
    exact z_lreturn C dX10_said_32
  ·
    refine z_iload_n C (i := 2) (pc' := 12) dX10_said_11 rfl rfl rfl ?_
    refine z_iconst C (pc' := 13) dX10_said_12 kc_1 rfl ?_
    refine z_icmp_lt C (pc' := 29) (pf := 16) dX10_said_13 rfl rfl (fun _ => ?_) (fun _ => ?_)
    ·
      refine z_ldc2 C (pc' := 32) dX10_said_29 wlRX10_206 kj_m9223372036854775808 rfl ?_
      exact z_lreturn C dX10_said_32
    ·
      refine z_iload_n C (i := 2) (pc' := 17) dX10_said_16 rfl rfl rfl ?_
      refine z_bipush C (pc' := 19) dX10_said_17 kb_99 rfl ?_
      refine z_icmp_gt C (pc' := 29) (pf := 22) dX10_said_19 rfl rfl (fun _ => ?_) (fun _ => ?_)
      ·
        refine z_ldc2 C (pc' := 32) dX10_said_29 wlRX10_206 kj_m9223372036854775808 rfl ?_
        exact z_lreturn C dX10_said_32
      ·
        refine z_iload_n C (i := 3) (pc' := 23) dX10_said_22 rfl rfl rfl ?_
        refine z_callS1 C (pc' := 26) lsRX10_182 lc_X10_isChoice rfl dX10_said_23 rfl (by decide) (rX10_isChoice l w x3 u3) rfl (Nat.le_of_ble_eq_true rfl) (fun v4 u5 => ?_)
        refine z_if_ne C (pc' := 33) (pf := 29) dX10_said_26 rfl rfl (fun _ => ?_) (fun _ => ?_)
        ·
          refine z_iload_n C (i := 2) (pc' := 34) dX10_said_33 rfl rfl rfl ?_
          refine z_i2l C (pc' := 35) dX10_said_34 rfl ?_
          refine z_aload_n C (i := 0) (pc' := 36) dX10_said_35 rfl rfl rfl ?_
          refine z_getfR C (pc' := 39) flRX10_42 dX10_said_36 rfl (fun v6 => ?_)
          refine z_iload_n C (i := 1) (pc' := 40) dX10_said_39 rfl rfl rfl ?_
          refine z_aload_n C (i := 0) (pc' := 41) dX10_said_40 rfl rfl rfl ?_
          refine z_getfR C (pc' := 44) flRX10_35 dX10_said_41 rfl (fun v7 => ?_)
          refine z_callV2 C (pc' := 47) lvRX10_208 lc_X1_chanceIfSaid rfl dX10_said_44 rfl (by decide) (rX1_chanceIfSaid l w v6 x1 v7 u5) rfl (Nat.le_of_ble_eq_true rfl) (fun v8 u9 => ?_)
          refine z_lmul C (pc' := 48) dX10_said_47 rfl ?_
          refine z_lstore C (i := 4) (la' := [(4, zL (zw64 (x2 * v8))), (0, zR x0), (1, zI x1), (2, zI x2), (3, zI x3)]) (pc' := 50) dX10_said_48 (by decide) rfl rfl ?_
          refine z_lload C (pc' := 52) dX10_said_50 rfl rfl ?_
          refine z_bipush C (pc' := 54) dX10_said_52 kb_100 rfl ?_
          refine z_iload_n C (i := 2) (pc' := 55) dX10_said_54 rfl rfl rfl ?_
          refine z_isub C (pc' := 56) dX10_said_55 rfl ?_
          refine z_i2l C (pc' := 57) dX10_said_56 rfl ?_
          refine z_aload_n C (i := 0) (pc' := 58) dX10_said_57 rfl rfl rfl ?_
          refine z_getfR C (pc' := 61) flRX10_42 dX10_said_58 rfl (fun v10 => ?_)
          refine z_iload_n C (i := 1) (pc' := 62) dX10_said_61 rfl rfl rfl ?_
          refine z_callV2 C (pc' := 65) lvRX10_212 lc_X1_chanceIfNot rfl dX10_said_62 rfl (by decide) (rX1_chanceIfNot l w v10 x1 u9) rfl (Nat.le_of_ble_eq_true rfl) (fun v11 u12 => ?_)
          refine z_lmul C (pc' := 66) dX10_said_65 rfl ?_
          refine z_ladd C (pc' := 67) dX10_said_66 rfl ?_
          refine z_lstore C (i := 6) (la' := [(6, zL (zw64 ((zw64 (x2 * v8)) + (zw64 ((zw32 (100 - x2)) * v11))))), (4, zL (zw64 (x2 * v8))), (0, zR x0), (1, zI x1), (2, zI x2), (3, zI x3)]) (pc' := 69) dX10_said_67 (by decide) rfl rfl ?_
          refine z_lload C (pc' := 71) dX10_said_69 rfl rfl ?_
          refine z_lload C (pc' := 73) dX10_said_71 rfl rfl ?_
          refine z_callS2 C (pc' := 76) lsRX10_216 lc_X10_commonDivisor rfl dX10_said_73 rfl (by decide) (rX10_commonDivisor l w (zw64 (x2 * v8)) (zw64 ((zw64 (x2 * v8)) + (zw64 ((zw32 (100 - x2)) * v11)))) u12) rfl (Nat.le_of_ble_eq_true rfl) (fun v13 u14 => ?_)
          refine z_lstore C (i := 8) (la' := [(8, zL v13), (6, zL (zw64 ((zw64 (x2 * v8)) + (zw64 ((zw32 (100 - x2)) * v11))))), (4, zL (zw64 (x2 * v8))), (0, zR x0), (1, zI x1), (2, zI x2), (3, zI x3)]) (pc' := 78) dX10_said_76 (by decide) rfl rfl ?_
          refine z_lload C (pc' := 80) dX10_said_78 rfl rfl ?_
          refine z_lconst C (pc' := 81) dX10_said_80 kl_0 rfl ?_
          refine z_lcmp C (pc' := 82) dX10_said_81 rfl ?_
          refine zjoin (P := fun (f : zMem → zRs) => ∀ (u15 : zMem), zSim G p l e R s m args below meth c w 10 (znc u0) (zM w 2 (znc u0) below args s) 92 [(3, zI x3)] [] u15 (f u15)) (fun u15 => ?_) (fun k16 hk16 => ?_)
          ·
            refine z_iload_n C (i := 3) (pc' := 93) dX10_said_92 rfl rfl rfl ?_
            refine z_i2l C (pc' := 94) dX10_said_93 rfl ?_
            exact z_lreturn C dX10_said_94
          ·
            refine z_if_eq C (pc' := 92) (pf := 85) dX10_said_82 rfl rfl (fun _ => ?_) (fun _ => ?_)
            ·
              exact zlocs (lb := [(3, zI x3)]) ⟨rfl, trivial⟩ (hk16 _)
            ·
              refine z_lload C (pc' := 87) dX10_said_85 rfl rfl ?_
              refine z_lconst C (pc' := 88) dX10_said_87 kl_0 rfl ?_
              refine z_lcmp C (pc' := 89) dX10_said_88 rfl ?_
              refine z_if_ne C (pc' := 95) (pf := 92) dX10_said_89 rfl rfl (fun _ => ?_) (fun _ => ?_)
              ·
                refine z_iload_n C (i := 3) (pc' := 96) dX10_said_95 rfl rfl rfl ?_
                refine z_if_ne C (pc' := 107) (pf := 99) dX10_said_96 rfl rfl (fun _ => ?_) (fun _ => ?_)
                ·
                  refine z_lload C (pc' := 109) dX10_said_107 rfl rfl ?_
                  refine z_lload C (pc' := 111) dX10_said_109 rfl rfl ?_
                  refine z_ldiv C (pc' := 112) dX10_said_111 rfl (fun _ => ?_)
                  exact z_lreturn C dX10_said_112
                ·
                  refine z_lload C (pc' := 101) dX10_said_99 rfl rfl ?_
                  refine z_lload C (pc' := 103) dX10_said_101 rfl rfl ?_
                  refine z_ldiv C (pc' := 104) dX10_said_103 rfl (fun _ => ?_)
                  refine z_goto C (pc' := 112) dX10_said_104 rfl ?_
                  exact z_lreturn C dX10_said_112
              ·
                exact zlocs (lb := [(3, zI x3)]) ⟨rfl, trivial⟩ (hk16 _)
        ·
          refine z_ldc2 C (pc' := 32) dX10_said_29 wlRX10_206 kj_m9223372036854775808 rfl ?_
          exact z_lreturn C dX10_said_32
def fX10_whose (x0 x1 : Int) (u0 : zMem) : zRs := zgf 10 4 x0 u0 (fun v1 => zvc 1 v1 (fX1_paper v1 x1 u0) (fun v2 u3 => if v2 ≠ -1 then (zgf 10 3 x0 u3 (fun v4 => zvc 3 v4 (fX3_isEmpty v4 u3) (fun v5 u6 => if v5 = 0 then (zgf 10 3 x0 u6 (fun v7 => zvc 3 v7 (fX3_likeliest v7 v2 u6) (fun v8 u9 => some (v8, u9)))) else (some ((-5), u6))))) else (some ((-1), u3))))
set_option maxRecDepth 100000 in
set_option maxHeartbeats 4000000 in
theorem rX10_whose (l : Launch) (w : zW) (x0 x1 : Int) (u0 : zMem) : zSpc l w 7 yX10_whose cX10_whose 3 (some .int) 1 [zR x0, zI x1] u0 (fX10_whose x0 x1 u0) := by
  refine zSpc_of (own := RX10) pnRX10 rfl (Nat.le_of_ble_eq_true rfl) (fun G p e R s m args below meth c C hini => ?_)
  unfold fX10_whose
  refine zlocs (lb := [(0, zR x0), (1, zI x1)]) ⟨rfl, rfl, trivial⟩ ?_
  refine z_aload_n C (i := 0) (pc' := 1) dX10_whose_0 rfl rfl rfl ?_
  refine z_getfR C (pc' := 4) flRX10_42 dX10_whose_1 rfl (fun v1 => ?_)
  refine z_iload_n C (i := 1) (pc' := 5) dX10_whose_4 rfl rfl rfl ?_
  refine z_callV3 C (pc' := 8) lvRX10_130 lc_X1_paper rfl dX10_whose_5 rfl (by decide) (rX1_paper l w v1 x1 u0) rfl (Nat.le_of_ble_eq_true rfl) (fun v2 u3 => ?_)
  refine z_astore_n C (i := 2) (la' := [(2, zR v2), (0, zR x0), (1, zI x1)]) (pc' := 9) dX10_whose_8 rfl (by decide) rfl rfl ?_
  refine z_aload_n C (i := 2) (pc' := 10) dX10_whose_9 rfl rfl rfl ?_
  refine z_ifnonnull C (pc' := 15) (pf := 13) dX10_whose_10 rfl rfl (fun _ => ?_) (fun _ => ?_)
  ·
    refine z_aload_n C (i := 0) (pc' := 16) dX10_whose_15 rfl rfl rfl ?_
    refine z_getfR C (pc' := 19) flRX10_35 dX10_whose_16 rfl (fun v4 => ?_)
    refine z_callV1 C (pc' := 22) lvRX10_220 lc_X3_isEmpty rfl dX10_whose_19 rfl (by decide) (rX3_isEmpty l w v4 u3) rfl (Nat.le_of_ble_eq_true rfl) (fun v5 u6 => ?_)
    refine z_if_eq C (pc' := 30) (pf := 25) dX10_whose_22 rfl rfl (fun _ => ?_) (fun _ => ?_)
    ·
      refine z_aload_n C (i := 0) (pc' := 31) dX10_whose_30 rfl rfl rfl ?_
      refine z_getfR C (pc' := 34) flRX10_35 dX10_whose_31 rfl (fun v7 => ?_)
      refine z_aload_n C (i := 2) (pc' := 35) dX10_whose_34 rfl rfl rfl ?_
      refine z_callV1 C (pc' := 38) lvRX10_223 lc_X3_likeliest rfl dX10_whose_35 rfl (by decide) (rX3_likeliest l w v7 v2 u6) rfl (Nat.le_of_ble_eq_true rfl) (fun v8 u9 => ?_)
      exact z_ireturn C dX10_whose_38
    ·
      refine z_bipush C (pc' := 27) dX10_whose_25 kb_m5 rfl ?_
      refine z_goto C (pc' := 38) dX10_whose_27 rfl ?_
      exact z_ireturn C dX10_whose_38
  ·
    refine z_iconst C (pc' := 14) dX10_whose_13 kc_m1 rfl ?_
    exact z_ireturn C dX10_whose_14
def fX10_learnt (x0 x1 x2 : Int) (u0 : zMem) : zRs := if x1 < 1 then (some ((-1), u0)) else (zgf 10 4 x0 u0 (fun v1 => zvc 1 v1 (fX1_size v1 u0) (fun v2 u3 => if x1 ≥ (zshl 1 v2) then (some ((-1), u3)) else (zcall (fX10_isChoice x2 u3) (fun v4 u5 => if v4 ≠ 0 then (zgf 10 3 x0 u5 (fun v6 => zvc 3 v6 (fX3_isEmpty v6 u5) (fun v7 u8 => if v7 = 0 then (zgf 10 3 x0 u8 (fun v9 => zgf 10 4 x0 u8 (fun v10 => zvc 3 v9 (fX3_leastOff v9 x1 v10 u8) (fun v11 u12 => if x2 ≠ 0 then (zgf 10 3 x0 u12 (fun v13 => zgf 10 4 x0 u12 (fun v14 => zvc 3 v13 (fX3_offOf v13 v11 x1 v14 u12) (fun v15 u16 => some (v15, u16))))) else (some (v11, u12)))))) else (some ((-5), u8))))) else (some ((-1), u5)))))))
set_option maxRecDepth 100000 in
set_option maxHeartbeats 4000000 in
theorem rX10_learnt (l : Launch) (w : zW) (x0 x1 x2 : Int) (u0 : zMem) : zSpc l w 7 yX10_learnt cX10_learnt 4 (some .int) 1 [zR x0, zI x1, zI x2] u0 (fX10_learnt x0 x1 x2 u0) := by
  refine zSpc_of (own := RX10) pnRX10 rfl (Nat.le_of_ble_eq_true rfl) (fun G p e R s m args below meth c C hini => ?_)
  unfold fX10_learnt
  refine zlocs (lb := [(0, zR x0), (1, zI x1), (2, zI x2)]) ⟨rfl, rfl, rfl, trivial⟩ ?_
  refine z_iload_n C (i := 1) (pc' := 1) dX10_learnt_0 rfl rfl rfl ?_
  refine z_iconst C (pc' := 2) dX10_learnt_1 kc_1 rfl ?_
  refine z_icmp_lt C (pc' := 25) (pf := 5) dX10_learnt_2 rfl rfl (fun _ => ?_) (fun _ => ?_)
  ·
    refine z_iconst C (pc' := 26) dX10_learnt_25 kc_m1 rfl ?_
    exact z_ireturn C dX10_learnt_26
  ·
    refine z_iload_n C (i := 1) (pc' := 6) dX10_learnt_5 rfl rfl rfl ?_
    refine z_iconst C (pc' := 7) dX10_learnt_6 kc_1 rfl ?_
    refine z_aload_n C (i := 0) (pc' := 8) dX10_learnt_7 rfl rfl rfl ?_
    refine z_getfR C (pc' := 11) flRX10_42 dX10_learnt_8 rfl (fun v1 => ?_)
    refine z_callV1 C (pc' := 14) lvRX10_227 lc_X1_size rfl dX10_learnt_11 rfl (by decide) (rX1_size l w v1 u0) rfl (Nat.le_of_ble_eq_true rfl) (fun v2 u3 => ?_)
    refine z_ishl C (pc' := 15) dX10_learnt_14 rfl ?_
    refine z_icmp_ge C (pc' := 25) (pf := 18) dX10_learnt_15 rfl rfl (fun _ => ?_) (fun _ => ?_)
    ·
      refine z_iconst C (pc' := 26) dX10_learnt_25 kc_m1 rfl ?_
      exact z_ireturn C dX10_learnt_26
    ·
      refine z_iload_n C (i := 2) (pc' := 19) dX10_learnt_18 rfl rfl rfl ?_
      refine z_callS1 C (pc' := 22) lsRX10_182 lc_X10_isChoice rfl dX10_learnt_19 rfl (by decide) (rX10_isChoice l w x2 u3) rfl (Nat.le_of_ble_eq_true rfl) (fun v4 u5 => ?_)
      refine z_if_ne C (pc' := 27) (pf := 25) dX10_learnt_22 rfl rfl (fun _ => ?_) (fun _ => ?_)
      ·
        refine z_aload_n C (i := 0) (pc' := 28) dX10_learnt_27 rfl rfl rfl ?_
        refine z_getfR C (pc' := 31) flRX10_35 dX10_learnt_28 rfl (fun v6 => ?_)
        refine z_callV1 C (pc' := 34) lvRX10_220 lc_X3_isEmpty rfl dX10_learnt_31 rfl (by decide) (rX3_isEmpty l w v6 u5) rfl (Nat.le_of_ble_eq_true rfl) (fun v7 u8 => ?_)
        refine z_if_eq C (pc' := 40) (pf := 37) dX10_learnt_34 rfl rfl (fun _ => ?_) (fun _ => ?_)
        ·
          refine z_aload_n C (i := 0) (pc' := 41) dX10_learnt_40 rfl rfl rfl ?_
          refine z_getfR C (pc' := 44) flRX10_35 dX10_learnt_41 rfl (fun v9 => ?_)
          refine z_iload_n C (i := 1) (pc' := 45) dX10_learnt_44 rfl rfl rfl ?_
          refine z_aload_n C (i := 0) (pc' := 46) dX10_learnt_45 rfl rfl rfl ?_
          refine z_getfR C (pc' := 49) flRX10_42 dX10_learnt_46 rfl (fun v10 => ?_)
          refine z_callV1 C (pc' := 52) lvRX10_228 lc_X3_leastOff rfl dX10_learnt_49 rfl (by decide) (rX3_leastOff l w v9 x1 v10 u8) rfl (Nat.le_of_ble_eq_true rfl) (fun v11 u12 => ?_)
          refine z_istore_n C (i := 3) (la' := [(3, zI v11), (0, zR x0), (1, zI x1), (2, zI x2)]) (pc' := 53) dX10_learnt_52 rfl (by decide) rfl rfl ?_
          refine z_iload_n C (i := 2) (pc' := 54) dX10_learnt_53 rfl rfl rfl ?_
          refine z_if_ne C (pc' := 61) (pf := 57) dX10_learnt_54 rfl rfl (fun _ => ?_) (fun _ => ?_)
          ·
            refine z_aload_n C (i := 0) (pc' := 62) dX10_learnt_61 rfl rfl rfl ?_
            refine z_getfR C (pc' := 65) flRX10_35 dX10_learnt_62 rfl (fun v13 => ?_)
            refine z_iload_n C (i := 3) (pc' := 66) dX10_learnt_65 rfl rfl rfl ?_
            refine z_iload_n C (i := 1) (pc' := 67) dX10_learnt_66 rfl rfl rfl ?_
            refine z_aload_n C (i := 0) (pc' := 68) dX10_learnt_67 rfl rfl rfl ?_
            refine z_getfR C (pc' := 71) flRX10_42 dX10_learnt_68 rfl (fun v14 => ?_)
            refine z_callV1 C (pc' := 74) lvRX10_232 lc_X3_offOf rfl dX10_learnt_71 rfl (by decide) (rX3_offOf l w v13 v11 x1 v14 u12) rfl (Nat.le_of_ble_eq_true rfl) (fun v15 u16 => ?_)
            exact z_ireturn C dX10_learnt_74
          ·
            refine z_iload_n C (i := 3) (pc' := 58) dX10_learnt_57 rfl rfl rfl ?_
            refine z_goto C (pc' := 74) dX10_learnt_58 rfl ?_
            exact z_ireturn C dX10_learnt_74
        ·
          refine z_bipush C (pc' := 39) dX10_learnt_37 kb_m5 rfl ?_
          exact z_ireturn C dX10_learnt_39
      ·
        refine z_iconst C (pc' := 26) dX10_learnt_25 kc_m1 rfl ?_
        exact z_ireturn C dX10_learnt_26
def fX10_asleep (x0 x1 x2 : Int) (u0 : zMem) : zRs := zgf 10 4 x0 u0 (fun v1 => zvc 1 v1 (fX1_paper v1 x1 u0) (fun v2 u3 => if v2 = -1 then (some ((-1), u3)) else (zcall (fX10_isChoice x2 u3) (fun v4 u5 => if v4 ≠ 0 then (zgf 10 4 x0 u5 (fun v6 => zvc 1 v6 (fX1_longestGap v6 v2 u5) (fun v7 u8 => if v7 ≥ 0 then (if x2 ≠ 0 then (zgf 10 4 x0 u8 (fun v9 => zvc 1 v9 (fX1_spanFrom v9 v2 v7 u8) (fun v10 u11 => some (v10, u11)))) else (zgf 10 0 x0 u8 (fun v12 => zvc 5 v12 (fX5_minute v12 v7 u8) (fun v13 u14 => some (v13, u14))))) else (some (0, u8))))) else (some ((-1), u5))))))
set_option maxRecDepth 100000 in
set_option maxHeartbeats 4000000 in
theorem rX10_asleep (l : Launch) (w : zW) (x0 x1 x2 : Int) (u0 : zMem) : zSpc l w 4 yX10_asleep cX10_asleep 5 (some .int) 1 [zR x0, zI x1, zI x2] u0 (fX10_asleep x0 x1 x2 u0) := by
  refine zSpc_of (own := RX10) pnRX10 rfl (Nat.le_of_ble_eq_true rfl) (fun G p e R s m args below meth c C hini => ?_)
  unfold fX10_asleep
  refine zlocs (lb := [(0, zR x0), (1, zI x1), (2, zI x2)]) ⟨rfl, rfl, rfl, trivial⟩ ?_
  refine z_aload_n C (i := 0) (pc' := 1) dX10_asleep_0 rfl rfl rfl ?_
  refine z_getfR C (pc' := 4) flRX10_42 dX10_asleep_1 rfl (fun v1 => ?_)
  refine z_iload_n C (i := 1) (pc' := 5) dX10_asleep_4 rfl rfl rfl ?_
  refine z_callV3 C (pc' := 8) lvRX10_130 lc_X1_paper rfl dX10_asleep_5 rfl (by decide) (rX1_paper l w v1 x1 u0) rfl (Nat.le_of_ble_eq_true rfl) (fun v2 u3 => ?_)
  refine z_astore_n C (i := 3) (la' := [(3, zR v2), (0, zR x0), (1, zI x1), (2, zI x2)]) (pc' := 9) dX10_asleep_8 rfl (by decide) rfl rfl ?_
  refine z_aload_n C (i := 3) (pc' := 10) dX10_asleep_9 rfl rfl rfl ?_
  refine z_ifnull C (pc' := 20) (pf := 13) dX10_asleep_10 rfl rfl (fun _ => ?_) (fun _ => ?_)
  ·
    refine z_iconst C (pc' := 21) dX10_asleep_20 kc_m1 rfl ?_
    exact z_ireturn C dX10_asleep_21
  ·
    refine z_iload_n C (i := 2) (pc' := 14) dX10_asleep_13 rfl rfl rfl ?_
    refine z_callS1 C (pc' := 17) lsRX10_182 lc_X10_isChoice rfl dX10_asleep_14 rfl (by decide) (rX10_isChoice l w x2 u3) rfl (Nat.le_of_ble_eq_true rfl) (fun v4 u5 => ?_)
    refine z_if_ne C (pc' := 22) (pf := 20) dX10_asleep_17 rfl rfl (fun _ => ?_) (fun _ => ?_)
    ·
      refine z_aload_n C (i := 0) (pc' := 23) dX10_asleep_22 rfl rfl rfl ?_
      refine z_getfR C (pc' := 26) flRX10_42 dX10_asleep_23 rfl (fun v6 => ?_)
      refine z_aload_n C (i := 3) (pc' := 27) dX10_asleep_26 rfl rfl rfl ?_
      refine z_callV1 C (pc' := 30) lvRX10_236 lc_X1_longestGap rfl dX10_asleep_27 rfl (by decide) (rX1_longestGap l w v6 v2 u5) rfl (Nat.le_of_ble_eq_true rfl) (fun v7 u8 => ?_)
      refine z_istore C (i := 4) (la' := [(4, zI v7), (3, zR v2), (0, zR x0), (1, zI x1), (2, zI x2)]) (pc' := 32) dX10_asleep_30 (by decide) rfl rfl ?_
      refine z_iload C (pc' := 34) dX10_asleep_32 rfl rfl ?_
      refine z_if_ge C (pc' := 39) (pf := 37) dX10_asleep_34 rfl rfl (fun _ => ?_) (fun _ => ?_)
      ·
        refine z_iload_n C (i := 2) (pc' := 40) dX10_asleep_39 rfl rfl rfl ?_
        refine z_if_ne C (pc' := 55) (pf := 43) dX10_asleep_40 rfl rfl (fun _ => ?_) (fun _ => ?_)
        ·
          refine z_aload_n C (i := 0) (pc' := 56) dX10_asleep_55 rfl rfl rfl ?_
          refine z_getfR C (pc' := 59) flRX10_42 dX10_asleep_56 rfl (fun v9 => ?_)
          refine z_aload_n C (i := 3) (pc' := 60) dX10_asleep_59 rfl rfl rfl ?_
          refine z_iload C (pc' := 62) dX10_asleep_60 rfl rfl ?_
          refine z_callV1 C (pc' := 65) lvRX10_239 lc_X1_spanFrom rfl dX10_asleep_62 rfl (by decide) (rX1_spanFrom l w v9 v2 v7 u8) rfl (Nat.le_of_ble_eq_true rfl) (fun v10 u11 => ?_)
          exact z_ireturn C dX10_asleep_65
        ·
          refine z_aload_n C (i := 0) (pc' := 44) dX10_asleep_43 rfl rfl rfl ?_
          refine z_getfR C (pc' := 47) flRX10_10 dX10_asleep_44 rfl (fun v12 => ?_)
          refine z_iload C (pc' := 49) dX10_asleep_47 rfl rfl ?_
          refine z_callV1 C (pc' := 52) lvRX10_100 lc_X5_minute rfl dX10_asleep_49 rfl (by decide) (rX5_minute l w v12 v7 u8) rfl (Nat.le_of_ble_eq_true rfl) (fun v13 u14 => ?_)
          refine z_goto C (pc' := 65) dX10_asleep_52 rfl ?_
          exact z_ireturn C dX10_asleep_65
      ·
        refine z_iconst C (pc' := 38) dX10_asleep_37 kc_0 rfl ?_
        exact z_ireturn C dX10_asleep_38
    ·
      refine z_iconst C (pc' := 21) dX10_asleep_20 kc_m1 rfl ?_
      exact z_ireturn C dX10_asleep_21
def fX10_ask (x0 x1 : Int) (u0 : zMem) : zRs := zcall (fX10_isChoice x1 u0) (fun v1 u2 => if v1 ≠ 0 then (zgf 10 3 x0 u2 (fun v3 => zvc 3 v3 (fX3_size v3 u2) (fun v4 u5 => if v4 ≥ 2 then (zgf 10 3 x0 u5 (fun v6 => zvc 3 v6 (fX3_bestPair v6 u5) (fun v7 u8 => if x1 ≠ 0 then (zgf 10 3 x0 u8 (fun v9 => znz 10 (znz 10 (zvc 3 v9 (fX3_pairChance v9 (zw32 (Int.tdiv v7 10)) (Int.tmod v7 10) u8) (fun v10 u11 => some (v10, u11)))))) else (some (v7, u8))))) else (some ((-5), u5))))) else (some ((-1), u2)))
set_option maxRecDepth 100000 in
set_option maxHeartbeats 4000000 in
theorem rX10_ask (l : Launch) (w : zW) (x0 x1 : Int) (u0 : zMem) : zSpc l w 7 yX10_ask cX10_ask 3 (some .int) 1 [zR x0, zI x1] u0 (fX10_ask x0 x1 u0) := by
  refine zSpc_of (own := RX10) pnRX10 rfl (Nat.le_of_ble_eq_true rfl) (fun G p e R s m args below meth c C hini => ?_)
  unfold fX10_ask
  refine zlocs (lb := [(0, zR x0), (1, zI x1)]) ⟨rfl, rfl, trivial⟩ ?_
  refine z_iload_n C (i := 1) (pc' := 1) dX10_ask_0 rfl rfl rfl ?_
  refine z_callS1 C (pc' := 4) lsRX10_182 lc_X10_isChoice rfl dX10_ask_1 rfl (by decide) (rX10_isChoice l w x1 u0) rfl (Nat.le_of_ble_eq_true rfl) (fun v1 u2 => ?_)
  refine z_if_ne C (pc' := 9) (pf := 7) dX10_ask_4 rfl rfl (fun _ => ?_) (fun _ => ?_)
  ·
    refine z_aload_n C (i := 0) (pc' := 10) dX10_ask_9 rfl rfl rfl ?_
    refine z_getfR C (pc' := 13) flRX10_35 dX10_ask_10 rfl (fun v3 => ?_)
    refine z_callV1 C (pc' := 16) lvRX10_243 lc_X3_size rfl dX10_ask_13 rfl (by decide) (rX3_size l w v3 u2) rfl (Nat.le_of_ble_eq_true rfl) (fun v4 u5 => ?_)
    refine z_iconst C (pc' := 17) dX10_ask_16 kc_2 rfl ?_
    refine z_icmp_ge C (pc' := 23) (pf := 20) dX10_ask_17 rfl rfl (fun _ => ?_) (fun _ => ?_)
    ·
      refine z_aload_n C (i := 0) (pc' := 24) dX10_ask_23 rfl rfl rfl ?_
      refine z_getfR C (pc' := 27) flRX10_35 dX10_ask_24 rfl (fun v6 => ?_)
      refine z_callV1 C (pc' := 30) lvRX10_244 lc_X3_bestPair rfl dX10_ask_27 rfl (by decide) (rX3_bestPair l w v6 u5) rfl (Nat.le_of_ble_eq_true rfl) (fun v7 u8 => ?_)
      refine z_istore_n C (i := 2) (la' := [(2, zI v7), (0, zR x0), (1, zI x1)]) (pc' := 31) dX10_ask_30 rfl (by decide) rfl rfl ?_
      refine z_iload_n C (i := 1) (pc' := 32) dX10_ask_31 rfl rfl rfl ?_
      refine z_if_ne C (pc' := 39) (pf := 35) dX10_ask_32 rfl rfl (fun _ => ?_) (fun _ => ?_)
      ·
        refine z_aload_n C (i := 0) (pc' := 40) dX10_ask_39 rfl rfl rfl ?_
        refine z_getfR C (pc' := 43) flRX10_35 dX10_ask_40 rfl (fun v9 => ?_)
        refine z_iload_n C (i := 2) (pc' := 44) dX10_ask_43 rfl rfl rfl ?_
        refine z_bipush C (pc' := 46) dX10_ask_44 kb_10 rfl ?_
        refine z_idiv C (pc' := 47) dX10_ask_46 rfl (fun _ => ?_)
        refine z_iload_n C (i := 2) (pc' := 48) dX10_ask_47 rfl rfl rfl ?_
        refine z_bipush C (pc' := 50) dX10_ask_48 kb_10 rfl ?_
        refine z_irem C (pc' := 51) dX10_ask_50 rfl (fun _ => ?_)
        refine z_callV1 C (pc' := 54) lvRX10_247 lc_X3_pairChance rfl dX10_ask_51 rfl (by decide) (rX3_pairChance l w v9 (zw32 (Int.tdiv v7 10)) (Int.tmod v7 10) u8) rfl (Nat.le_of_ble_eq_true rfl) (fun v10 u11 => ?_)
        exact z_ireturn C dX10_ask_54
      ·
        refine z_iload_n C (i := 2) (pc' := 36) dX10_ask_35 rfl rfl rfl ?_
        refine z_goto C (pc' := 54) dX10_ask_36 rfl ?_
        exact z_ireturn C dX10_ask_54
    ·
      refine z_bipush C (pc' := 22) dX10_ask_20 kb_m5 rfl ?_
      exact z_ireturn C dX10_ask_22
  ·
    refine z_iconst C (pc' := 8) dX10_ask_7 kc_m1 rfl ?_
    exact z_ireturn C dX10_ask_8
def fX10_years (x0 x1 x2 : Int) (u0 : zMem) : zRs := zgf 10 3 x0 u0 (fun v1 => zvc 3 v1 (fX3_has v1 x1 u0) (fun v2 u3 => if v2 = 0 then (some ((-1), u3)) else (if x2 < 0 then (some ((-1), u3)) else (if x2 ≤ 99 then (zlp (fun _ _ _ => none) (fun k7 (v4 : Int) (v5 : Int) (u6 : zMem) => zgf 10 0 x0 u6 (fun v8 => zvc 5 v8 (fX5_size v8 u6) (fun v9 u10 => if v5 ≥ v9 then (some (v4, u10)) else (zgf 10 3 x0 u10 (fun v11 => zvc 3 v11 (fX3_heedOf v11 x1 v5 u10) (fun v12 u13 => znz 100 (k7 (zw32 (v4 + (zw32 (Int.tdiv (zw32 (v12 * (zw32 (100 - x2)))) 100)))) (zw32 (v5 + 1)) u13))))))) 1000000 0 0 u3) else (some ((-1), u3))))))
set_option maxRecDepth 100000 in
set_option maxHeartbeats 4000000 in
theorem rX10_years (l : Launch) (w : zW) (x0 x1 x2 : Int) (u0 : zMem) : zSpc l w 5 yX10_years cX10_years 5 (some .int) 1 [zR x0, zI x1, zI x2] u0 (fX10_years x0 x1 x2 u0) := by
  refine zSpc_of (own := RX10) pnRX10 rfl (Nat.le_of_ble_eq_true rfl) (fun G p e R s m args below meth c C hini => ?_)
  unfold fX10_years
  refine zlocs (lb := [(0, zR x0), (1, zI x1), (2, zI x2)]) ⟨rfl, rfl, rfl, trivial⟩ ?_
  refine z_aload_n C (i := 0) (pc' := 1) dX10_years_0 rfl rfl rfl ?_
  refine z_getfR C (pc' := 4) flRX10_35 dX10_years_1 rfl (fun v1 => ?_)
  refine z_iload_n C (i := 1) (pc' := 5) dX10_years_4 rfl rfl rfl ?_
  refine z_callV1 C (pc' := 8) lvRX10_123 lc_X3_has rfl dX10_years_5 rfl (by decide) (rX3_has l w v1 x1 u0) rfl (Nat.le_of_ble_eq_true rfl) (fun v2 u3 => ?_)
  refine z_if_eq C (pc' := 21) (pf := 11) dX10_years_8 rfl rfl (fun _ => ?_) (fun _ => ?_)
  ·
    refine z_iconst C (pc' := 22) dX10_years_21 kc_m1 rfl ?_
    exact z_ireturn C dX10_years_22
  ·
    refine z_iload_n C (i := 2) (pc' := 12) dX10_years_11 rfl rfl rfl ?_
    refine z_if_lt C (pc' := 21) (pf := 15) dX10_years_12 rfl rfl (fun _ => ?_) (fun _ => ?_)
    ·
      refine z_iconst C (pc' := 22) dX10_years_21 kc_m1 rfl ?_
      exact z_ireturn C dX10_years_22
    ·
      refine z_iload_n C (i := 2) (pc' := 16) dX10_years_15 rfl rfl rfl ?_
      refine z_bipush C (pc' := 18) dX10_years_16 kb_99 rfl ?_
      refine z_icmp_le C (pc' := 23) (pf := 21) dX10_years_18 rfl rfl (fun _ => ?_) (fun _ => ?_)
      ·
        refine z_iconst C (pc' := 24) dX10_years_23 kc_0 rfl ?_
        refine z_istore_n C (i := 3) (la' := [(3, zI 0), (0, zR x0), (1, zI x1), (2, zI x2)]) (pc' := 25) dX10_years_24 rfl (by decide) rfl rfl ?_
        refine z_iconst C (pc' := 26) dX10_years_25 kc_0 rfl ?_
        refine z_istore C (i := 4) (la' := [(4, zI 0), (3, zI 0), (0, zR x0), (1, zI x1), (2, zI x2)]) (pc' := 28) dX10_years_26 (by decide) rfl rfl ?_
        refine zlocs (lb := [(0, zR x0), (1, zI x1), (2, zI x2), (3, zI 0), (4, zI 0)]) ⟨rfl, rfl, rfl, rfl, rfl, trivial⟩ ?_
        refine zlp_ind (fun (f : Int → Int → zMem → zRs) => ∀ (v4 : Int) (v5 : Int) (u6 : zMem), zSim G p l e R s m args below meth c w 5 (znc u0) (zM w 1 (znc u0) below args s) 28 [(0, zR x0), (1, zI x1), (2, zI x2), (3, zI v4), (4, zI v5)] [] u6 (f v4 v5 u6)) (fun _ _ _ => znone) (fun k7 hk7 v4 v5 u6 => ?_) _ _ _ _
        refine z_iload C (pc' := 30) dX10_years_28 rfl rfl ?_
        refine z_aload_n C (i := 0) (pc' := 31) dX10_years_30 rfl rfl rfl ?_
        refine z_getfR C (pc' := 34) flRX10_10 dX10_years_31 rfl (fun v8 => ?_)
        refine z_callV1 C (pc' := 37) lvRX10_138 lc_X5_size rfl dX10_years_34 rfl (by decide) (rX5_size l w v8 u6) rfl (Nat.le_of_ble_eq_true rfl) (fun v9 u10 => ?_)
        refine z_icmp_ge C (pc' := 67) (pf := 40) dX10_years_37 rfl rfl (fun _ => ?_) (fun _ => ?_)
        ·
          refine z_iload_n C (i := 3) (pc' := 68) dX10_years_67 rfl rfl rfl ?_
          exact z_ireturn C dX10_years_68
        ·
          refine z_iload_n C (i := 3) (pc' := 41) dX10_years_40 rfl rfl rfl ?_
          refine z_aload_n C (i := 0) (pc' := 42) dX10_years_41 rfl rfl rfl ?_
          refine z_getfR C (pc' := 45) flRX10_35 dX10_years_42 rfl (fun v11 => ?_)
          refine z_iload_n C (i := 1) (pc' := 46) dX10_years_45 rfl rfl rfl ?_
          refine z_iload C (pc' := 48) dX10_years_46 rfl rfl ?_
          refine z_callV1 C (pc' := 51) lvRX10_124 lc_X3_heedOf rfl dX10_years_48 rfl (by decide) (rX3_heedOf l w v11 x1 v5 u10) rfl (Nat.le_of_ble_eq_true rfl) (fun v12 u13 => ?_)
          refine z_bipush C (pc' := 53) dX10_years_51 kb_100 rfl ?_
          refine z_iload_n C (i := 2) (pc' := 54) dX10_years_53 rfl rfl rfl ?_
          refine z_isub C (pc' := 55) dX10_years_54 rfl ?_
          refine z_imul C (pc' := 56) dX10_years_55 rfl ?_
          refine z_bipush C (pc' := 58) dX10_years_56 kb_100 rfl ?_
          refine z_idiv C (pc' := 59) dX10_years_58 rfl (fun _ => ?_)
          refine z_iadd C (pc' := 60) dX10_years_59 rfl ?_
          refine z_istore_n C (i := 3) (la' := [(3, zI (zw32 (v4 + (zw32 (Int.tdiv (zw32 (v12 * (zw32 (100 - x2)))) 100))))), (0, zR x0), (1, zI x1), (2, zI x2), (4, zI v5)]) (pc' := 61) dX10_years_60 rfl (by decide) rfl rfl ?_
          refine z_iinc C (i := 4) (la' := [(4, zI (zw32 (v5 + 1))), (3, zI (zw32 (v4 + (zw32 (Int.tdiv (zw32 (v12 * (zw32 (100 - x2)))) 100))))), (0, zR x0), (1, zI x1), (2, zI x2)]) (pc' := 64) dX10_years_61 rfl (by decide) rfl rfl ?_
          refine z_goto C (pc' := 28) dX10_years_64 rfl ?_
          exact zlocs (lb := [(0, zR x0), (1, zI x1), (2, zI x2), (3, zI (zw32 (v4 + (zw32 (Int.tdiv (zw32 (v12 * (zw32 (100 - x2)))) 100))))), (4, zI (zw32 (v5 + 1)))]) ⟨rfl, rfl, rfl, rfl, rfl, trivial⟩ (hk7 _ _ _)
      ·
        refine z_iconst C (pc' := 22) dX10_years_21 kc_m1 rfl ?_
        exact z_ireturn C dX10_years_22
def fX10_undo (x0 : Int) (u0 : zMem) : zRs := zgf 10 1 x0 u0 (fun v1 => zgf 10 0 x0 u0 (fun v2 => zvc 2 v1 (fX2_stepBack v1 v2 u0) (fun v3 u4 => if v3 = 0 then (some ((-5), u4)) else (zgf 10 1 x0 u4 (fun v5 => zvc 2 v5 (fX2_done v5 u4) (fun v6 u7 => some (v6, u7)))))))
set_option maxRecDepth 100000 in
set_option maxHeartbeats 4000000 in
theorem rX10_undo (l : Launch) (w : zW) (x0 : Int) (u0 : zMem) : zSpc l w 4 yX10_undo cX10_undo 1 (some .int) 1 [zR x0] u0 (fX10_undo x0 u0) := by
  refine zSpc_of (own := RX10) pnRX10 rfl (Nat.le_of_ble_eq_true rfl) (fun G p e R s m args below meth c C hini => ?_)
  unfold fX10_undo
  refine zlocs (lb := [(0, zR x0)]) ⟨rfl, trivial⟩ ?_
  refine z_aload_n C (i := 0) (pc' := 1) dX10_undo_0 rfl rfl rfl ?_
  refine z_getfR C (pc' := 4) flRX10_19 dX10_undo_1 rfl (fun v1 => ?_)
  refine z_aload_n C (i := 0) (pc' := 5) dX10_undo_4 rfl rfl rfl ?_
  refine z_getfR C (pc' := 8) flRX10_10 dX10_undo_5 rfl (fun v2 => ?_)
  refine z_callV1 C (pc' := 11) lvRX10_250 lc_X2_stepBack rfl dX10_undo_8 rfl (by decide) (rX2_stepBack l w v1 v2 u0) rfl (Nat.le_of_ble_eq_true rfl) (fun v3 u4 => ?_)
  refine z_if_eq C (pc' := 24) (pf := 14) dX10_undo_11 rfl rfl (fun _ => ?_) (fun _ => ?_)
  ·
    refine z_bipush C (pc' := 26) dX10_undo_24 kb_m5 rfl ?_
    exact z_ireturn C dX10_undo_26
  ·
    refine z_aload_n C (i := 0) (pc' := 15) dX10_undo_14 rfl rfl rfl ?_
    refine z_getfR C (pc' := 18) flRX10_19 dX10_undo_15 rfl (fun v5 => ?_)
    refine z_callV1 C (pc' := 21) lvRX10_254 lc_X2_done rfl dX10_undo_18 rfl (by decide) (rX2_done l w v5 u4) rfl (Nat.le_of_ble_eq_true rfl) (fun v6 u7 => ?_)
    refine z_goto C (pc' := 26) dX10_undo_21 rfl ?_
    exact z_ireturn C dX10_undo_26
def fX10_redo (x0 : Int) (u0 : zMem) : zRs := zgf 10 1 x0 u0 (fun v1 => zgf 10 0 x0 u0 (fun v2 => zvc 2 v1 (fX2_stepOn v1 v2 u0) (fun v3 u4 => if v3 = 0 then (some ((-5), u4)) else (zgf 10 1 x0 u4 (fun v5 => zvc 2 v5 (fX2_undone v5 u4) (fun v6 u7 => some (v6, u7)))))))
set_option maxRecDepth 100000 in
set_option maxHeartbeats 4000000 in
theorem rX10_redo (l : Launch) (w : zW) (x0 : Int) (u0 : zMem) : zSpc l w 4 yX10_redo cX10_redo 1 (some .int) 1 [zR x0] u0 (fX10_redo x0 u0) := by
  refine zSpc_of (own := RX10) pnRX10 rfl (Nat.le_of_ble_eq_true rfl) (fun G p e R s m args below meth c C hini => ?_)
  unfold fX10_redo
  refine zlocs (lb := [(0, zR x0)]) ⟨rfl, trivial⟩ ?_
  refine z_aload_n C (i := 0) (pc' := 1) dX10_redo_0 rfl rfl rfl ?_
  refine z_getfR C (pc' := 4) flRX10_19 dX10_redo_1 rfl (fun v1 => ?_)
  refine z_aload_n C (i := 0) (pc' := 5) dX10_redo_4 rfl rfl rfl ?_
  refine z_getfR C (pc' := 8) flRX10_10 dX10_redo_5 rfl (fun v2 => ?_)
  refine z_callV1 C (pc' := 11) lvRX10_257 lc_X2_stepOn rfl dX10_redo_8 rfl (by decide) (rX2_stepOn l w v1 v2 u0) rfl (Nat.le_of_ble_eq_true rfl) (fun v3 u4 => ?_)
  refine z_if_eq C (pc' := 24) (pf := 14) dX10_redo_11 rfl rfl (fun _ => ?_) (fun _ => ?_)
  ·
    refine z_bipush C (pc' := 26) dX10_redo_24 kb_m5 rfl ?_
    exact z_ireturn C dX10_redo_26
  ·
    refine z_aload_n C (i := 0) (pc' := 15) dX10_redo_14 rfl rfl rfl ?_
    refine z_getfR C (pc' := 18) flRX10_19 dX10_redo_15 rfl (fun v5 => ?_)
    refine z_callV1 C (pc' := 21) lvRX10_260 lc_X2_undone rfl dX10_redo_18 rfl (by decide) (rX2_undone l w v5 u4) rfl (Nat.le_of_ble_eq_true rfl) (fun v6 u7 => ?_)
    refine z_goto C (pc' := 26) dX10_redo_21 rfl ?_
    exact z_ireturn C dX10_redo_26
def fX10_body (x0 x1 : Int) (u0 : zMem) : zRs := zcall (fX0_isKind x1 u0) (fun v1 u2 => if v1 ≠ 0 then (zgf 10 5 x0 u2 (fun v3 => zvc 0 v3 (fX0_admit v3 x1 u2) (fun v4 u5 => some (v4, u5)))) else (some ((-1), u2)))
set_option maxRecDepth 100000 in
set_option maxHeartbeats 4000000 in
theorem rX10_body (l : Launch) (w : zW) (x0 x1 : Int) (u0 : zMem) : zSpc l w 2 yX10_body cX10_body 2 (some .int) 1 [zR x0, zI x1] u0 (fX10_body x0 x1 u0) := by
  refine zSpc_of (own := RX10) pnRX10 rfl (Nat.le_of_ble_eq_true rfl) (fun G p e R s m args below meth c C hini => ?_)
  unfold fX10_body
  refine zlocs (lb := [(0, zR x0), (1, zI x1)]) ⟨rfl, rfl, trivial⟩ ?_
  refine z_iload_n C (i := 1) (pc' := 1) dX10_body_0 rfl rfl rfl ?_
  refine z_callS1 C (pc' := 4) lsRX10_263 lc_X0_isKind rfl dX10_body_1 rfl (by decide) (rX0_isKind l w x1 u0) rfl (Nat.le_of_ble_eq_true rfl) (fun v1 u2 => ?_)
  refine z_if_ne C (pc' := 9) (pf := 7) dX10_body_4 rfl rfl (fun _ => ?_) (fun _ => ?_)
  ·
    refine z_aload_n C (i := 0) (pc' := 10) dX10_body_9 rfl rfl rfl ?_
    refine z_getfR C (pc' := 13) flRX10_49 dX10_body_10 rfl (fun v3 => ?_)
    refine z_iload_n C (i := 1) (pc' := 14) dX10_body_13 rfl rfl rfl ?_
    refine z_callV1 C (pc' := 17) lvRX10_266 lc_X0_admit rfl dX10_body_14 rfl (by decide) (rX0_admit l w v3 x1 u2) rfl (Nat.le_of_ble_eq_true rfl) (fun v4 u5 => ?_)
    exact z_ireturn C dX10_body_17
  ·
    refine z_iconst C (pc' := 8) dX10_body_7 kc_m1 rfl ?_
    exact z_ireturn C dX10_body_8
def fX10_act (x0 x1 x2 x3 : Int) (u0 : zMem) : zRs := zgf 10 5 x0 u0 (fun v1 => zvc 0 v1 (fX0_begin v1 x1 x2 x3 u0) (fun v2 u3 => some (v2, u3)))
set_option maxRecDepth 100000 in
set_option maxHeartbeats 4000000 in
theorem rX10_act (l : Launch) (w : zW) (x0 x1 x2 x3 : Int) (u0 : zMem) : zSpc l w 205 yX10_act cX10_act 4 (some .int) 1 [zR x0, zI x1, zI x2, zI x3] u0 (fX10_act x0 x1 x2 x3 u0) := by
  refine zSpc_of (own := RX10) pnRX10 rfl (Nat.le_of_ble_eq_true rfl) (fun G p e R s m args below meth c C hini => ?_)
  unfold fX10_act
  refine zlocs (lb := [(0, zR x0), (1, zI x1), (2, zI x2), (3, zI x3)]) ⟨rfl, rfl, rfl, rfl, trivial⟩ ?_
  refine z_aload_n C (i := 0) (pc' := 1) dX10_act_0 rfl rfl rfl ?_
  refine z_getfR C (pc' := 4) flRX10_49 dX10_act_1 rfl (fun v1 => ?_)
  refine z_iload_n C (i := 1) (pc' := 5) dX10_act_4 rfl rfl rfl ?_
  refine z_iload_n C (i := 2) (pc' := 6) dX10_act_5 rfl rfl rfl ?_
  refine z_iload_n C (i := 3) (pc' := 7) dX10_act_6 rfl rfl rfl ?_
  refine z_callV1 C (pc' := 10) lvRX10_268 lc_X0_begin rfl dX10_act_7 rfl (by decide) (rX0_begin l w v1 x1 x2 x3 u0) rfl (Nat.le_of_ble_eq_true rfl) (fun v2 u3 => ?_)
  exact z_ireturn C dX10_act_10
def fX10_trace (x0 x1 : Int) (u0 : zMem) : zRs := zgf 10 5 x0 u0 (fun v1 => zvc 0 v1 (fX0_traced v1 x1 u0) (fun v2 u3 => some (v2, u3)))
set_option maxRecDepth 100000 in
set_option maxHeartbeats 4000000 in
theorem rX10_trace (l : Launch) (w : zW) (x0 x1 : Int) (u0 : zMem) : zSpc l w 2 yX10_trace cX10_trace 2 (some .int) 1 [zR x0, zI x1] u0 (fX10_trace x0 x1 u0) := by
  refine zSpc_of (own := RX10) pnRX10 rfl (Nat.le_of_ble_eq_true rfl) (fun G p e R s m args below meth c C hini => ?_)
  unfold fX10_trace
  refine zlocs (lb := [(0, zR x0), (1, zI x1)]) ⟨rfl, rfl, trivial⟩ ?_
  refine z_aload_n C (i := 0) (pc' := 1) dX10_trace_0 rfl rfl rfl ?_
  refine z_getfR C (pc' := 4) flRX10_49 dX10_trace_1 rfl (fun v1 => ?_)
  refine z_iload_n C (i := 1) (pc' := 5) dX10_trace_4 rfl rfl rfl ?_
  refine z_callV1 C (pc' := 8) lvRX10_272 lc_X0_traced rfl dX10_trace_5 rfl (by decide) (rX0_traced l w v1 x1 u0) rfl (Nat.le_of_ble_eq_true rfl) (fun v2 u3 => ?_)
  exact z_ireturn C dX10_trace_8
def fX10_keep (x0 x1 x2 : Int) (u0 : zMem) : zRs := zcall (fX10_isShelf x1 u0) (fun v1 u2 => if v1 = 0 then (some ((-1), u2)) else (zjn (fun (u3 : zMem) => zgf 10 6 x0 u3 (fun v5 => zald 23 v5 x1 u3 (fun v6 => zvc 8 v6 (fX8_holdBody v6 x2 u3) (fun _ u7 => some (1, u7))))) (fun k4 => if x2 = (-1) then (k4 u2) else (zgf 10 5 x0 u2 (fun v8 => zvc 0 v8 (fX0_has v8 x2 u2) (fun v9 u10 => if v9 ≠ 0 then (k4 u10) else (some ((-1), u10))))))))
set_option maxRecDepth 100000 in
set_option maxHeartbeats 4000000 in
theorem rX10_keep (l : Launch) (w : zW) (x0 x1 x2 : Int) (u0 : zMem) : zSpc l w 2 yX10_keep cX10_keep 3 (some .int) 1 [zR x0, zI x1, zI x2] u0 (fX10_keep x0 x1 x2 u0) := by
  refine zSpc_of (own := RX10) pnRX10 rfl (Nat.le_of_ble_eq_true rfl) (fun G p e R s m args below meth c C hini => ?_)
  unfold fX10_keep
  refine zlocs (lb := [(0, zR x0), (1, zI x1), (2, zI x2)]) ⟨rfl, rfl, rfl, trivial⟩ ?_
  refine z_iload_n C (i := 1) (pc' := 1) dX10_keep_0 rfl rfl rfl ?_
  refine z_callS1 C (pc' := 4) lsRX10_64 lc_X10_isShelf rfl dX10_keep_1 rfl (by decide) (rX10_isShelf l w x1 u0) rfl (Nat.le_of_ble_eq_true rfl) (fun v1 u2 => ?_)
  refine z_if_eq C (pc' := 23) (pf := 7) dX10_keep_4 rfl rfl (fun _ => ?_) (fun _ => ?_)
  ·
    refine z_iconst C (pc' := 24) dX10_keep_23 kc_m1 rfl ?_
    exact z_ireturn C dX10_keep_24
  ·
    refine z_iload_n C (i := 2) (pc' := 8) dX10_keep_7 rfl rfl rfl ?_
    refine z_iconst C (pc' := 9) dX10_keep_8 kc_m1 rfl ?_
    refine zjoin (P := fun (f : zMem → zRs) => ∀ (u3 : zMem), zSim G p l e R s m args below meth c w 3 (znc u0) (zM w 1 (znc u0) below args s) 25 [(0, zR x0), (1, zI x1), (2, zI x2)] [] u3 (f u3)) (fun u3 => ?_) (fun k4 hk4 => ?_)
    ·
      refine z_aload_n C (i := 0) (pc' := 26) dX10_keep_25 rfl rfl rfl ?_
      refine z_getfR C (pc' := 29) flRX10_55 dX10_keep_26 rfl (fun v5 => ?_)
      refine z_iload_n C (i := 1) (pc' := 30) dX10_keep_29 rfl rfl rfl ?_
      refine z_aald C (pc' := 31) (by decide) dX10_keep_30 rfl (fun v6 => ?_)
      refine z_iload_n C (i := 2) (pc' := 32) dX10_keep_31 rfl rfl rfl ?_
      refine z_callV0 C (pc' := 35) lvRX10_276 lc_X8_holdBody rfl dX10_keep_32 rfl (by decide) (rX8_holdBody l w v6 x2 u3) rfl (Nat.le_of_ble_eq_true rfl) (fun _ u7 => ?_)
      refine z_iconst C (pc' := 36) dX10_keep_35 kc_1 rfl ?_
      exact z_ireturn C dX10_keep_36
    ·
      refine z_icmp_eq C (pc' := 25) (pf := 12) dX10_keep_9 rfl rfl (fun _ => ?_) (fun _ => ?_)
      ·
        exact zlocs (lb := [(0, zR x0), (1, zI x1), (2, zI x2)]) ⟨rfl, rfl, rfl, trivial⟩ (hk4 _)
      ·
        refine z_aload_n C (i := 0) (pc' := 13) dX10_keep_12 rfl rfl rfl ?_
        refine z_getfR C (pc' := 16) flRX10_49 dX10_keep_13 rfl (fun v8 => ?_)
        refine z_iload_n C (i := 2) (pc' := 17) dX10_keep_16 rfl rfl rfl ?_
        refine z_callV1 C (pc' := 20) lvRX10_275 lc_X0_has rfl dX10_keep_17 rfl (by decide) (rX0_has l w v8 x2 u2) rfl (Nat.le_of_ble_eq_true rfl) (fun v9 u10 => ?_)
        refine z_if_ne C (pc' := 25) (pf := 23) dX10_keep_20 rfl rfl (fun _ => ?_) (fun _ => ?_)
        ·
          exact zlocs (lb := [(0, zR x0), (1, zI x1), (2, zI x2)]) ⟨rfl, rfl, rfl, trivial⟩ (hk4 _)
        ·
          refine z_iconst C (pc' := 24) dX10_keep_23 kc_m1 rfl ?_
          exact z_ireturn C dX10_keep_24
def fX10_row (x0 x1 x2 x3 : Int) (u0 : zMem) : zRs := zcall (fX10_isShelf x1 u0) (fun v1 u2 => if v1 = 0 then (some ((-1), u2)) else (zcall (fX8_isRowSort x2 u2) (fun v3 u4 => if v3 = 0 then (some ((-1), u4)) else (if x3 ≤ 60 then (if x3 ≥ 0 then (zgf 10 6 x0 u4 (fun v5 => zald 23 v5 x1 u4 (fun v6 => zvc 8 v6 (fX8_holdRow v6 x2 x3 u4) (fun _ u7 => some (1, u7))))) else (some ((-14), u4))) else (some ((-1), u4))))))
set_option maxRecDepth 100000 in
set_option maxHeartbeats 4000000 in
theorem rX10_row (l : Launch) (w : zW) (x0 x1 x2 x3 : Int) (u0 : zMem) : zSpc l w 2 yX10_row cX10_row 4 (some .int) 1 [zR x0, zI x1, zI x2, zI x3] u0 (fX10_row x0 x1 x2 x3 u0) := by
  refine zSpc_of (own := RX10) pnRX10 rfl (Nat.le_of_ble_eq_true rfl) (fun G p e R s m args below meth c C hini => ?_)
  unfold fX10_row
  refine zlocs (lb := [(0, zR x0), (1, zI x1), (2, zI x2), (3, zI x3)]) ⟨rfl, rfl, rfl, rfl, trivial⟩ ?_
  refine z_iload_n C (i := 1) (pc' := 1) dX10_row_0 rfl rfl rfl ?_
  refine z_callS1 C (pc' := 4) lsRX10_64 lc_X10_isShelf rfl dX10_row_1 rfl (by decide) (rX10_isShelf l w x1 u0) rfl (Nat.le_of_ble_eq_true rfl) (fun v1 u2 => ?_)
  refine z_if_eq C (pc' := 20) (pf := 7) dX10_row_4 rfl rfl (fun _ => ?_) (fun _ => ?_)
  ·
    refine z_iconst C (pc' := 21) dX10_row_20 kc_m1 rfl ?_
    exact z_ireturn C dX10_row_21
  ·
    refine z_iload_n C (i := 2) (pc' := 8) dX10_row_7 rfl rfl rfl ?_
    refine z_callS1 C (pc' := 11) lsRX10_279 lc_X8_isRowSort rfl dX10_row_8 rfl (by decide) (rX8_isRowSort l w x2 u2) rfl (Nat.le_of_ble_eq_true rfl) (fun v3 u4 => ?_)
    refine z_if_eq C (pc' := 20) (pf := 14) dX10_row_11 rfl rfl (fun _ => ?_) (fun _ => ?_)
    ·
      refine z_iconst C (pc' := 21) dX10_row_20 kc_m1 rfl ?_
      exact z_ireturn C dX10_row_21
    ·
      refine z_iload_n C (i := 3) (pc' := 15) dX10_row_14 rfl rfl rfl ?_
      refine z_bipush C (pc' := 17) dX10_row_15 kb_60 rfl ?_
      refine z_icmp_le C (pc' := 22) (pf := 20) dX10_row_17 rfl rfl (fun _ => ?_) (fun _ => ?_)
      ·
        refine z_iload_n C (i := 3) (pc' := 23) dX10_row_22 rfl rfl rfl ?_
        refine z_if_ge C (pc' := 29) (pf := 26) dX10_row_23 rfl rfl (fun _ => ?_) (fun _ => ?_)
        ·
          refine z_aload_n C (i := 0) (pc' := 30) dX10_row_29 rfl rfl rfl ?_
          refine z_getfR C (pc' := 33) flRX10_55 dX10_row_30 rfl (fun v5 => ?_)
          refine z_iload_n C (i := 1) (pc' := 34) dX10_row_33 rfl rfl rfl ?_
          refine z_aald C (pc' := 35) (by decide) dX10_row_34 rfl (fun v6 => ?_)
          refine z_iload_n C (i := 2) (pc' := 36) dX10_row_35 rfl rfl rfl ?_
          refine z_iload_n C (i := 3) (pc' := 37) dX10_row_36 rfl rfl rfl ?_
          refine z_callV0 C (pc' := 40) lvRX10_282 lc_X8_holdRow rfl dX10_row_37 rfl (by decide) (rX8_holdRow l w v6 x2 x3 u4) rfl (Nat.le_of_ble_eq_true rfl) (fun _ u7 => ?_)
          refine z_iconst C (pc' := 41) dX10_row_40 kc_1 rfl ?_
          exact z_ireturn C dX10_row_41
        ·
          refine z_bipush C (pc' := 28) dX10_row_26 kb_m14 rfl ?_
          exact z_ireturn C dX10_row_28
      ·
        refine z_iconst C (pc' := 21) dX10_row_20 kc_m1 rfl ?_
        exact z_ireturn C dX10_row_21
def fX10_placeRefusal (x0 x1 x2 : Int) (u0 : zMem) : zRs := zcall (fX10_isShelf x1 u0) (fun v1 u2 => if v1 ≠ 0 then (zgf 10 6 x0 u2 (fun v3 => zald 23 v3 x1 u2 (fun v4 => zvc 8 v4 (fX8_isBare v4 u2) (fun v5 u6 => if v5 = 0 then (zgf 10 6 x0 u6 (fun v7 => zald 23 v7 x1 u6 (fun v8 => zvc 8 v8 (fX8_holdsRow v8 u6) (fun v9 u10 => if v9 ≠ 0 then (zgf 10 6 x0 u10 (fun v11 => zald 23 v11 x1 u10 (fun v12 => zvc 8 v12 (fX8_hasRange v12 x2 1 u10) (fun v13 u14 => if v13 = 0 then (some ((-13), u14)) else (some (0, u14)))))) else (some ((-12), u10)))))) else (some ((-11), u6)))))) else (some ((-1), u2)))
set_option maxRecDepth 100000 in
set_option maxHeartbeats 4000000 in
theorem rX10_placeRefusal (l : Launch) (w : zW) (x0 x1 x2 : Int) (u0 : zMem) : zSpc l w 2 yX10_placeRefusal cX10_placeRefusal 3 (some .int) 1 [zR x0, zI x1, zI x2] u0 (fX10_placeRefusal x0 x1 x2 u0) := by
  refine zSpc_of (own := RX10) pnRX10 rfl (Nat.le_of_ble_eq_true rfl) (fun G p e R s m args below meth c C hini => ?_)
  unfold fX10_placeRefusal
  refine zlocs (lb := [(0, zR x0), (1, zI x1), (2, zI x2)]) ⟨rfl, rfl, rfl, trivial⟩ ?_
  refine z_iload_n C (i := 1) (pc' := 1) dX10_placeRefusal_0 rfl rfl rfl ?_
  refine z_callS1 C (pc' := 4) lsRX10_64 lc_X10_isShelf rfl dX10_placeRefusal_1 rfl (by decide) (rX10_isShelf l w x1 u0) rfl (Nat.le_of_ble_eq_true rfl) (fun v1 u2 => ?_)
  refine z_if_ne C (pc' := 9) (pf := 7) dX10_placeRefusal_4 rfl rfl (fun _ => ?_) (fun _ => ?_)
  ·
    refine z_aload_n C (i := 0) (pc' := 10) dX10_placeRefusal_9 rfl rfl rfl ?_
    refine z_getfR C (pc' := 13) flRX10_55 dX10_placeRefusal_10 rfl (fun v3 => ?_)
    refine z_iload_n C (i := 1) (pc' := 14) dX10_placeRefusal_13 rfl rfl rfl ?_
    refine z_aald C (pc' := 15) (by decide) dX10_placeRefusal_14 rfl (fun v4 => ?_)
    refine z_callV1 C (pc' := 18) lvRX10_68 lc_X8_isBare rfl dX10_placeRefusal_15 rfl (by decide) (rX8_isBare l w v4 u2) rfl (Nat.le_of_ble_eq_true rfl) (fun v5 u6 => ?_)
    refine z_if_eq C (pc' := 24) (pf := 21) dX10_placeRefusal_18 rfl rfl (fun _ => ?_) (fun _ => ?_)
    ·
      refine z_aload_n C (i := 0) (pc' := 25) dX10_placeRefusal_24 rfl rfl rfl ?_
      refine z_getfR C (pc' := 28) flRX10_55 dX10_placeRefusal_25 rfl (fun v7 => ?_)
      refine z_iload_n C (i := 1) (pc' := 29) dX10_placeRefusal_28 rfl rfl rfl ?_
      refine z_aald C (pc' := 30) (by decide) dX10_placeRefusal_29 rfl (fun v8 => ?_)
      refine z_callV1 C (pc' := 33) lvRX10_295 lc_X8_holdsRow rfl dX10_placeRefusal_30 rfl (by decide) (rX8_holdsRow l w v8 u6) rfl (Nat.le_of_ble_eq_true rfl) (fun v9 u10 => ?_)
      refine z_if_ne C (pc' := 39) (pf := 36) dX10_placeRefusal_33 rfl rfl (fun _ => ?_) (fun _ => ?_)
      ·
        refine z_aload_n C (i := 0) (pc' := 40) dX10_placeRefusal_39 rfl rfl rfl ?_
        refine z_getfR C (pc' := 43) flRX10_55 dX10_placeRefusal_40 rfl (fun v11 => ?_)
        refine z_iload_n C (i := 1) (pc' := 44) dX10_placeRefusal_43 rfl rfl rfl ?_
        refine z_aald C (pc' := 45) (by decide) dX10_placeRefusal_44 rfl (fun v12 => ?_)
        refine z_iload_n C (i := 2) (pc' := 46) dX10_placeRefusal_45 rfl rfl rfl ?_
        refine z_iconst C (pc' := 47) dX10_placeRefusal_46 kc_1 rfl ?_
        refine z_callV1 C (pc' := 50) lvRX10_301 lc_X8_hasRange rfl dX10_placeRefusal_47 rfl (by decide) (rX8_hasRange l w v12 x2 1 u10) rfl (Nat.le_of_ble_eq_true rfl) (fun v13 u14 => ?_)
        refine z_if_eq C (pc' := 57) (pf := 53) dX10_placeRefusal_50 rfl rfl (fun _ => ?_) (fun _ => ?_)
        ·
          refine z_bipush C (pc' := 59) dX10_placeRefusal_57 kb_m13 rfl ?_
          exact z_ireturn C dX10_placeRefusal_59
        ·
          refine z_iconst C (pc' := 54) dX10_placeRefusal_53 kc_0 rfl ?_
          refine z_goto C (pc' := 59) dX10_placeRefusal_54 rfl ?_
          exact z_ireturn C dX10_placeRefusal_59
      ·
        refine z_bipush C (pc' := 38) dX10_placeRefusal_36 kb_m12 rfl ?_
        exact z_ireturn C dX10_placeRefusal_38
    ·
      refine z_bipush C (pc' := 23) dX10_placeRefusal_21 kb_m11 rfl ?_
      exact z_ireturn C dX10_placeRefusal_23
  ·
    refine z_iconst C (pc' := 8) dX10_placeRefusal_7 kc_m1 rfl ?_
    exact z_ireturn C dX10_placeRefusal_8
def fX10_put (x0 x1 x2 x3 : Int) (u0 : zMem) : zRs := zvc 10 x0 (fX10_placeRefusal x0 x1 x2 u0) (fun v1 u2 => if v1 = 0 then (zgf 10 6 x0 u2 (fun v3 => zald 23 v3 x1 u2 (fun v4 => zvc 8 v4 (fX8_set v4 x2 x3 u2) (fun _ u5 => some (1, u5))))) else (some (v1, u2)))
set_option maxRecDepth 100000 in
set_option maxHeartbeats 4000000 in
theorem rX10_put (l : Launch) (w : zW) (x0 x1 x2 x3 : Int) (u0 : zMem) : zSpc l w 3 yX10_put cX10_put 6 (some .int) 1 [zR x0, zI x1, zI x2, zL x3] u0 (fX10_put x0 x1 x2 x3 u0) := by
  refine zSpc_of (own := RX10) pnRX10 rfl (Nat.le_of_ble_eq_true rfl) (fun G p e R s m args below meth c C hini => ?_)
  unfold fX10_put
  refine zlocs (lb := [(0, zR x0), (1, zI x1), (2, zI x2), (3, zL x3)]) ⟨rfl, rfl, rfl, rfl, trivial⟩ ?_
  refine z_aload_n C (i := 0) (pc' := 1) dX10_put_0 rfl rfl rfl ?_
  refine z_iload_n C (i := 1) (pc' := 2) dX10_put_1 rfl rfl rfl ?_
  refine z_iload_n C (i := 2) (pc' := 3) dX10_put_2 rfl rfl rfl ?_
  refine z_callV1 C (pc' := 6) lvRX10_285 lc_X10_placeRefusal rfl dX10_put_3 rfl (by decide) (rX10_placeRefusal l w x0 x1 x2 u0) rfl (Nat.le_of_ble_eq_true rfl) (fun v1 u2 => ?_)
  refine z_istore C (i := 5) (la' := [(5, zI v1), (0, zR x0), (1, zI x1), (2, zI x2), (3, zL x3)]) (pc' := 8) dX10_put_6 (by decide) rfl rfl ?_
  refine z_iload C (pc' := 10) dX10_put_8 rfl rfl ?_
  refine z_if_eq C (pc' := 16) (pf := 13) dX10_put_10 rfl rfl (fun _ => ?_) (fun _ => ?_)
  ·
    refine z_aload_n C (i := 0) (pc' := 17) dX10_put_16 rfl rfl rfl ?_
    refine z_getfR C (pc' := 20) flRX10_55 dX10_put_17 rfl (fun v3 => ?_)
    refine z_iload_n C (i := 1) (pc' := 21) dX10_put_20 rfl rfl rfl ?_
    refine z_aald C (pc' := 22) (by decide) dX10_put_21 rfl (fun v4 => ?_)
    refine z_iload_n C (i := 2) (pc' := 23) dX10_put_22 rfl rfl rfl ?_
    refine z_lload_n C (i := 3) (pc' := 24) dX10_put_23 rfl rfl rfl ?_
    refine z_callV0 C (pc' := 27) lvRX10_288 lc_X8_set rfl dX10_put_24 rfl (by decide) (rX8_set l w v4 x2 x3 u2) rfl (Nat.le_of_ble_eq_true rfl) (fun _ u5 => ?_)
    refine z_iconst C (pc' := 28) dX10_put_27 kc_1 rfl ?_
    exact z_ireturn C dX10_put_28
  ·
    refine z_iload C (pc' := 15) dX10_put_13 rfl rfl ?_
    exact z_ireturn C dX10_put_15
def fX10_element (x0 x1 x2 : Int) (u0 : zMem) : zRs := zvc 10 x0 (fX10_placeRefusal x0 x1 x2 u0) (fun v1 u2 => if v1 = 0 then (zgf 10 6 x0 u2 (fun v3 => zald 23 v3 x1 u2 (fun v4 => zvc 8 v4 (fX8_at v4 x2 u2) (fun v5 u6 => some (v5, u6))))) else (some ((-9223372036854775808), u2)))
set_option maxRecDepth 100000 in
set_option maxHeartbeats 4000000 in
theorem rX10_element (l : Launch) (w : zW) (x0 x1 x2 : Int) (u0 : zMem) : zSpc l w 3 yX10_element cX10_element 3 (some .long) 2 [zR x0, zI x1, zI x2] u0 (fX10_element x0 x1 x2 u0) := by
  refine zSpc_of (own := RX10) pnRX10 rfl (Nat.le_of_ble_eq_true rfl) (fun G p e R s m args below meth c C hini => ?_)
  unfold fX10_element
  refine zlocs (lb := [(0, zR x0), (1, zI x1), (2, zI x2)]) ⟨rfl, rfl, rfl, trivial⟩ ?_
  refine z_aload_n C (i := 0) (pc' := 1) dX10_element_0 rfl rfl rfl ?_
  refine z_iload_n C (i := 1) (pc' := 2) dX10_element_1 rfl rfl rfl ?_
  refine z_iload_n C (i := 2) (pc' := 3) dX10_element_2 rfl rfl rfl ?_
  refine z_callV1 C (pc' := 6) lvRX10_285 lc_X10_placeRefusal rfl dX10_element_3 rfl (by decide) (rX10_placeRefusal l w x0 x1 x2 u0) rfl (Nat.le_of_ble_eq_true rfl) (fun v1 u2 => ?_)
  refine z_if_eq C (pc' := 15) (pf := 9) dX10_element_6 rfl rfl (fun _ => ?_) (fun _ => ?_)
  ·
    refine z_aload_n C (i := 0) (pc' := 16) dX10_element_15 rfl rfl rfl ?_
    refine z_getfR C (pc' := 19) flRX10_55 dX10_element_16 rfl (fun v3 => ?_)
    refine z_iload_n C (i := 1) (pc' := 20) dX10_element_19 rfl rfl rfl ?_
    refine z_aald C (pc' := 21) (by decide) dX10_element_20 rfl (fun v4 => ?_)
    refine z_iload_n C (i := 2) (pc' := 22) dX10_element_21 rfl rfl rfl ?_
    refine z_callV2 C (pc' := 25) lvRX10_292 lc_X8_at rfl dX10_element_22 rfl (by decide) (rX8_at l w v4 x2 u2) rfl (Nat.le_of_ble_eq_true rfl) (fun v5 u6 => ?_)
    exact z_lreturn C dX10_element_25
  ·
    refine z_ldc2 C (pc' := 12) dX10_element_9 wlRX10_206 kj_m9223372036854775808 rfl ?_
    refine z_goto C (pc' := 25) dX10_element_12 rfl ?_
    exact z_lreturn C dX10_element_25
def fX10_shift (x0 x1 x2 x3 x4 x5 : Int) (u0 : zMem) : zRs := zcall (fX10_isShelf x1 u0) (fun v1 u2 => if v1 = 0 then (some ((-1), u2)) else (zcall (fX10_isShelf x3 u2) (fun v3 u4 => if v3 ≠ 0 then (zgf 10 6 x0 u4 (fun v5 => zald 23 v5 x1 u4 (fun v6 => zgf 10 6 x0 u4 (fun v7 => zald 23 v7 x3 u4 (fun v8 => zvc 8 v6 (fX8_isBare v6 u4) (fun v9 u10 => if v9 ≠ 0 then (some ((-11), u10)) else (zvc 8 v8 (fX8_isBare v8 u10) (fun v11 u12 => if v11 = 0 then (zvc 8 v6 (fX8_holdsRow v6 u12) (fun v13 u14 => if v13 = 0 then (some ((-12), u14)) else (zvc 8 v8 (fX8_holdsRow v8 u14) (fun v15 u16 => if v15 = 0 then (some ((-12), u16)) else (zvc 8 v6 (fX8_sort v6 u16) (fun v17 u18 => zvc 8 v8 (fX8_sort v8 u18) (fun v19 u20 => if v17 = v19 then (zvc 8 v6 (fX8_hasRange v6 x2 x5 u20) (fun v21 u22 => if v21 = 0 then (some ((-13), u22)) else (zvc 8 v8 (fX8_hasRange v8 x4 x5 u22) (fun v23 u24 => if v23 ≠ 0 then (zvc 8 v6 (fX8_copyTo v6 x2 v8 x4 x5 u24) (fun _ u25 => some (x5, u25))) else (some ((-13), u24)))))) else (some ((-12), u20))))))))) else (some ((-11), u12)))))))))) else (some ((-1), u4)))))
set_option maxRecDepth 100000 in
set_option maxHeartbeats 4000000 in
theorem rX10_shift (l : Launch) (w : zW) (x0 x1 x2 x3 x4 x5 : Int) (u0 : zMem) : zSpc l w 3 yX10_shift cX10_shift 8 (some .int) 1 [zR x0, zI x1, zI x2, zI x3, zI x4, zI x5] u0 (fX10_shift x0 x1 x2 x3 x4 x5 u0) := by
  refine zSpc_of (own := RX10) pnRX10 rfl (Nat.le_of_ble_eq_true rfl) (fun G p e R s m args below meth c C hini => ?_)
  unfold fX10_shift
  refine zlocs (lb := [(0, zR x0), (1, zI x1), (2, zI x2), (3, zI x3), (4, zI x4), (5, zI x5)]) ⟨rfl, rfl, rfl, rfl, rfl, rfl, trivial⟩ ?_
  refine z_iload_n C (i := 1) (pc' := 1) dX10_shift_0 rfl rfl rfl ?_
  refine z_callS1 C (pc' := 4) lsRX10_64 lc_X10_isShelf rfl dX10_shift_1 rfl (by decide) (rX10_isShelf l w x1 u0) rfl (Nat.le_of_ble_eq_true rfl) (fun v1 u2 => ?_)
  refine z_if_eq C (pc' := 14) (pf := 7) dX10_shift_4 rfl rfl (fun _ => ?_) (fun _ => ?_)
  ·
    refine z_iconst C (pc' := 15) dX10_shift_14 kc_m1 rfl ?_
    exact z_ireturn C dX10_shift_15
  ·
    refine z_iload_n C (i := 3) (pc' := 8) dX10_shift_7 rfl rfl rfl ?_
    refine z_callS1 C (pc' := 11) lsRX10_64 lc_X10_isShelf rfl dX10_shift_8 rfl (by decide) (rX10_isShelf l w x3 u2) rfl (Nat.le_of_ble_eq_true rfl) (fun v3 u4 => ?_)
    refine z_if_ne C (pc' := 16) (pf := 14) dX10_shift_11 rfl rfl (fun _ => ?_) (fun _ => ?_)
    ·
      refine z_aload_n C (i := 0) (pc' := 17) dX10_shift_16 rfl rfl rfl ?_
      refine z_getfR C (pc' := 20) flRX10_55 dX10_shift_17 rfl (fun v5 => ?_)
      refine z_iload_n C (i := 1) (pc' := 21) dX10_shift_20 rfl rfl rfl ?_
      refine z_aald C (pc' := 22) (by decide) dX10_shift_21 rfl (fun v6 => ?_)
      refine z_astore C (i := 6) (la' := [(6, zR v6), (0, zR x0), (1, zI x1), (2, zI x2), (3, zI x3), (4, zI x4), (5, zI x5)]) (pc' := 24) dX10_shift_22 (by decide) rfl rfl ?_
      refine z_aload_n C (i := 0) (pc' := 25) dX10_shift_24 rfl rfl rfl ?_
      refine z_getfR C (pc' := 28) flRX10_55 dX10_shift_25 rfl (fun v7 => ?_)
      refine z_iload_n C (i := 3) (pc' := 29) dX10_shift_28 rfl rfl rfl ?_
      refine z_aald C (pc' := 30) (by decide) dX10_shift_29 rfl (fun v8 => ?_)
      refine z_astore C (i := 7) (la' := [(7, zR v8), (6, zR v6), (0, zR x0), (1, zI x1), (2, zI x2), (3, zI x3), (4, zI x4), (5, zI x5)]) (pc' := 32) dX10_shift_30 (by decide) rfl rfl ?_
      refine z_aload C (pc' := 34) dX10_shift_32 rfl rfl ?_
      refine z_callV1 C (pc' := 37) lvRX10_68 lc_X8_isBare rfl dX10_shift_34 rfl (by decide) (rX8_isBare l w v6 u4) rfl (Nat.le_of_ble_eq_true rfl) (fun v9 u10 => ?_)
      refine z_if_ne C (pc' := 48) (pf := 40) dX10_shift_37 rfl rfl (fun _ => ?_) (fun _ => ?_)
      ·
        refine z_bipush C (pc' := 50) dX10_shift_48 kb_m11 rfl ?_
        exact z_ireturn C dX10_shift_50
      ·
        refine z_aload C (pc' := 42) dX10_shift_40 rfl rfl ?_
        refine z_callV1 C (pc' := 45) lvRX10_68 lc_X8_isBare rfl dX10_shift_42 rfl (by decide) (rX8_isBare l w v8 u10) rfl (Nat.le_of_ble_eq_true rfl) (fun v11 u12 => ?_)
        refine z_if_eq C (pc' := 51) (pf := 48) dX10_shift_45 rfl rfl (fun _ => ?_) (fun _ => ?_)
        ·
          refine z_aload C (pc' := 53) dX10_shift_51 rfl rfl ?_
          refine z_callV1 C (pc' := 56) lvRX10_295 lc_X8_holdsRow rfl dX10_shift_53 rfl (by decide) (rX8_holdsRow l w v6 u12) rfl (Nat.le_of_ble_eq_true rfl) (fun v13 u14 => ?_)
          refine z_if_eq C (pc' := 80) (pf := 59) dX10_shift_56 rfl rfl (fun _ => ?_) (fun _ => ?_)
          ·
            refine z_bipush C (pc' := 82) dX10_shift_80 kb_m12 rfl ?_
            exact z_ireturn C dX10_shift_82
          ·
            refine z_aload C (pc' := 61) dX10_shift_59 rfl rfl ?_
            refine z_callV1 C (pc' := 64) lvRX10_295 lc_X8_holdsRow rfl dX10_shift_61 rfl (by decide) (rX8_holdsRow l w v8 u14) rfl (Nat.le_of_ble_eq_true rfl) (fun v15 u16 => ?_)
            refine z_if_eq C (pc' := 80) (pf := 67) dX10_shift_64 rfl rfl (fun _ => ?_) (fun _ => ?_)
            ·
              refine z_bipush C (pc' := 82) dX10_shift_80 kb_m12 rfl ?_
              exact z_ireturn C dX10_shift_82
            ·
              refine z_aload C (pc' := 69) dX10_shift_67 rfl rfl ?_
              refine z_callV1 C (pc' := 72) lvRX10_298 lc_X8_sort rfl dX10_shift_69 rfl (by decide) (rX8_sort l w v6 u16) rfl (Nat.le_of_ble_eq_true rfl) (fun v17 u18 => ?_)
              refine z_aload C (pc' := 74) dX10_shift_72 rfl rfl ?_
              refine z_callV1 C (pc' := 77) lvRX10_298 lc_X8_sort rfl dX10_shift_74 rfl (by decide) (rX8_sort l w v8 u18) rfl (Nat.le_of_ble_eq_true rfl) (fun v19 u20 => ?_)
              refine z_icmp_eq C (pc' := 83) (pf := 80) dX10_shift_77 rfl rfl (fun _ => ?_) (fun _ => ?_)
              ·
                refine z_aload C (pc' := 85) dX10_shift_83 rfl rfl ?_
                refine z_iload_n C (i := 2) (pc' := 86) dX10_shift_85 rfl rfl rfl ?_
                refine z_iload C (pc' := 88) dX10_shift_86 rfl rfl ?_
                refine z_callV1 C (pc' := 91) lvRX10_301 lc_X8_hasRange rfl dX10_shift_88 rfl (by decide) (rX8_hasRange l w v6 x2 x5 u20) rfl (Nat.le_of_ble_eq_true rfl) (fun v21 u22 => ?_)
                refine z_if_eq C (pc' := 106) (pf := 94) dX10_shift_91 rfl rfl (fun _ => ?_) (fun _ => ?_)
                ·
                  refine z_bipush C (pc' := 108) dX10_shift_106 kb_m13 rfl ?_
                  exact z_ireturn C dX10_shift_108
                ·
                  refine z_aload C (pc' := 96) dX10_shift_94 rfl rfl ?_
                  refine z_iload C (pc' := 98) dX10_shift_96 rfl rfl ?_
                  refine z_iload C (pc' := 100) dX10_shift_98 rfl rfl ?_
                  refine z_callV1 C (pc' := 103) lvRX10_301 lc_X8_hasRange rfl dX10_shift_100 rfl (by decide) (rX8_hasRange l w v8 x4 x5 u22) rfl (Nat.le_of_ble_eq_true rfl) (fun v23 u24 => ?_)
                  refine z_if_ne C (pc' := 109) (pf := 106) dX10_shift_103 rfl rfl (fun _ => ?_) (fun _ => ?_)
                  ·
                    refine z_aload C (pc' := 111) dX10_shift_109 rfl rfl ?_
                    refine z_iload_n C (i := 2) (pc' := 112) dX10_shift_111 rfl rfl rfl ?_
                    refine z_aload C (pc' := 114) dX10_shift_112 rfl rfl ?_
                    refine z_iload C (pc' := 116) dX10_shift_114 rfl rfl ?_
                    refine z_iload C (pc' := 118) dX10_shift_116 rfl rfl ?_
                    refine z_callV0 C (pc' := 121) lvRX10_304 lc_X8_copyTo rfl dX10_shift_118 rfl (by decide) (rX8_copyTo l w v6 x2 v8 x4 x5 u24) rfl (Nat.le_of_ble_eq_true rfl) (fun _ u25 => ?_)
                    refine z_iload C (pc' := 123) dX10_shift_121 rfl rfl ?_
                    exact z_ireturn C dX10_shift_123
                  ·
                    refine z_bipush C (pc' := 108) dX10_shift_106 kb_m13 rfl ?_
                    exact z_ireturn C dX10_shift_108
              ·
                refine z_bipush C (pc' := 82) dX10_shift_80 kb_m12 rfl ?_
                exact z_ireturn C dX10_shift_82
        ·
          refine z_bipush C (pc' := 50) dX10_shift_48 kb_m11 rfl ?_
          exact z_ireturn C dX10_shift_50
    ·
      refine z_iconst C (pc' := 15) dX10_shift_14 kc_m1 rfl ?_
      exact z_ireturn C dX10_shift_15
def fX10_taken (x0 x1 x2 : Int) (u0 : zMem) : zRs := zcall (fX10_isShelf x1 u0) (fun v1 u2 => if v1 = 0 then (some ((-1), u2)) else (zcall (fX0_isKind x2 u2) (fun v3 u4 => if v3 ≠ 0 then (zgf 10 6 x0 u4 (fun v5 => zald 23 v5 x1 u4 (fun v6 => zvc 8 v6 (fX8_isBare v6 u4) (fun v7 u8 => if v7 = 0 then (zvc 8 v6 (fX8_holdsRow v6 u8) (fun v9 u10 => zjn (fun (v11 : Int) (u12 : zMem) => zcall (fX0_isUnder v11 x2 u12) (fun v14 u15 => if v14 = 0 then (some ((-12), u15)) else (some (v11, u15)))) (fun k13 => if v9 = 0 then (zgf 10 5 x0 u10 (fun v16 => zvc 8 v6 (fX8_heldBody v6 u10) (fun v17 u18 => zvc 0 v16 (fX0_kindOf v16 v17 u18) (fun v19 u20 => k13 v19 u20)))) else (k13 (-1) u10)))) else (some ((-11), u8)))))) else (some ((-1), u4)))))
set_option maxRecDepth 100000 in
set_option maxHeartbeats 4000000 in
theorem rX10_taken (l : Launch) (w : zW) (x0 x1 x2 : Int) (u0 : zMem) : zSpc l w 3 yX10_taken cX10_taken 5 (some .int) 1 [zR x0, zI x1, zI x2] u0 (fX10_taken x0 x1 x2 u0) := by
  refine zSpc_of (own := RX10) pnRX10 rfl (Nat.le_of_ble_eq_true rfl) (fun G p e R s m args below meth c C hini => ?_)
  unfold fX10_taken
  refine zlocs (lb := [(0, zR x0), (1, zI x1), (2, zI x2)]) ⟨rfl, rfl, rfl, trivial⟩ ?_
  refine z_iload_n C (i := 1) (pc' := 1) dX10_taken_0 rfl rfl rfl ?_
  refine z_callS1 C (pc' := 4) lsRX10_64 lc_X10_isShelf rfl dX10_taken_1 rfl (by decide) (rX10_isShelf l w x1 u0) rfl (Nat.le_of_ble_eq_true rfl) (fun v1 u2 => ?_)
  refine z_if_eq C (pc' := 14) (pf := 7) dX10_taken_4 rfl rfl (fun _ => ?_) (fun _ => ?_)
  ·
    refine z_iconst C (pc' := 15) dX10_taken_14 kc_m1 rfl ?_
    exact z_ireturn C dX10_taken_15
  ·
    refine z_iload_n C (i := 2) (pc' := 8) dX10_taken_7 rfl rfl rfl ?_
    refine z_callS1 C (pc' := 11) lsRX10_263 lc_X0_isKind rfl dX10_taken_8 rfl (by decide) (rX0_isKind l w x2 u2) rfl (Nat.le_of_ble_eq_true rfl) (fun v3 u4 => ?_)
    refine z_if_ne C (pc' := 16) (pf := 14) dX10_taken_11 rfl rfl (fun _ => ?_) (fun _ => ?_)
    ·
      refine z_aload_n C (i := 0) (pc' := 17) dX10_taken_16 rfl rfl rfl ?_
      refine z_getfR C (pc' := 20) flRX10_55 dX10_taken_17 rfl (fun v5 => ?_)
      refine z_iload_n C (i := 1) (pc' := 21) dX10_taken_20 rfl rfl rfl ?_
      refine z_aald C (pc' := 22) (by decide) dX10_taken_21 rfl (fun v6 => ?_)
      refine z_astore_n C (i := 3) (la' := [(3, zR v6), (0, zR x0), (1, zI x1), (2, zI x2)]) (pc' := 23) dX10_taken_22 rfl (by decide) rfl rfl ?_
      refine z_aload_n C (i := 3) (pc' := 24) dX10_taken_23 rfl rfl rfl ?_
      refine z_callV1 C (pc' := 27) lvRX10_68 lc_X8_isBare rfl dX10_taken_24 rfl (by decide) (rX8_isBare l w v6 u4) rfl (Nat.le_of_ble_eq_true rfl) (fun v7 u8 => ?_)
      refine z_if_eq C (pc' := 33) (pf := 30) dX10_taken_27 rfl rfl (fun _ => ?_) (fun _ => ?_)
      ·
        refine z_aload_n C (i := 3) (pc' := 34) dX10_taken_33 rfl rfl rfl ?_
        refine z_callV1 C (pc' := 37) lvRX10_295 lc_X8_holdsRow rfl dX10_taken_34 rfl (by decide) (rX8_holdsRow l w v6 u8) rfl (Nat.le_of_ble_eq_true rfl) (fun v9 u10 => ?_)
        refine zjoin (P := fun (f : Int → zMem → zRs) => ∀ (v11 : Int) (u12 : zMem), zSim G p l e R s m args below meth c w 5 (znc u0) (zM w 1 (znc u0) below args s) 55 [(2, zI x2)] [zI v11] u12 (f v11 u12)) (fun v11 u12 => ?_) (fun k13 hk13 => ?_)
        ·
          refine z_istore C (i := 4) (la' := [(4, zI v11), (2, zI x2)]) (pc' := 57) dX10_taken_55 (by decide) rfl rfl ?_
          refine z_iload C (pc' := 59) dX10_taken_57 rfl rfl ?_
          refine z_iload_n C (i := 2) (pc' := 60) dX10_taken_59 rfl rfl rfl ?_
          refine z_callS1 C (pc' := 63) lsRX10_314 lc_X0_isUnder rfl dX10_taken_60 rfl (by decide) (rX0_isUnder l w v11 x2 u12) rfl (Nat.le_of_ble_eq_true rfl) (fun v14 u15 => ?_)
          refine z_if_eq C (pc' := 71) (pf := 66) dX10_taken_63 rfl rfl (fun _ => ?_) (fun _ => ?_)
          ·
            refine z_bipush C (pc' := 73) dX10_taken_71 kb_m12 rfl ?_
            exact z_ireturn C dX10_taken_73
          ·
            refine z_iload C (pc' := 68) dX10_taken_66 rfl rfl ?_
            refine z_goto C (pc' := 73) dX10_taken_68 rfl ?_
            exact z_ireturn C dX10_taken_73
        ·
          refine z_if_eq C (pc' := 44) (pf := 40) dX10_taken_37 rfl rfl (fun _ => ?_) (fun _ => ?_)
          ·
            refine z_aload_n C (i := 0) (pc' := 45) dX10_taken_44 rfl rfl rfl ?_
            refine z_getfR C (pc' := 48) flRX10_49 dX10_taken_45 rfl (fun v16 => ?_)
            refine z_aload_n C (i := 3) (pc' := 49) dX10_taken_48 rfl rfl rfl ?_
            refine z_callV1 C (pc' := 52) lvRX10_308 lc_X8_heldBody rfl dX10_taken_49 rfl (by decide) (rX8_heldBody l w v6 u10) rfl (Nat.le_of_ble_eq_true rfl) (fun v17 u18 => ?_)
            refine z_callV1 C (pc' := 55) lvRX10_311 lc_X0_kindOf rfl dX10_taken_52 rfl (by decide) (rX0_kindOf l w v16 v17 u18) rfl (Nat.le_of_ble_eq_true rfl) (fun v19 u20 => ?_)
            exact zlocs (lb := [(2, zI x2)]) ⟨rfl, trivial⟩ (hk13 _ _)
          ·
            refine z_iconst C (pc' := 41) dX10_taken_40 kc_m1 rfl ?_
            refine z_goto C (pc' := 55) dX10_taken_41 rfl ?_
            exact zlocs (lb := [(2, zI x2)]) ⟨rfl, trivial⟩ (hk13 _ _)
      ·
        refine z_bipush C (pc' := 32) dX10_taken_30 kb_m11 rfl ?_
        exact z_ireturn C dX10_taken_32
    ·
      refine z_iconst C (pc' := 15) dX10_taken_14 kc_m1 rfl ?_
      exact z_ireturn C dX10_taken_15
def fX10_count (x0 x1 : Int) (u0 : zMem) : zRs := if x1 = 0 then (zgf 10 0 x0 u0 (fun v2 => zvc 5 v2 (fX5_size v2 u0) (fun v3 u4 => some (v3, u4)))) else (if x1 = 1 then (zgf 10 3 x0 u0 (fun v6 => zvc 3 v6 (fX3_size v6 u0) (fun v7 u8 => some (v7, u8)))) else (if x1 = 2 then (zgf 10 4 x0 u0 (fun v10 => zvc 1 v10 (fX1_size v10 u0) (fun v11 u12 => some (v11, u12)))) else (if x1 = 3 then (zgf 10 2 x0 u0 (fun v14 => zvc 9 v14 (fX9_length v14 u0) (fun v15 u16 => some (v15, u16)))) else (if x1 = 4 then (zgf 10 1 x0 u0 (fun v18 => zvc 2 v18 (fX2_done v18 u0) (fun v19 u20 => some (v19, u20)))) else (if x1 = 5 then (zgf 10 5 x0 u0 (fun v22 => zvc 0 v22 (fX0_size v22 u0) (fun v23 u24 => some (v23, u24)))) else (if x1 = 6 then (zgf 10 5 x0 u0 (fun v26 => zvc 0 v26 (fX0_ran v26 u0) (fun v27 u28 => some (v27, u28)))) else (some ((-1), u0))))))))
set_option maxRecDepth 100000 in
set_option maxHeartbeats 4000000 in
theorem rX10_count (l : Launch) (w : zW) (x0 x1 : Int) (u0 : zMem) : zSpc l w 2 yX10_count cX10_count 2 (some .int) 1 [zR x0, zI x1] u0 (fX10_count x0 x1 u0) := by
  refine zSpc_of (own := RX10) pnRX10 rfl (Nat.le_of_ble_eq_true rfl) (fun G p e R s m args below meth c C hini => ?_)
  unfold fX10_count
  refine zlocs (lb := [(0, zR x0), (1, zI x1)]) ⟨rfl, rfl, trivial⟩ ?_
  refine z_iload_n C (i := 1) (pc' := 1) dX10_count_0 rfl rfl rfl ?_
  refine z_tcase C (pc' := 44) dX10_count_1 0 (by decide) (by decide) rfl rfl (fun _ => ?_) (fun h1 => ?_)
  ·
    refine z_aload_n C (i := 0) (pc' := 45) dX10_count_44 rfl rfl rfl ?_
    refine z_getfR C (pc' := 48) flRX10_10 dX10_count_45 rfl (fun v2 => ?_)
    refine z_callV1 C (pc' := 51) lvRX10_138 lc_X5_size rfl dX10_count_48 rfl (by decide) (rX5_size l w v2 u0) rfl (Nat.le_of_ble_eq_true rfl) (fun v3 u4 => ?_)
    exact z_ireturn C dX10_count_51
  ·
    refine z_tcase C (pc' := 52) dX10_count_1 1 (by decide) (by decide) rfl rfl (fun _ => ?_) (fun h5 => ?_)
    ·
      refine z_aload_n C (i := 0) (pc' := 53) dX10_count_52 rfl rfl rfl ?_
      refine z_getfR C (pc' := 56) flRX10_35 dX10_count_53 rfl (fun v6 => ?_)
      refine z_callV1 C (pc' := 59) lvRX10_243 lc_X3_size rfl dX10_count_56 rfl (by decide) (rX3_size l w v6 u0) rfl (Nat.le_of_ble_eq_true rfl) (fun v7 u8 => ?_)
      exact z_ireturn C dX10_count_59
    ·
      refine z_tcase C (pc' := 60) dX10_count_1 2 (by decide) (by decide) rfl rfl (fun _ => ?_) (fun h9 => ?_)
      ·
        refine z_aload_n C (i := 0) (pc' := 61) dX10_count_60 rfl rfl rfl ?_
        refine z_getfR C (pc' := 64) flRX10_42 dX10_count_61 rfl (fun v10 => ?_)
        refine z_callV1 C (pc' := 67) lvRX10_227 lc_X1_size rfl dX10_count_64 rfl (by decide) (rX1_size l w v10 u0) rfl (Nat.le_of_ble_eq_true rfl) (fun v11 u12 => ?_)
        exact z_ireturn C dX10_count_67
      ·
        refine z_tcase C (pc' := 68) dX10_count_1 3 (by decide) (by decide) rfl rfl (fun _ => ?_) (fun h13 => ?_)
        ·
          refine z_aload_n C (i := 0) (pc' := 69) dX10_count_68 rfl rfl rfl ?_
          refine z_getfR C (pc' := 72) flRX10_26 dX10_count_69 rfl (fun v14 => ?_)
          refine z_callV1 C (pc' := 75) lvRX10_106 lc_X9_length rfl dX10_count_72 rfl (by decide) (rX9_length l w v14 u0) rfl (Nat.le_of_ble_eq_true rfl) (fun v15 u16 => ?_)
          exact z_ireturn C dX10_count_75
        ·
          refine z_tcase C (pc' := 76) dX10_count_1 4 (by decide) (by decide) rfl rfl (fun _ => ?_) (fun h17 => ?_)
          ·
            refine z_aload_n C (i := 0) (pc' := 77) dX10_count_76 rfl rfl rfl ?_
            refine z_getfR C (pc' := 80) flRX10_19 dX10_count_77 rfl (fun v18 => ?_)
            refine z_callV1 C (pc' := 83) lvRX10_254 lc_X2_done rfl dX10_count_80 rfl (by decide) (rX2_done l w v18 u0) rfl (Nat.le_of_ble_eq_true rfl) (fun v19 u20 => ?_)
            exact z_ireturn C dX10_count_83
          ·
            refine z_tcase C (pc' := 84) dX10_count_1 5 (by decide) (by decide) rfl rfl (fun _ => ?_) (fun h21 => ?_)
            ·
              refine z_aload_n C (i := 0) (pc' := 85) dX10_count_84 rfl rfl rfl ?_
              refine z_getfR C (pc' := 88) flRX10_49 dX10_count_85 rfl (fun v22 => ?_)
              refine z_callV1 C (pc' := 91) lvRX10_317 lc_X0_size rfl dX10_count_88 rfl (by decide) (rX0_size l w v22 u0) rfl (Nat.le_of_ble_eq_true rfl) (fun v23 u24 => ?_)
              exact z_ireturn C dX10_count_91
            ·
              refine z_tcase C (pc' := 92) dX10_count_1 6 (by decide) (by decide) rfl rfl (fun _ => ?_) (fun h25 => ?_)
              ·
                refine z_aload_n C (i := 0) (pc' := 93) dX10_count_92 rfl rfl rfl ?_
                refine z_getfR C (pc' := 96) flRX10_49 dX10_count_93 rfl (fun v26 => ?_)
                refine z_callV1 C (pc' := 99) lvRX10_318 lc_X0_ran rfl dX10_count_96 rfl (by decide) (rX0_ran l w v26 u0) rfl (Nat.le_of_ble_eq_true rfl) (fun v27 u28 => ?_)
                exact z_ireturn C dX10_count_99
              ·
                refine z_tdef C (pc' := 100) dX10_count_1 (by omega) rfl ?_
                refine z_iconst C (pc' := 101) dX10_count_100 kc_m1 rfl ?_
                exact z_ireturn C dX10_count_101

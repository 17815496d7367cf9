theorem dX1_init_0 : decode cX1_init 0 = .ok (.aload_n 0, 1) := by decide +kernel
theorem dX1_init_1 : decode cX1_init 1 = .ok (.invokespecial 3, 3) := by decide +kernel
theorem dX1_init_4 : decode cX1_init 4 = .ok (.aload_n 0, 1) := by decide +kernel
theorem dX1_init_5 : decode cX1_init 5 = .ok (.bipush 10, 2) := by decide +kernel
theorem dX1_init_7 : decode cX1_init 7 = .ok (.anewarray 11, 3) := by decide +kernel
theorem dX1_init_10 : decode cX1_init 10 = .ok (.putfield 13, 3) := by decide +kernel
theorem dX1_init_13 : decode cX1_init 13 = .ok (.aload_n 0, 1) := by decide +kernel
theorem dX1_init_14 : decode cX1_init 14 = .ok (.bipush 16, 2) := by decide +kernel
theorem dX1_init_16 : decode cX1_init 16 = .ok (.bipush 16, 2) := by decide +kernel
theorem dX1_init_18 : decode cX1_init 18 = .ok (.multianewarray 19 2, 4) := by decide +kernel
theorem dX1_init_22 : decode cX1_init 22 = .ok (.putfield 21, 3) := by decide +kernel
theorem dX1_init_25 : decode cX1_init 25 = .ok (.aload_n 0, 1) := by decide +kernel
theorem dX1_init_26 : decode cX1_init 26 = .ok (.aload_n 1, 1) := by decide +kernel
theorem dX1_init_27 : decode cX1_init 27 = .ok (.putfield 24, 3) := by decide +kernel
theorem dX1_init_30 : decode cX1_init 30 = .ok (.iconst 0, 1) := by decide +kernel
theorem dX1_init_31 : decode cX1_init 31 = .ok (.istore_n 2, 1) := by decide +kernel
theorem dX1_init_32 : decode cX1_init 32 = .ok (.iload_n 2, 1) := by decide +kernel
theorem dX1_init_33 : decode cX1_init 33 = .ok (.bipush 10, 2) := by decide +kernel
theorem dX1_init_35 : decode cX1_init 35 = .ok (.if_icmp .ge 22, 3) := by decide +kernel
theorem dX1_init_38 : decode cX1_init 38 = .ok (.aload_n 0, 1) := by decide +kernel
theorem dX1_init_39 : decode cX1_init 39 = .ok (.getfield 13, 3) := by decide +kernel
theorem dX1_init_42 : decode cX1_init 42 = .ok (.iload_n 2, 1) := by decide +kernel
theorem dX1_init_43 : decode cX1_init 43 = .ok (.new 11, 3) := by decide +kernel
theorem dX1_init_46 : decode cX1_init 46 = .ok (.dup, 1) := by decide +kernel
theorem dX1_init_47 : decode cX1_init 47 = .ok (.invokespecial 28, 3) := by decide +kernel
theorem dX1_init_50 : decode cX1_init 50 = .ok (.aastore, 1) := by decide +kernel
theorem dX1_init_51 : decode cX1_init 51 = .ok (.iinc 2 1, 3) := by decide +kernel
theorem dX1_init_54 : decode cX1_init 54 = .ok (.goto (-22), 3) := by decide +kernel
theorem dX1_init_57 : decode cX1_init 57 = .ok (.return_, 1) := by decide +kernel
theorem dX1_size_0 : decode cX1_size 0 = .ok (.aload_n 0, 1) := by decide +kernel
theorem dX1_size_1 : decode cX1_size 1 = .ok (.getfield 29, 3) := by decide +kernel
theorem dX1_size_4 : decode cX1_size 4 = .ok (.ireturn, 1) := by decide +kernel
theorem dX1_open_0 : decode cX1_open 0 = .ok (.aload_n 0, 1) := by decide +kernel
theorem dX1_open_1 : decode cX1_open 1 = .ok (.getfield 29, 3) := by decide +kernel
theorem dX1_open_4 : decode cX1_open 4 = .ok (.bipush 10, 2) := by decide +kernel
theorem dX1_open_6 : decode cX1_open 6 = .ok (.if_icmp .lt 6, 3) := by decide +kernel
theorem dX1_open_9 : decode cX1_open 9 = .ok (.bipush (-3), 2) := by decide +kernel
theorem dX1_open_11 : decode cX1_open 11 = .ok (.ireturn, 1) := by decide +kernel
theorem dX1_open_12 : decode cX1_open 12 = .ok (.aload_n 0, 1) := by decide +kernel
theorem dX1_open_13 : decode cX1_open 13 = .ok (.getfield 13, 3) := by decide +kernel
theorem dX1_open_16 : decode cX1_open 16 = .ok (.aload_n 0, 1) := by decide +kernel
theorem dX1_open_17 : decode cX1_open 17 = .ok (.getfield 29, 3) := by decide +kernel
theorem dX1_open_20 : decode cX1_open 20 = .ok (.aaload, 1) := by decide +kernel
theorem dX1_open_21 : decode cX1_open 21 = .ok (.iload_n 1, 1) := by decide +kernel
theorem dX1_open_22 : decode cX1_open 22 = .ok (.invokevirtual 33, 3) := by decide +kernel
theorem dX1_open_25 : decode cX1_open 25 = .ok (.aload_n 0, 1) := by decide +kernel
theorem dX1_open_26 : decode cX1_open 26 = .ok (.dup, 1) := by decide +kernel
theorem dX1_open_27 : decode cX1_open 27 = .ok (.getfield 29, 3) := by decide +kernel
theorem dX1_open_30 : decode cX1_open 30 = .ok (.iconst 1, 1) := by decide +kernel
theorem dX1_open_31 : decode cX1_open 31 = .ok (.iadd, 1) := by decide +kernel
theorem dX1_open_32 : decode cX1_open 32 = .ok (.putfield 29, 3) := by decide +kernel
theorem dX1_open_35 : decode cX1_open 35 = .ok (.aload_n 0, 1) := by decide +kernel
theorem dX1_open_36 : decode cX1_open 36 = .ok (.getfield 29, 3) := by decide +kernel
theorem dX1_open_39 : decode cX1_open 39 = .ok (.iconst 1, 1) := by decide +kernel
theorem dX1_open_40 : decode cX1_open 40 = .ok (.isub, 1) := by decide +kernel
theorem dX1_open_41 : decode cX1_open 41 = .ok (.ireturn, 1) := by decide +kernel
theorem dX1_paper_0 : decode cX1_paper 0 = .ok (.iload_n 1, 1) := by decide +kernel
theorem dX1_paper_1 : decode cX1_paper 1 = .ok (.ifCond .lt 20, 3) := by decide +kernel
theorem dX1_paper_4 : decode cX1_paper 4 = .ok (.iload_n 1, 1) := by decide +kernel
theorem dX1_paper_5 : decode cX1_paper 5 = .ok (.aload_n 0, 1) := by decide +kernel
theorem dX1_paper_6 : decode cX1_paper 6 = .ok (.getfield 29, 3) := by decide +kernel
theorem dX1_paper_9 : decode cX1_paper 9 = .ok (.if_icmp .ge 12, 3) := by decide +kernel
theorem dX1_paper_12 : decode cX1_paper 12 = .ok (.aload_n 0, 1) := by decide +kernel
theorem dX1_paper_13 : decode cX1_paper 13 = .ok (.getfield 13, 3) := by decide +kernel
theorem dX1_paper_16 : decode cX1_paper 16 = .ok (.iload_n 1, 1) := by decide +kernel
theorem dX1_paper_17 : decode cX1_paper 17 = .ok (.aaload, 1) := by decide +kernel
theorem dX1_paper_18 : decode cX1_paper 18 = .ok (.goto 4, 3) := by decide +kernel
theorem dX1_paper_21 : decode cX1_paper 21 = .ok (.aconst_null, 1) := by decide +kernel
theorem dX1_paper_22 : decode cX1_paper 22 = .ok (.areturn, 1) := by decide +kernel
theorem dX1_papersWith__0 : decode cX1_papersWith_ 0 = .ok (.iconst 0, 1) := by decide +kernel
theorem dX1_papersWith__1 : decode cX1_papersWith_ 1 = .ok (.istore_n 3, 1) := by decide +kernel
theorem dX1_papersWith__2 : decode cX1_papersWith_ 2 = .ok (.iconst 0, 1) := by decide +kernel
theorem dX1_papersWith__3 : decode cX1_papersWith_ 3 = .ok (.istore 4, 2) := by decide +kernel
theorem dX1_papersWith__5 : decode cX1_papersWith_ 5 = .ok (.iload 4, 2) := by decide +kernel
theorem dX1_papersWith__7 : decode cX1_papersWith_ 7 = .ok (.aload_n 0, 1) := by decide +kernel
theorem dX1_papersWith__8 : decode cX1_papersWith_ 8 = .ok (.getfield 29, 3) := by decide +kernel
theorem dX1_papersWith__11 : decode cX1_papersWith_ 11 = .ok (.if_icmp .ge 35, 3) := by decide +kernel
theorem dX1_papersWith__14 : decode cX1_papersWith_ 14 = .ok (.iload_n 2, 1) := by decide +kernel
theorem dX1_papersWith__15 : decode cX1_papersWith_ 15 = .ok (.iload 4, 2) := by decide +kernel
theorem dX1_papersWith__17 : decode cX1_papersWith_ 17 = .ok (.ishr, 1) := by decide +kernel
theorem dX1_papersWith__18 : decode cX1_papersWith_ 18 = .ok (.iconst 1, 1) := by decide +kernel
theorem dX1_papersWith__19 : decode cX1_papersWith_ 19 = .ok (.iand, 1) := by decide +kernel
theorem dX1_papersWith__20 : decode cX1_papersWith_ 20 = .ok (.ifCond .eq 20, 3) := by decide +kernel
theorem dX1_papersWith__23 : decode cX1_papersWith_ 23 = .ok (.aload_n 0, 1) := by decide +kernel
theorem dX1_papersWith__24 : decode cX1_papersWith_ 24 = .ok (.getfield 13, 3) := by decide +kernel
theorem dX1_papersWith__27 : decode cX1_papersWith_ 27 = .ok (.iload 4, 2) := by decide +kernel
theorem dX1_papersWith__29 : decode cX1_papersWith_ 29 = .ok (.aaload, 1) := by decide +kernel
theorem dX1_papersWith__30 : decode cX1_papersWith_ 30 = .ok (.iload_n 1, 1) := by decide +kernel
theorem dX1_papersWith__31 : decode cX1_papersWith_ 31 = .ok (.invokevirtual 41, 3) := by decide +kernel
theorem dX1_papersWith__34 : decode cX1_papersWith_ 34 = .ok (.ifCond .lt 6, 3) := by decide +kernel
theorem dX1_papersWith__37 : decode cX1_papersWith_ 37 = .ok (.iinc 3 1, 3) := by decide +kernel
theorem dX1_papersWith__40 : decode cX1_papersWith_ 40 = .ok (.iinc 4 1, 3) := by decide +kernel
theorem dX1_papersWith__43 : decode cX1_papersWith_ 43 = .ok (.goto (-38), 3) := by decide +kernel
theorem dX1_papersWith__46 : decode cX1_papersWith_ 46 = .ok (.iload_n 3, 1) := by decide +kernel
theorem dX1_papersWith__47 : decode cX1_papersWith_ 47 = .ok (.ireturn, 1) := by decide +kernel
theorem dX1_papersWith_0 : decode cX1_papersWith 0 = .ok (.aload_n 0, 1) := by decide +kernel
theorem dX1_papersWith_1 : decode cX1_papersWith 1 = .ok (.iload_n 1, 1) := by decide +kernel
theorem dX1_papersWith_2 : decode cX1_papersWith 2 = .ok (.iconst 1, 1) := by decide +kernel
theorem dX1_papersWith_3 : decode cX1_papersWith 3 = .ok (.aload_n 0, 1) := by decide +kernel
theorem dX1_papersWith_4 : decode cX1_papersWith 4 = .ok (.getfield 29, 3) := by decide +kernel
theorem dX1_papersWith_7 : decode cX1_papersWith 7 = .ok (.ishl, 1) := by decide +kernel
theorem dX1_papersWith_8 : decode cX1_papersWith 8 = .ok (.iconst 1, 1) := by decide +kernel
theorem dX1_papersWith_9 : decode cX1_papersWith 9 = .ok (.isub, 1) := by decide +kernel
theorem dX1_papersWith_10 : decode cX1_papersWith 10 = .ok (.invokevirtual 37, 3) := by decide +kernel
theorem dX1_papersWith_13 : decode cX1_papersWith 13 = .ok (.ireturn, 1) := by decide +kernel
theorem dX1_writersWith_0 : decode cX1_writersWith 0 = .ok (.iconst 0, 1) := by decide +kernel
theorem dX1_writersWith_1 : decode cX1_writersWith 1 = .ok (.istore_n 2, 1) := by decide +kernel
theorem dX1_writersWith_2 : decode cX1_writersWith 2 = .ok (.iconst 0, 1) := by decide +kernel
theorem dX1_writersWith_3 : decode cX1_writersWith 3 = .ok (.istore_n 3, 1) := by decide +kernel
theorem dX1_writersWith_4 : decode cX1_writersWith 4 = .ok (.iload_n 3, 1) := by decide +kernel
theorem dX1_writersWith_5 : decode cX1_writersWith 5 = .ok (.aload_n 0, 1) := by decide +kernel
theorem dX1_writersWith_6 : decode cX1_writersWith 6 = .ok (.getfield 29, 3) := by decide +kernel
theorem dX1_writersWith_9 : decode cX1_writersWith 9 = .ok (.if_icmp .ge 48, 3) := by decide +kernel
theorem dX1_writersWith_12 : decode cX1_writersWith 12 = .ok (.aload_n 0, 1) := by decide +kernel
theorem dX1_writersWith_13 : decode cX1_writersWith 13 = .ok (.getfield 13, 3) := by decide +kernel
theorem dX1_writersWith_16 : decode cX1_writersWith 16 = .ok (.iload_n 3, 1) := by decide +kernel
theorem dX1_writersWith_17 : decode cX1_writersWith 17 = .ok (.aaload, 1) := by decide +kernel
theorem dX1_writersWith_18 : decode cX1_writersWith 18 = .ok (.invokevirtual 45, 3) := by decide +kernel
theorem dX1_writersWith_21 : decode cX1_writersWith 21 = .ok (.ifCond .lt 30, 3) := by decide +kernel
theorem dX1_writersWith_24 : decode cX1_writersWith 24 = .ok (.aload_n 0, 1) := by decide +kernel
theorem dX1_writersWith_25 : decode cX1_writersWith 25 = .ok (.getfield 13, 3) := by decide +kernel
theorem dX1_writersWith_28 : decode cX1_writersWith 28 = .ok (.iload_n 3, 1) := by decide +kernel
theorem dX1_writersWith_29 : decode cX1_writersWith 29 = .ok (.aaload, 1) := by decide +kernel
theorem dX1_writersWith_30 : decode cX1_writersWith 30 = .ok (.iload_n 1, 1) := by decide +kernel
theorem dX1_writersWith_31 : decode cX1_writersWith 31 = .ok (.invokevirtual 41, 3) := by decide +kernel
theorem dX1_writersWith_34 : decode cX1_writersWith 34 = .ok (.ifCond .lt 17, 3) := by decide +kernel
theorem dX1_writersWith_37 : decode cX1_writersWith 37 = .ok (.iload_n 2, 1) := by decide +kernel
theorem dX1_writersWith_38 : decode cX1_writersWith 38 = .ok (.iconst 1, 1) := by decide +kernel
theorem dX1_writersWith_39 : decode cX1_writersWith 39 = .ok (.aload_n 0, 1) := by decide +kernel
theorem dX1_writersWith_40 : decode cX1_writersWith 40 = .ok (.getfield 13, 3) := by decide +kernel
theorem dX1_writersWith_43 : decode cX1_writersWith 43 = .ok (.iload_n 3, 1) := by decide +kernel
theorem dX1_writersWith_44 : decode cX1_writersWith 44 = .ok (.aaload, 1) := by decide +kernel
theorem dX1_writersWith_45 : decode cX1_writersWith 45 = .ok (.invokevirtual 45, 3) := by decide +kernel
theorem dX1_writersWith_48 : decode cX1_writersWith 48 = .ok (.ishl, 1) := by decide +kernel
theorem dX1_writersWith_49 : decode cX1_writersWith 49 = .ok (.ior, 1) := by decide +kernel
theorem dX1_writersWith_50 : decode cX1_writersWith 50 = .ok (.istore_n 2, 1) := by decide +kernel
theorem dX1_writersWith_51 : decode cX1_writersWith 51 = .ok (.iinc 3 1, 3) := by decide +kernel
theorem dX1_writersWith_54 : decode cX1_writersWith 54 = .ok (.goto (-50), 3) := by decide +kernel
theorem dX1_writersWith_57 : decode cX1_writersWith 57 = .ok (.iload_n 2, 1) := by decide +kernel
theorem dX1_writersWith_58 : decode cX1_writersWith 58 = .ok (.invokestatic 49, 3) := by decide +kernel
theorem dX1_writersWith_61 : decode cX1_writersWith 61 = .ok (.ireturn, 1) := by decide +kernel
theorem dX1_onlyOnce_0 : decode cX1_onlyOnce 0 = .ok (.iconst 0, 1) := by decide +kernel
theorem dX1_onlyOnce_1 : decode cX1_onlyOnce 1 = .ok (.istore_n 1, 1) := by decide +kernel
theorem dX1_onlyOnce_2 : decode cX1_onlyOnce 2 = .ok (.iconst 0, 1) := by decide +kernel
theorem dX1_onlyOnce_3 : decode cX1_onlyOnce 3 = .ok (.istore_n 2, 1) := by decide +kernel
theorem dX1_onlyOnce_4 : decode cX1_onlyOnce 4 = .ok (.iload_n 2, 1) := by decide +kernel
theorem dX1_onlyOnce_5 : decode cX1_onlyOnce 5 = .ok (.aload_n 0, 1) := by decide +kernel
theorem dX1_onlyOnce_6 : decode cX1_onlyOnce 6 = .ok (.getfield 24, 3) := by decide +kernel
theorem dX1_onlyOnce_9 : decode cX1_onlyOnce 9 = .ok (.invokevirtual 54, 3) := by decide +kernel
theorem dX1_onlyOnce_12 : decode cX1_onlyOnce 12 = .ok (.if_icmp .ge 24, 3) := by decide +kernel
theorem dX1_onlyOnce_15 : decode cX1_onlyOnce 15 = .ok (.aload_n 0, 1) := by decide +kernel
theorem dX1_onlyOnce_16 : decode cX1_onlyOnce 16 = .ok (.iload_n 2, 1) := by decide +kernel
theorem dX1_onlyOnce_17 : decode cX1_onlyOnce 17 = .ok (.invokevirtual 56, 3) := by decide +kernel
theorem dX1_onlyOnce_20 : decode cX1_onlyOnce 20 = .ok (.iconst 1, 1) := by decide +kernel
theorem dX1_onlyOnce_21 : decode cX1_onlyOnce 21 = .ok (.if_icmp .ne 9, 3) := by decide +kernel
theorem dX1_onlyOnce_24 : decode cX1_onlyOnce 24 = .ok (.iload_n 1, 1) := by decide +kernel
theorem dX1_onlyOnce_25 : decode cX1_onlyOnce 25 = .ok (.iconst 1, 1) := by decide +kernel
theorem dX1_onlyOnce_26 : decode cX1_onlyOnce 26 = .ok (.iload_n 2, 1) := by decide +kernel
theorem dX1_onlyOnce_27 : decode cX1_onlyOnce 27 = .ok (.ishl, 1) := by decide +kernel
theorem dX1_onlyOnce_28 : decode cX1_onlyOnce 28 = .ok (.ior, 1) := by decide +kernel
theorem dX1_onlyOnce_29 : decode cX1_onlyOnce 29 = .ok (.istore_n 1, 1) := by decide +kernel
theorem dX1_onlyOnce_30 : decode cX1_onlyOnce 30 = .ok (.iinc 2 1, 3) := by decide +kernel
theorem dX1_onlyOnce_33 : decode cX1_onlyOnce 33 = .ok (.goto (-29), 3) := by decide +kernel
theorem dX1_onlyOnce_36 : decode cX1_onlyOnce 36 = .ok (.iload_n 1, 1) := by decide +kernel
theorem dX1_onlyOnce_37 : decode cX1_onlyOnce 37 = .ok (.ireturn, 1) := by decide +kernel
theorem dX1_isFight_0 : decode cX1_isFight 0 = .ok (.aload_n 0, 1) := by decide +kernel
theorem dX1_isFight_1 : decode cX1_isFight 1 = .ok (.iload_n 2, 1) := by decide +kernel
theorem dX1_isFight_2 : decode cX1_isFight 2 = .ok (.invokevirtual 41, 3) := by decide +kernel
theorem dX1_isFight_5 : decode cX1_isFight 5 = .ok (.istore 4, 2) := by decide +kernel
theorem dX1_isFight_7 : decode cX1_isFight 7 = .ok (.aload_n 1, 1) := by decide +kernel
theorem dX1_isFight_8 : decode cX1_isFight 8 = .ok (.iload_n 2, 1) := by decide +kernel
theorem dX1_isFight_9 : decode cX1_isFight 9 = .ok (.invokevirtual 41, 3) := by decide +kernel
theorem dX1_isFight_12 : decode cX1_isFight 12 = .ok (.istore 5, 2) := by decide +kernel
theorem dX1_isFight_14 : decode cX1_isFight 14 = .ok (.aload_n 0, 1) := by decide +kernel
theorem dX1_isFight_15 : decode cX1_isFight 15 = .ok (.iload_n 3, 1) := by decide +kernel
theorem dX1_isFight_16 : decode cX1_isFight 16 = .ok (.invokevirtual 41, 3) := by decide +kernel
theorem dX1_isFight_19 : decode cX1_isFight 19 = .ok (.istore 6, 2) := by decide +kernel
theorem dX1_isFight_21 : decode cX1_isFight 21 = .ok (.aload_n 1, 1) := by decide +kernel
theorem dX1_isFight_22 : decode cX1_isFight 22 = .ok (.iload_n 3, 1) := by decide +kernel
theorem dX1_isFight_23 : decode cX1_isFight 23 = .ok (.invokevirtual 41, 3) := by decide +kernel
theorem dX1_isFight_26 : decode cX1_isFight 26 = .ok (.istore 7, 2) := by decide +kernel
theorem dX1_isFight_28 : decode cX1_isFight 28 = .ok (.iload 4, 2) := by decide +kernel
theorem dX1_isFight_30 : decode cX1_isFight 30 = .ok (.ifCond .lt 18, 3) := by decide +kernel
theorem dX1_isFight_33 : decode cX1_isFight 33 = .ok (.iload 5, 2) := by decide +kernel
theorem dX1_isFight_35 : decode cX1_isFight 35 = .ok (.ifCond .lt 13, 3) := by decide +kernel
theorem dX1_isFight_38 : decode cX1_isFight 38 = .ok (.iload 6, 2) := by decide +kernel
theorem dX1_isFight_40 : decode cX1_isFight 40 = .ok (.ifCond .lt 8, 3) := by decide +kernel
theorem dX1_isFight_43 : decode cX1_isFight 43 = .ok (.iload 7, 2) := by decide +kernel
theorem dX1_isFight_45 : decode cX1_isFight 45 = .ok (.ifCond .ge 5, 3) := by decide +kernel
theorem dX1_isFight_48 : decode cX1_isFight 48 = .ok (.iconst 0, 1) := by decide +kernel
theorem dX1_isFight_49 : decode cX1_isFight 49 = .ok (.ireturn, 1) := by decide +kernel
theorem dX1_isFight_50 : decode cX1_isFight 50 = .ok (.iload 4, 2) := by decide +kernel
theorem dX1_isFight_52 : decode cX1_isFight 52 = .ok (.iload 6, 2) := by decide +kernel
theorem dX1_isFight_54 : decode cX1_isFight 54 = .ok (.if_icmp .ge 7, 3) := by decide +kernel
theorem dX1_isFight_57 : decode cX1_isFight 57 = .ok (.iconst 1, 1) := by decide +kernel
theorem dX1_isFight_58 : decode cX1_isFight 58 = .ok (.goto 4, 3) := by decide +kernel
theorem dX1_isFight_61 : decode cX1_isFight 61 = .ok (.iconst 0, 1) := by decide +kernel
theorem dX1_isFight_62 : decode cX1_isFight 62 = .ok (.iload 5, 2) := by decide +kernel
theorem dX1_isFight_64 : decode cX1_isFight 64 = .ok (.iload 7, 2) := by decide +kernel
theorem dX1_isFight_66 : decode cX1_isFight 66 = .ok (.if_icmp .ge 7, 3) := by decide +kernel
theorem dX1_isFight_69 : decode cX1_isFight 69 = .ok (.iconst 1, 1) := by decide +kernel
theorem dX1_isFight_70 : decode cX1_isFight 70 = .ok (.goto 4, 3) := by decide +kernel
theorem dX1_isFight_73 : decode cX1_isFight 73 = .ok (.iconst 0, 1) := by decide +kernel
theorem dX1_isFight_74 : decode cX1_isFight 74 = .ok (.if_icmp .eq 7, 3) := by decide +kernel
theorem dX1_isFight_77 : decode cX1_isFight 77 = .ok (.iconst 1, 1) := by decide +kernel
theorem dX1_isFight_78 : decode cX1_isFight 78 = .ok (.goto 4, 3) := by decide +kernel
theorem dX1_isFight_81 : decode cX1_isFight 81 = .ok (.iconst 0, 1) := by decide +kernel
theorem dX1_isFight_82 : decode cX1_isFight 82 = .ok (.ireturn, 1) := by decide +kernel
theorem dX1_fightsOf_0 : decode cX1_fightsOf 0 = .ok (.iconst 0, 1) := by decide +kernel
theorem dX1_fightsOf_1 : decode cX1_fightsOf 1 = .ok (.istore_n 3, 1) := by decide +kernel
theorem dX1_fightsOf_2 : decode cX1_fightsOf 2 = .ok (.iconst 0, 1) := by decide +kernel
theorem dX1_fightsOf_3 : decode cX1_fightsOf 3 = .ok (.istore 4, 2) := by decide +kernel
theorem dX1_fightsOf_5 : decode cX1_fightsOf 5 = .ok (.iload 4, 2) := by decide +kernel
theorem dX1_fightsOf_7 : decode cX1_fightsOf 7 = .ok (.aload_n 0, 1) := by decide +kernel
theorem dX1_fightsOf_8 : decode cX1_fightsOf 8 = .ok (.getfield 24, 3) := by decide +kernel
theorem dX1_fightsOf_11 : decode cX1_fightsOf 11 = .ok (.invokevirtual 54, 3) := by decide +kernel
theorem dX1_fightsOf_14 : decode cX1_fightsOf 14 = .ok (.if_icmp .ge 48, 3) := by decide +kernel
theorem dX1_fightsOf_17 : decode cX1_fightsOf 17 = .ok (.iload 4, 2) := by decide +kernel
theorem dX1_fightsOf_19 : decode cX1_fightsOf 19 = .ok (.iconst 1, 1) := by decide +kernel
theorem dX1_fightsOf_20 : decode cX1_fightsOf 20 = .ok (.iadd, 1) := by decide +kernel
theorem dX1_fightsOf_21 : decode cX1_fightsOf 21 = .ok (.istore 5, 2) := by decide +kernel
theorem dX1_fightsOf_23 : decode cX1_fightsOf 23 = .ok (.iload 5, 2) := by decide +kernel
theorem dX1_fightsOf_25 : decode cX1_fightsOf 25 = .ok (.aload_n 0, 1) := by decide +kernel
theorem dX1_fightsOf_26 : decode cX1_fightsOf 26 = .ok (.getfield 24, 3) := by decide +kernel
theorem dX1_fightsOf_29 : decode cX1_fightsOf 29 = .ok (.invokevirtual 54, 3) := by decide +kernel
theorem dX1_fightsOf_32 : decode cX1_fightsOf 32 = .ok (.if_icmp .ge 24, 3) := by decide +kernel
theorem dX1_fightsOf_35 : decode cX1_fightsOf 35 = .ok (.aload_n 1, 1) := by decide +kernel
theorem dX1_fightsOf_36 : decode cX1_fightsOf 36 = .ok (.aload_n 2, 1) := by decide +kernel
theorem dX1_fightsOf_37 : decode cX1_fightsOf 37 = .ok (.iload 4, 2) := by decide +kernel
theorem dX1_fightsOf_39 : decode cX1_fightsOf 39 = .ok (.iload 5, 2) := by decide +kernel
theorem dX1_fightsOf_41 : decode cX1_fightsOf 41 = .ok (.invokestatic 58, 3) := by decide +kernel
theorem dX1_fightsOf_44 : decode cX1_fightsOf 44 = .ok (.ifCond .eq 6, 3) := by decide +kernel
theorem dX1_fightsOf_47 : decode cX1_fightsOf 47 = .ok (.iinc 3 1, 3) := by decide +kernel
theorem dX1_fightsOf_50 : decode cX1_fightsOf 50 = .ok (.iinc 5 1, 3) := by decide +kernel
theorem dX1_fightsOf_53 : decode cX1_fightsOf 53 = .ok (.goto (-30), 3) := by decide +kernel
theorem dX1_fightsOf_56 : decode cX1_fightsOf 56 = .ok (.iinc 4 1, 3) := by decide +kernel
theorem dX1_fightsOf_59 : decode cX1_fightsOf 59 = .ok (.goto (-54), 3) := by decide +kernel
theorem dX1_fightsOf_62 : decode cX1_fightsOf 62 = .ok (.iload_n 3, 1) := by decide +kernel
theorem dX1_fightsOf_63 : decode cX1_fightsOf 63 = .ok (.ireturn, 1) := by decide +kernel
theorem dX1_firstFight_0 : decode cX1_firstFight 0 = .ok (.iconst 0, 1) := by decide +kernel
theorem dX1_firstFight_1 : decode cX1_firstFight 1 = .ok (.istore_n 3, 1) := by decide +kernel
theorem dX1_firstFight_2 : decode cX1_firstFight 2 = .ok (.iload_n 3, 1) := by decide +kernel
theorem dX1_firstFight_3 : decode cX1_firstFight 3 = .ok (.aload_n 0, 1) := by decide +kernel
theorem dX1_firstFight_4 : decode cX1_firstFight 4 = .ok (.getfield 24, 3) := by decide +kernel
theorem dX1_firstFight_7 : decode cX1_firstFight 7 = .ok (.invokevirtual 54, 3) := by decide +kernel
theorem dX1_firstFight_10 : decode cX1_firstFight 10 = .ok (.if_icmp .ge 51, 3) := by decide +kernel
theorem dX1_firstFight_13 : decode cX1_firstFight 13 = .ok (.iload_n 3, 1) := by decide +kernel
theorem dX1_firstFight_14 : decode cX1_firstFight 14 = .ok (.iconst 1, 1) := by decide +kernel
theorem dX1_firstFight_15 : decode cX1_firstFight 15 = .ok (.iadd, 1) := by decide +kernel
theorem dX1_firstFight_16 : decode cX1_firstFight 16 = .ok (.istore 4, 2) := by decide +kernel
theorem dX1_firstFight_18 : decode cX1_firstFight 18 = .ok (.iload 4, 2) := by decide +kernel
theorem dX1_firstFight_20 : decode cX1_firstFight 20 = .ok (.aload_n 0, 1) := by decide +kernel
theorem dX1_firstFight_21 : decode cX1_firstFight 21 = .ok (.getfield 24, 3) := by decide +kernel
theorem dX1_firstFight_24 : decode cX1_firstFight 24 = .ok (.invokevirtual 54, 3) := by decide +kernel
theorem dX1_firstFight_27 : decode cX1_firstFight 27 = .ok (.if_icmp .ge 28, 3) := by decide +kernel
theorem dX1_firstFight_30 : decode cX1_firstFight 30 = .ok (.aload_n 1, 1) := by decide +kernel
theorem dX1_firstFight_31 : decode cX1_firstFight 31 = .ok (.aload_n 2, 1) := by decide +kernel
theorem dX1_firstFight_32 : decode cX1_firstFight 32 = .ok (.iload_n 3, 1) := by decide +kernel
theorem dX1_firstFight_33 : decode cX1_firstFight 33 = .ok (.iload 4, 2) := by decide +kernel
theorem dX1_firstFight_35 : decode cX1_firstFight 35 = .ok (.invokestatic 58, 3) := by decide +kernel
theorem dX1_firstFight_38 : decode cX1_firstFight 38 = .ok (.ifCond .eq 11, 3) := by decide +kernel
theorem dX1_firstFight_41 : decode cX1_firstFight 41 = .ok (.bipush 100, 2) := by decide +kernel
theorem dX1_firstFight_43 : decode cX1_firstFight 43 = .ok (.iload_n 3, 1) := by decide +kernel
theorem dX1_firstFight_44 : decode cX1_firstFight 44 = .ok (.imul, 1) := by decide +kernel
theorem dX1_firstFight_45 : decode cX1_firstFight 45 = .ok (.iload 4, 2) := by decide +kernel
theorem dX1_firstFight_47 : decode cX1_firstFight 47 = .ok (.iadd, 1) := by decide +kernel
theorem dX1_firstFight_48 : decode cX1_firstFight 48 = .ok (.ireturn, 1) := by decide +kernel
theorem dX1_firstFight_49 : decode cX1_firstFight 49 = .ok (.iinc 4 1, 3) := by decide +kernel
theorem dX1_firstFight_52 : decode cX1_firstFight 52 = .ok (.goto (-34), 3) := by decide +kernel
theorem dX1_firstFight_55 : decode cX1_firstFight 55 = .ok (.iinc 3 1, 3) := by decide +kernel
theorem dX1_firstFight_58 : decode cX1_firstFight 58 = .ok (.goto (-56), 3) := by decide +kernel
theorem dX1_firstFight_61 : decode cX1_firstFight 61 = .ok (.bipush (-2), 2) := by decide +kernel
theorem dX1_firstFight_63 : decode cX1_firstFight 63 = .ok (.ireturn, 1) := by decide +kernel
theorem dX1_countLead_0 : decode cX1_countLead 0 = .ok (.iload_n 1, 1) := by decide +kernel
theorem dX1_countLead_1 : decode cX1_countLead 1 = .ok (.ifCond .lt 43, 3) := by decide +kernel
theorem dX1_countLead_4 : decode cX1_countLead 4 = .ok (.iload_n 1, 1) := by decide +kernel
theorem dX1_countLead_5 : decode cX1_countLead 5 = .ok (.bipush 16, 2) := by decide +kernel
theorem dX1_countLead_7 : decode cX1_countLead 7 = .ok (.if_icmp .ge 37, 3) := by decide +kernel
theorem dX1_countLead_10 : decode cX1_countLead 10 = .ok (.iload_n 2, 1) := by decide +kernel
theorem dX1_countLead_11 : decode cX1_countLead 11 = .ok (.ifCond .lt 33, 3) := by decide +kernel
theorem dX1_countLead_14 : decode cX1_countLead 14 = .ok (.iload_n 2, 1) := by decide +kernel
theorem dX1_countLead_15 : decode cX1_countLead 15 = .ok (.bipush 16, 2) := by decide +kernel
theorem dX1_countLead_17 : decode cX1_countLead 17 = .ok (.if_icmp .ge 27, 3) := by decide +kernel
theorem dX1_countLead_20 : decode cX1_countLead 20 = .ok (.aload_n 0, 1) := by decide +kernel
theorem dX1_countLead_21 : decode cX1_countLead 21 = .ok (.getfield 21, 3) := by decide +kernel
theorem dX1_countLead_24 : decode cX1_countLead 24 = .ok (.iload_n 1, 1) := by decide +kernel
theorem dX1_countLead_25 : decode cX1_countLead 25 = .ok (.aaload, 1) := by decide +kernel
theorem dX1_countLead_26 : decode cX1_countLead 26 = .ok (.iload_n 2, 1) := by decide +kernel
theorem dX1_countLead_27 : decode cX1_countLead 27 = .ok (.dup2, 1) := by decide +kernel
theorem dX1_countLead_28 : decode cX1_countLead 28 = .ok (.iaload, 1) := by decide +kernel
theorem dX1_countLead_29 : decode cX1_countLead 29 = .ok (.iconst 1, 1) := by decide +kernel
theorem dX1_countLead_30 : decode cX1_countLead 30 = .ok (.iadd, 1) := by decide +kernel
theorem dX1_countLead_31 : decode cX1_countLead 31 = .ok (.iastore, 1) := by decide +kernel
theorem dX1_countLead_32 : decode cX1_countLead 32 = .ok (.aload_n 0, 1) := by decide +kernel
theorem dX1_countLead_33 : decode cX1_countLead 33 = .ok (.getfield 21, 3) := by decide +kernel
theorem dX1_countLead_36 : decode cX1_countLead 36 = .ok (.iload_n 2, 1) := by decide +kernel
theorem dX1_countLead_37 : decode cX1_countLead 37 = .ok (.aaload, 1) := by decide +kernel
theorem dX1_countLead_38 : decode cX1_countLead 38 = .ok (.iload_n 1, 1) := by decide +kernel
theorem dX1_countLead_39 : decode cX1_countLead 39 = .ok (.dup2, 1) := by decide +kernel
theorem dX1_countLead_40 : decode cX1_countLead 40 = .ok (.iaload, 1) := by decide +kernel
theorem dX1_countLead_41 : decode cX1_countLead 41 = .ok (.iconst 1, 1) := by decide +kernel
theorem dX1_countLead_42 : decode cX1_countLead 42 = .ok (.isub, 1) := by decide +kernel
theorem dX1_countLead_43 : decode cX1_countLead 43 = .ok (.iastore, 1) := by decide +kernel
theorem dX1_countLead_44 : decode cX1_countLead 44 = .ok (.return_, 1) := by decide +kernel
theorem dX1_countLeadsOf_0 : decode cX1_countLeadsOf 0 = .ok (.iconst 0, 1) := by decide +kernel
theorem dX1_countLeadsOf_1 : decode cX1_countLeadsOf 1 = .ok (.istore_n 2, 1) := by decide +kernel
theorem dX1_countLeadsOf_2 : decode cX1_countLeadsOf 2 = .ok (.iload_n 2, 1) := by decide +kernel
theorem dX1_countLeadsOf_3 : decode cX1_countLeadsOf 3 = .ok (.aload_n 1, 1) := by decide +kernel
theorem dX1_countLeadsOf_4 : decode cX1_countLeadsOf 4 = .ok (.invokevirtual 75, 3) := by decide +kernel
theorem dX1_countLeadsOf_7 : decode cX1_countLeadsOf 7 = .ok (.if_icmp .ge 43, 3) := by decide +kernel
theorem dX1_countLeadsOf_10 : decode cX1_countLeadsOf 10 = .ok (.iload_n 2, 1) := by decide +kernel
theorem dX1_countLeadsOf_11 : decode cX1_countLeadsOf 11 = .ok (.iconst 1, 1) := by decide +kernel
theorem dX1_countLeadsOf_12 : decode cX1_countLeadsOf 12 = .ok (.iadd, 1) := by decide +kernel
theorem dX1_countLeadsOf_13 : decode cX1_countLeadsOf 13 = .ok (.istore_n 3, 1) := by decide +kernel
theorem dX1_countLeadsOf_14 : decode cX1_countLeadsOf 14 = .ok (.iload_n 3, 1) := by decide +kernel
theorem dX1_countLeadsOf_15 : decode cX1_countLeadsOf 15 = .ok (.aload_n 1, 1) := by decide +kernel
theorem dX1_countLeadsOf_16 : decode cX1_countLeadsOf 16 = .ok (.invokevirtual 75, 3) := by decide +kernel
theorem dX1_countLeadsOf_19 : decode cX1_countLeadsOf 19 = .ok (.if_icmp .ge 25, 3) := by decide +kernel
theorem dX1_countLeadsOf_22 : decode cX1_countLeadsOf 22 = .ok (.aload_n 0, 1) := by decide +kernel
theorem dX1_countLeadsOf_23 : decode cX1_countLeadsOf 23 = .ok (.aload_n 1, 1) := by decide +kernel
theorem dX1_countLeadsOf_24 : decode cX1_countLeadsOf 24 = .ok (.iload_n 2, 1) := by decide +kernel
theorem dX1_countLeadsOf_25 : decode cX1_countLeadsOf 25 = .ok (.iconst 0, 1) := by decide +kernel
theorem dX1_countLeadsOf_26 : decode cX1_countLeadsOf 26 = .ok (.invokevirtual 76, 3) := by decide +kernel
theorem dX1_countLeadsOf_29 : decode cX1_countLeadsOf 29 = .ok (.aload_n 1, 1) := by decide +kernel
theorem dX1_countLeadsOf_30 : decode cX1_countLeadsOf 30 = .ok (.iload_n 3, 1) := by decide +kernel
theorem dX1_countLeadsOf_31 : decode cX1_countLeadsOf 31 = .ok (.iconst 0, 1) := by decide +kernel
theorem dX1_countLeadsOf_32 : decode cX1_countLeadsOf 32 = .ok (.invokevirtual 76, 3) := by decide +kernel
theorem dX1_countLeadsOf_35 : decode cX1_countLeadsOf 35 = .ok (.invokevirtual 79, 3) := by decide +kernel
theorem dX1_countLeadsOf_38 : decode cX1_countLeadsOf 38 = .ok (.iinc 3 1, 3) := by decide +kernel
theorem dX1_countLeadsOf_41 : decode cX1_countLeadsOf 41 = .ok (.goto (-27), 3) := by decide +kernel
theorem dX1_countLeadsOf_44 : decode cX1_countLeadsOf 44 = .ok (.iinc 2 1, 3) := by decide +kernel
theorem dX1_countLeadsOf_47 : decode cX1_countLeadsOf 47 = .ok (.goto (-45), 3) := by decide +kernel
theorem dX1_countLeadsOf_50 : decode cX1_countLeadsOf 50 = .ok (.return_, 1) := by decide +kernel
theorem dX1_countLeads_0 : decode cX1_countLeads 0 = .ok (.aload_n 0, 1) := by decide +kernel
theorem dX1_countLeads_1 : decode cX1_countLeads 1 = .ok (.getfield 21, 3) := by decide +kernel
theorem dX1_countLeads_4 : decode cX1_countLeads 4 = .ok (.astore_n 1, 1) := by decide +kernel
theorem dX1_countLeads_5 : decode cX1_countLeads 5 = .ok (.aload_n 1, 1) := by decide +kernel
theorem dX1_countLeads_6 : decode cX1_countLeads 6 = .ok (.arraylength, 1) := by decide +kernel
theorem dX1_countLeads_7 : decode cX1_countLeads 7 = .ok (.istore_n 2, 1) := by decide +kernel
theorem dX1_countLeads_8 : decode cX1_countLeads 8 = .ok (.iconst 0, 1) := by decide +kernel
theorem dX1_countLeads_9 : decode cX1_countLeads 9 = .ok (.istore_n 3, 1) := by decide +kernel
theorem dX1_countLeads_10 : decode cX1_countLeads 10 = .ok (.iload_n 3, 1) := by decide +kernel
theorem dX1_countLeads_11 : decode cX1_countLeads 11 = .ok (.iload_n 2, 1) := by decide +kernel
theorem dX1_countLeads_12 : decode cX1_countLeads 12 = .ok (.if_icmp .ge 37, 3) := by decide +kernel
theorem dX1_countLeads_15 : decode cX1_countLeads 15 = .ok (.aload_n 1, 1) := by decide +kernel
theorem dX1_countLeads_16 : decode cX1_countLeads 16 = .ok (.iload_n 3, 1) := by decide +kernel
theorem dX1_countLeads_17 : decode cX1_countLeads 17 = .ok (.aaload, 1) := by decide +kernel
theorem dX1_countLeads_18 : decode cX1_countLeads 18 = .ok (.astore 4, 2) := by decide +kernel
theorem dX1_countLeads_20 : decode cX1_countLeads 20 = .ok (.iconst 0, 1) := by decide +kernel
theorem dX1_countLeads_21 : decode cX1_countLeads 21 = .ok (.istore 5, 2) := by decide +kernel
theorem dX1_countLeads_23 : decode cX1_countLeads 23 = .ok (.iload 5, 2) := by decide +kernel
theorem dX1_countLeads_25 : decode cX1_countLeads 25 = .ok (.aload 4, 2) := by decide +kernel
theorem dX1_countLeads_27 : decode cX1_countLeads 27 = .ok (.arraylength, 1) := by decide +kernel
theorem dX1_countLeads_28 : decode cX1_countLeads 28 = .ok (.if_icmp .ge 15, 3) := by decide +kernel
theorem dX1_countLeads_31 : decode cX1_countLeads 31 = .ok (.aload 4, 2) := by decide +kernel
theorem dX1_countLeads_33 : decode cX1_countLeads 33 = .ok (.iload 5, 2) := by decide +kernel
theorem dX1_countLeads_35 : decode cX1_countLeads 35 = .ok (.iconst 0, 1) := by decide +kernel
theorem dX1_countLeads_36 : decode cX1_countLeads 36 = .ok (.iastore, 1) := by decide +kernel
theorem dX1_countLeads_37 : decode cX1_countLeads 37 = .ok (.iinc 5 1, 3) := by decide +kernel
theorem dX1_countLeads_40 : decode cX1_countLeads 40 = .ok (.goto (-17), 3) := by decide +kernel
theorem dX1_countLeads_43 : decode cX1_countLeads 43 = .ok (.iinc 3 1, 3) := by decide +kernel
theorem dX1_countLeads_46 : decode cX1_countLeads 46 = .ok (.goto (-36), 3) := by decide +kernel
theorem dX1_countLeads_49 : decode cX1_countLeads 49 = .ok (.iconst 0, 1) := by decide +kernel
theorem dX1_countLeads_50 : decode cX1_countLeads 50 = .ok (.istore_n 1, 1) := by decide +kernel
theorem dX1_countLeads_51 : decode cX1_countLeads 51 = .ok (.iload_n 1, 1) := by decide +kernel
theorem dX1_countLeads_52 : decode cX1_countLeads 52 = .ok (.aload_n 0, 1) := by decide +kernel
theorem dX1_countLeads_53 : decode cX1_countLeads 53 = .ok (.getfield 29, 3) := by decide +kernel
theorem dX1_countLeads_56 : decode cX1_countLeads 56 = .ok (.if_icmp .ge 19, 3) := by decide +kernel
theorem dX1_countLeads_59 : decode cX1_countLeads 59 = .ok (.aload_n 0, 1) := by decide +kernel
theorem dX1_countLeads_60 : decode cX1_countLeads 60 = .ok (.aload_n 0, 1) := by decide +kernel
theorem dX1_countLeads_61 : decode cX1_countLeads 61 = .ok (.getfield 13, 3) := by decide +kernel
theorem dX1_countLeads_64 : decode cX1_countLeads 64 = .ok (.iload_n 1, 1) := by decide +kernel
theorem dX1_countLeads_65 : decode cX1_countLeads 65 = .ok (.aaload, 1) := by decide +kernel
theorem dX1_countLeads_66 : decode cX1_countLeads 66 = .ok (.invokevirtual 71, 3) := by decide +kernel
theorem dX1_countLeads_69 : decode cX1_countLeads 69 = .ok (.iinc 1 1, 3) := by decide +kernel
theorem dX1_countLeads_72 : decode cX1_countLeads 72 = .ok (.goto (-21), 3) := by decide +kernel
theorem dX1_countLeads_75 : decode cX1_countLeads 75 = .ok (.return_, 1) := by decide +kernel
theorem dX1_beatenBy_0 : decode cX1_beatenBy 0 = .ok (.iconst 0, 1) := by decide +kernel
theorem dX1_beatenBy_1 : decode cX1_beatenBy 1 = .ok (.istore_n 3, 1) := by decide +kernel
theorem dX1_beatenBy_2 : decode cX1_beatenBy 2 = .ok (.iconst 0, 1) := by decide +kernel
theorem dX1_beatenBy_3 : decode cX1_beatenBy 3 = .ok (.istore 4, 2) := by decide +kernel
theorem dX1_beatenBy_5 : decode cX1_beatenBy 5 = .ok (.iload 4, 2) := by decide +kernel
theorem dX1_beatenBy_7 : decode cX1_beatenBy 7 = .ok (.bipush 16, 2) := by decide +kernel
theorem dX1_beatenBy_9 : decode cX1_beatenBy 9 = .ok (.if_icmp .ge 33, 3) := by decide +kernel
theorem dX1_beatenBy_12 : decode cX1_beatenBy 12 = .ok (.iload_n 2, 1) := by decide +kernel
theorem dX1_beatenBy_13 : decode cX1_beatenBy 13 = .ok (.iload 4, 2) := by decide +kernel
theorem dX1_beatenBy_15 : decode cX1_beatenBy 15 = .ok (.ishr, 1) := by decide +kernel
theorem dX1_beatenBy_16 : decode cX1_beatenBy 16 = .ok (.iconst 1, 1) := by decide +kernel
theorem dX1_beatenBy_17 : decode cX1_beatenBy 17 = .ok (.iand, 1) := by decide +kernel
theorem dX1_beatenBy_18 : decode cX1_beatenBy 18 = .ok (.ifCond .eq 18, 3) := by decide +kernel
theorem dX1_beatenBy_21 : decode cX1_beatenBy 21 = .ok (.aload_n 0, 1) := by decide +kernel
theorem dX1_beatenBy_22 : decode cX1_beatenBy 22 = .ok (.getfield 21, 3) := by decide +kernel
theorem dX1_beatenBy_25 : decode cX1_beatenBy 25 = .ok (.iload_n 1, 1) := by decide +kernel
theorem dX1_beatenBy_26 : decode cX1_beatenBy 26 = .ok (.aaload, 1) := by decide +kernel
theorem dX1_beatenBy_27 : decode cX1_beatenBy 27 = .ok (.iload 4, 2) := by decide +kernel
theorem dX1_beatenBy_29 : decode cX1_beatenBy 29 = .ok (.iaload, 1) := by decide +kernel
theorem dX1_beatenBy_30 : decode cX1_beatenBy 30 = .ok (.ifCond .le 6, 3) := by decide +kernel
theorem dX1_beatenBy_33 : decode cX1_beatenBy 33 = .ok (.iinc 3 1, 3) := by decide +kernel
theorem dX1_beatenBy_36 : decode cX1_beatenBy 36 = .ok (.iinc 4 1, 3) := by decide +kernel
theorem dX1_beatenBy_39 : decode cX1_beatenBy 39 = .ok (.goto (-34), 3) := by decide +kernel
theorem dX1_beatenBy_42 : decode cX1_beatenBy 42 = .ok (.iload_n 3, 1) := by decide +kernel
theorem dX1_beatenBy_43 : decode cX1_beatenBy 43 = .ok (.ireturn, 1) := by decide +kernel
theorem dX1_foremost_0 : decode cX1_foremost 0 = .ok (.iconst 0, 1) := by decide +kernel
theorem dX1_foremost_1 : decode cX1_foremost 1 = .ok (.istore_n 2, 1) := by decide +kernel
theorem dX1_foremost_2 : decode cX1_foremost 2 = .ok (.iconst (-1), 1) := by decide +kernel
theorem dX1_foremost_3 : decode cX1_foremost 3 = .ok (.istore_n 3, 1) := by decide +kernel
theorem dX1_foremost_4 : decode cX1_foremost 4 = .ok (.iconst 0, 1) := by decide +kernel
theorem dX1_foremost_5 : decode cX1_foremost 5 = .ok (.istore 4, 2) := by decide +kernel
theorem dX1_foremost_7 : decode cX1_foremost 7 = .ok (.iload 4, 2) := by decide +kernel
theorem dX1_foremost_9 : decode cX1_foremost 9 = .ok (.bipush 16, 2) := by decide +kernel
theorem dX1_foremost_11 : decode cX1_foremost 11 = .ok (.if_icmp .ge 43, 3) := by decide +kernel
theorem dX1_foremost_14 : decode cX1_foremost 14 = .ok (.iload_n 1, 1) := by decide +kernel
theorem dX1_foremost_15 : decode cX1_foremost 15 = .ok (.iload 4, 2) := by decide +kernel
theorem dX1_foremost_17 : decode cX1_foremost 17 = .ok (.ishr, 1) := by decide +kernel
theorem dX1_foremost_18 : decode cX1_foremost 18 = .ok (.iconst 1, 1) := by decide +kernel
theorem dX1_foremost_19 : decode cX1_foremost 19 = .ok (.iand, 1) := by decide +kernel
theorem dX1_foremost_20 : decode cX1_foremost 20 = .ok (.ifCond .eq 13, 3) := by decide +kernel
theorem dX1_foremost_23 : decode cX1_foremost 23 = .ok (.aload_n 0, 1) := by decide +kernel
theorem dX1_foremost_24 : decode cX1_foremost 24 = .ok (.iload 4, 2) := by decide +kernel
theorem dX1_foremost_26 : decode cX1_foremost 26 = .ok (.iload_n 1, 1) := by decide +kernel
theorem dX1_foremost_27 : decode cX1_foremost 27 = .ok (.invokevirtual 83, 3) := by decide +kernel
theorem dX1_foremost_30 : decode cX1_foremost 30 = .ok (.goto 4, 3) := by decide +kernel
theorem dX1_foremost_33 : decode cX1_foremost 33 = .ok (.iconst (-1), 1) := by decide +kernel
theorem dX1_foremost_34 : decode cX1_foremost 34 = .ok (.istore 5, 2) := by decide +kernel
theorem dX1_foremost_36 : decode cX1_foremost 36 = .ok (.iload 5, 2) := by decide +kernel
theorem dX1_foremost_38 : decode cX1_foremost 38 = .ok (.iload_n 3, 1) := by decide +kernel
theorem dX1_foremost_39 : decode cX1_foremost 39 = .ok (.if_icmp .le 9, 3) := by decide +kernel
theorem dX1_foremost_42 : decode cX1_foremost 42 = .ok (.iload 5, 2) := by decide +kernel
theorem dX1_foremost_44 : decode cX1_foremost 44 = .ok (.istore_n 3, 1) := by decide +kernel
theorem dX1_foremost_45 : decode cX1_foremost 45 = .ok (.iload 4, 2) := by decide +kernel
theorem dX1_foremost_47 : decode cX1_foremost 47 = .ok (.istore_n 2, 1) := by decide +kernel
theorem dX1_foremost_48 : decode cX1_foremost 48 = .ok (.iinc 4 1, 3) := by decide +kernel
theorem dX1_foremost_51 : decode cX1_foremost 51 = .ok (.goto (-44), 3) := by decide +kernel
theorem dX1_foremost_54 : decode cX1_foremost 54 = .ok (.iload_n 2, 1) := by decide +kernel
theorem dX1_foremost_55 : decode cX1_foremost 55 = .ok (.ireturn, 1) := by decide +kernel
theorem dX1_inOrder_0 : decode cX1_inOrder 0 = .ok (.iconst 0, 1) := by decide +kernel
theorem dX1_inOrder_1 : decode cX1_inOrder 1 = .ok (.istore_n 2, 1) := by decide +kernel
theorem dX1_inOrder_2 : decode cX1_inOrder 2 = .ok (.iconst 0, 1) := by decide +kernel
theorem dX1_inOrder_3 : decode cX1_inOrder 3 = .ok (.istore_n 3, 1) := by decide +kernel
theorem dX1_inOrder_4 : decode cX1_inOrder 4 = .ok (.iload_n 3, 1) := by decide +kernel
theorem dX1_inOrder_5 : decode cX1_inOrder 5 = .ok (.aload_n 0, 1) := by decide +kernel
theorem dX1_inOrder_6 : decode cX1_inOrder 6 = .ok (.getfield 29, 3) := by decide +kernel
theorem dX1_inOrder_9 : decode cX1_inOrder 9 = .ok (.if_icmp .ge 21, 3) := by decide +kernel
theorem dX1_inOrder_12 : decode cX1_inOrder 12 = .ok (.iload_n 2, 1) := by decide +kernel
theorem dX1_inOrder_13 : decode cX1_inOrder 13 = .ok (.aload_n 0, 1) := by decide +kernel
theorem dX1_inOrder_14 : decode cX1_inOrder 14 = .ok (.getfield 13, 3) := by decide +kernel
theorem dX1_inOrder_17 : decode cX1_inOrder 17 = .ok (.iload_n 3, 1) := by decide +kernel
theorem dX1_inOrder_18 : decode cX1_inOrder 18 = .ok (.aaload, 1) := by decide +kernel
theorem dX1_inOrder_19 : decode cX1_inOrder 19 = .ok (.invokevirtual 62, 3) := by decide +kernel
theorem dX1_inOrder_22 : decode cX1_inOrder 22 = .ok (.ior, 1) := by decide +kernel
theorem dX1_inOrder_23 : decode cX1_inOrder 23 = .ok (.istore_n 2, 1) := by decide +kernel
theorem dX1_inOrder_24 : decode cX1_inOrder 24 = .ok (.iinc 3 1, 3) := by decide +kernel
theorem dX1_inOrder_27 : decode cX1_inOrder 27 = .ok (.goto (-23), 3) := by decide +kernel
theorem dX1_inOrder_30 : decode cX1_inOrder 30 = .ok (.iload_n 1, 1) := by decide +kernel
theorem dX1_inOrder_31 : decode cX1_inOrder 31 = .ok (.ifCond .lt 11, 3) := by decide +kernel
theorem dX1_inOrder_34 : decode cX1_inOrder 34 = .ok (.iload_n 1, 1) := by decide +kernel
theorem dX1_inOrder_35 : decode cX1_inOrder 35 = .ok (.iload_n 2, 1) := by decide +kernel
theorem dX1_inOrder_36 : decode cX1_inOrder 36 = .ok (.invokestatic 49, 3) := by decide +kernel
theorem dX1_inOrder_39 : decode cX1_inOrder 39 = .ok (.if_icmp .lt 5, 3) := by decide +kernel
theorem dX1_inOrder_42 : decode cX1_inOrder 42 = .ok (.iconst (-1), 1) := by decide +kernel
theorem dX1_inOrder_43 : decode cX1_inOrder 43 = .ok (.ireturn, 1) := by decide +kernel
theorem dX1_inOrder_44 : decode cX1_inOrder 44 = .ok (.aload_n 0, 1) := by decide +kernel
theorem dX1_inOrder_45 : decode cX1_inOrder 45 = .ok (.invokevirtual 65, 3) := by decide +kernel
theorem dX1_inOrder_48 : decode cX1_inOrder 48 = .ok (.iconst 0, 1) := by decide +kernel
theorem dX1_inOrder_49 : decode cX1_inOrder 49 = .ok (.istore_n 3, 1) := by decide +kernel
theorem dX1_inOrder_50 : decode cX1_inOrder 50 = .ok (.iload_n 3, 1) := by decide +kernel
theorem dX1_inOrder_51 : decode cX1_inOrder 51 = .ok (.iload_n 1, 1) := by decide +kernel
theorem dX1_inOrder_52 : decode cX1_inOrder 52 = .ok (.if_icmp .ge 21, 3) := by decide +kernel
theorem dX1_inOrder_55 : decode cX1_inOrder 55 = .ok (.iload_n 2, 1) := by decide +kernel
theorem dX1_inOrder_56 : decode cX1_inOrder 56 = .ok (.iconst 1, 1) := by decide +kernel
theorem dX1_inOrder_57 : decode cX1_inOrder 57 = .ok (.aload_n 0, 1) := by decide +kernel
theorem dX1_inOrder_58 : decode cX1_inOrder 58 = .ok (.iload_n 2, 1) := by decide +kernel
theorem dX1_inOrder_59 : decode cX1_inOrder 59 = .ok (.invokevirtual 68, 3) := by decide +kernel
theorem dX1_inOrder_62 : decode cX1_inOrder 62 = .ok (.ishl, 1) := by decide +kernel
theorem dX1_inOrder_63 : decode cX1_inOrder 63 = .ok (.iconst (-1), 1) := by decide +kernel
theorem dX1_inOrder_64 : decode cX1_inOrder 64 = .ok (.ixor, 1) := by decide +kernel
theorem dX1_inOrder_65 : decode cX1_inOrder 65 = .ok (.iand, 1) := by decide +kernel
theorem dX1_inOrder_66 : decode cX1_inOrder 66 = .ok (.istore_n 2, 1) := by decide +kernel
theorem dX1_inOrder_67 : decode cX1_inOrder 67 = .ok (.iinc 3 1, 3) := by decide +kernel
theorem dX1_inOrder_70 : decode cX1_inOrder 70 = .ok (.goto (-20), 3) := by decide +kernel
theorem dX1_inOrder_73 : decode cX1_inOrder 73 = .ok (.aload_n 0, 1) := by decide +kernel
theorem dX1_inOrder_74 : decode cX1_inOrder 74 = .ok (.iload_n 2, 1) := by decide +kernel
theorem dX1_inOrder_75 : decode cX1_inOrder 75 = .ok (.invokevirtual 68, 3) := by decide +kernel
theorem dX1_inOrder_78 : decode cX1_inOrder 78 = .ok (.ireturn, 1) := by decide +kernel
theorem dX3_has_0 : decode cX3_has 0 = .ok (.iload_n 1, 1) := by decide +kernel
theorem dX3_has_1 : decode cX3_has 1 = .ok (.ifCond .lt 15, 3) := by decide +kernel
theorem dX3_has_4 : decode cX3_has 4 = .ok (.iload_n 1, 1) := by decide +kernel
theorem dX3_has_5 : decode cX3_has 5 = .ok (.aload_n 0, 1) := by decide +kernel
theorem dX3_has_6 : decode cX3_has 6 = .ok (.getfield 31, 3) := by decide +kernel
theorem dX3_has_9 : decode cX3_has 9 = .ok (.if_icmp .ge 7, 3) := by decide +kernel
theorem dX3_has_12 : decode cX3_has 12 = .ok (.iconst 1, 1) := by decide +kernel
theorem dX3_has_13 : decode cX3_has 13 = .ok (.goto 4, 3) := by decide +kernel
theorem dX3_has_16 : decode cX3_has 16 = .ok (.iconst 0, 1) := by decide +kernel
theorem dX3_has_17 : decode cX3_has 17 = .ok (.ireturn, 1) := by decide +kernel
theorem dX3_heedOf_0 : decode cX3_heedOf 0 = .ok (.aload_n 0, 1) := by decide +kernel
theorem dX3_heedOf_1 : decode cX3_heedOf 1 = .ok (.iload_n 1, 1) := by decide +kernel
theorem dX3_heedOf_2 : decode cX3_heedOf 2 = .ok (.invokevirtual 43, 3) := by decide +kernel
theorem dX3_heedOf_5 : decode cX3_heedOf 5 = .ok (.ifCond .ne 5, 3) := by decide +kernel
theorem dX3_heedOf_8 : decode cX3_heedOf 8 = .ok (.iconst 0, 1) := by decide +kernel
theorem dX3_heedOf_9 : decode cX3_heedOf 9 = .ok (.ireturn, 1) := by decide +kernel
theorem dX3_heedOf_10 : decode cX3_heedOf 10 = .ok (.iconst 0, 1) := by decide +kernel
theorem dX3_heedOf_11 : decode cX3_heedOf 11 = .ok (.bipush 100, 2) := by decide +kernel
theorem dX3_heedOf_13 : decode cX3_heedOf 13 = .ok (.aload_n 0, 1) := by decide +kernel
theorem dX3_heedOf_14 : decode cX3_heedOf 14 = .ok (.getfield 26, 3) := by decide +kernel
theorem dX3_heedOf_17 : decode cX3_heedOf 17 = .ok (.aload_n 0, 1) := by decide +kernel
theorem dX3_heedOf_18 : decode cX3_heedOf 18 = .ok (.getfield 13, 3) := by decide +kernel
theorem dX3_heedOf_21 : decode cX3_heedOf 21 = .ok (.iload_n 1, 1) := by decide +kernel
theorem dX3_heedOf_22 : decode cX3_heedOf 22 = .ok (.aaload, 1) := by decide +kernel
theorem dX3_heedOf_23 : decode cX3_heedOf 23 = .ok (.iload_n 2, 1) := by decide +kernel
theorem dX3_heedOf_24 : decode cX3_heedOf 24 = .ok (.invokevirtual 47, 3) := by decide +kernel
theorem dX3_heedOf_27 : decode cX3_heedOf 27 = .ok (.invokestatic 51, 3) := by decide +kernel
theorem dX3_heedOf_30 : decode cX3_heedOf 30 = .ok (.invokestatic 57, 3) := by decide +kernel
theorem dX3_heedOf_33 : decode cX3_heedOf 33 = .ok (.ireturn, 1) := by decide +kernel
theorem dX1_chanceIfSaid_0 : decode cX1_chanceIfSaid 0 = .ok (.lconst 1, 1) := by decide +kernel
theorem dX1_chanceIfSaid_1 : decode cX1_chanceIfSaid 1 = .ok (.lstore_n 3, 1) := by decide +kernel
theorem dX1_chanceIfSaid_2 : decode cX1_chanceIfSaid 2 = .ok (.iconst 0, 1) := by decide +kernel
theorem dX1_chanceIfSaid_3 : decode cX1_chanceIfSaid 3 = .ok (.istore 5, 2) := by decide +kernel
theorem dX1_chanceIfSaid_5 : decode cX1_chanceIfSaid 5 = .ok (.iconst 0, 1) := by decide +kernel
theorem dX1_chanceIfSaid_6 : decode cX1_chanceIfSaid 6 = .ok (.istore 6, 2) := by decide +kernel
theorem dX1_chanceIfSaid_8 : decode cX1_chanceIfSaid 8 = .ok (.iload 6, 2) := by decide +kernel
theorem dX1_chanceIfSaid_10 : decode cX1_chanceIfSaid 10 = .ok (.aload_n 0, 1) := by decide +kernel
theorem dX1_chanceIfSaid_11 : decode cX1_chanceIfSaid 11 = .ok (.getfield 29, 3) := by decide +kernel
theorem dX1_chanceIfSaid_14 : decode cX1_chanceIfSaid 14 = .ok (.if_icmp .ge 74, 3) := by decide +kernel
theorem dX1_chanceIfSaid_17 : decode cX1_chanceIfSaid 17 = .ok (.iload 5, 2) := by decide +kernel
theorem dX1_chanceIfSaid_19 : decode cX1_chanceIfSaid 19 = .ok (.bipush 7, 2) := by decide +kernel
theorem dX1_chanceIfSaid_21 : decode cX1_chanceIfSaid 21 = .ok (.if_icmp .ge 67, 3) := by decide +kernel
theorem dX1_chanceIfSaid_24 : decode cX1_chanceIfSaid 24 = .ok (.aload_n 0, 1) := by decide +kernel
theorem dX1_chanceIfSaid_25 : decode cX1_chanceIfSaid 25 = .ok (.getfield 13, 3) := by decide +kernel
theorem dX1_chanceIfSaid_28 : decode cX1_chanceIfSaid 28 = .ok (.iload 6, 2) := by decide +kernel
theorem dX1_chanceIfSaid_30 : decode cX1_chanceIfSaid 30 = .ok (.aaload, 1) := by decide +kernel
theorem dX1_chanceIfSaid_31 : decode cX1_chanceIfSaid 31 = .ok (.invokevirtual 45, 3) := by decide +kernel
theorem dX1_chanceIfSaid_34 : decode cX1_chanceIfSaid 34 = .ok (.istore 7, 2) := by decide +kernel
theorem dX1_chanceIfSaid_36 : decode cX1_chanceIfSaid 36 = .ok (.iload 7, 2) := by decide +kernel
theorem dX1_chanceIfSaid_38 : decode cX1_chanceIfSaid 38 = .ok (.ifCond .lt 44, 3) := by decide +kernel
theorem dX1_chanceIfSaid_41 : decode cX1_chanceIfSaid 41 = .ok (.aload_n 2, 1) := by decide +kernel
theorem dX1_chanceIfSaid_42 : decode cX1_chanceIfSaid 42 = .ok (.iload 7, 2) := by decide +kernel
theorem dX1_chanceIfSaid_44 : decode cX1_chanceIfSaid 44 = .ok (.iload_n 1, 1) := by decide +kernel
theorem dX1_chanceIfSaid_45 : decode cX1_chanceIfSaid 45 = .ok (.invokevirtual 86, 3) := by decide +kernel
theorem dX1_chanceIfSaid_48 : decode cX1_chanceIfSaid 48 = .ok (.istore 8, 2) := by decide +kernel
theorem dX1_chanceIfSaid_50 : decode cX1_chanceIfSaid 50 = .ok (.lload_n 3, 1) := by decide +kernel
theorem dX1_chanceIfSaid_51 : decode cX1_chanceIfSaid 51 = .ok (.aload_n 0, 1) := by decide +kernel
theorem dX1_chanceIfSaid_52 : decode cX1_chanceIfSaid 52 = .ok (.getfield 13, 3) := by decide +kernel
theorem dX1_chanceIfSaid_55 : decode cX1_chanceIfSaid 55 = .ok (.iload 6, 2) := by decide +kernel
theorem dX1_chanceIfSaid_57 : decode cX1_chanceIfSaid 57 = .ok (.aaload, 1) := by decide +kernel
theorem dX1_chanceIfSaid_58 : decode cX1_chanceIfSaid 58 = .ok (.iload_n 1, 1) := by decide +kernel
theorem dX1_chanceIfSaid_59 : decode cX1_chanceIfSaid 59 = .ok (.invokevirtual 41, 3) := by decide +kernel
theorem dX1_chanceIfSaid_62 : decode cX1_chanceIfSaid 62 = .ok (.ifCond .lt 9, 3) := by decide +kernel
theorem dX1_chanceIfSaid_65 : decode cX1_chanceIfSaid 65 = .ok (.iload 8, 2) := by decide +kernel
theorem dX1_chanceIfSaid_67 : decode cX1_chanceIfSaid 67 = .ok (.i2l, 1) := by decide +kernel
theorem dX1_chanceIfSaid_68 : decode cX1_chanceIfSaid 68 = .ok (.goto 9, 3) := by decide +kernel
theorem dX1_chanceIfSaid_71 : decode cX1_chanceIfSaid 71 = .ok (.bipush 100, 2) := by decide +kernel
theorem dX1_chanceIfSaid_73 : decode cX1_chanceIfSaid 73 = .ok (.iload 8, 2) := by decide +kernel
theorem dX1_chanceIfSaid_75 : decode cX1_chanceIfSaid 75 = .ok (.isub, 1) := by decide +kernel
theorem dX1_chanceIfSaid_76 : decode cX1_chanceIfSaid 76 = .ok (.i2l, 1) := by decide +kernel
theorem dX1_chanceIfSaid_77 : decode cX1_chanceIfSaid 77 = .ok (.lmul, 1) := by decide +kernel
theorem dX1_chanceIfSaid_78 : decode cX1_chanceIfSaid 78 = .ok (.lstore_n 3, 1) := by decide +kernel
theorem dX1_chanceIfSaid_79 : decode cX1_chanceIfSaid 79 = .ok (.iinc 5 1, 3) := by decide +kernel
theorem dX1_chanceIfSaid_82 : decode cX1_chanceIfSaid 82 = .ok (.iinc 6 1, 3) := by decide +kernel
theorem dX1_chanceIfSaid_85 : decode cX1_chanceIfSaid 85 = .ok (.goto (-77), 3) := by decide +kernel
theorem dX1_chanceIfSaid_88 : decode cX1_chanceIfSaid 88 = .ok (.lload_n 3, 1) := by decide +kernel
theorem dX1_chanceIfSaid_89 : decode cX1_chanceIfSaid 89 = .ok (.lreturn, 1) := by decide +kernel
theorem dX1_chanceIfNot_0 : decode cX1_chanceIfNot 0 = .ok (.lconst 1, 1) := by decide +kernel
theorem dX1_chanceIfNot_1 : decode cX1_chanceIfNot 1 = .ok (.lstore_n 2, 1) := by decide +kernel
theorem dX1_chanceIfNot_2 : decode cX1_chanceIfNot 2 = .ok (.iconst 0, 1) := by decide +kernel
theorem dX1_chanceIfNot_3 : decode cX1_chanceIfNot 3 = .ok (.istore 4, 2) := by decide +kernel
theorem dX1_chanceIfNot_5 : decode cX1_chanceIfNot 5 = .ok (.iconst 0, 1) := by decide +kernel
theorem dX1_chanceIfNot_6 : decode cX1_chanceIfNot 6 = .ok (.istore 5, 2) := by decide +kernel
theorem dX1_chanceIfNot_8 : decode cX1_chanceIfNot 8 = .ok (.iload 5, 2) := by decide +kernel
theorem dX1_chanceIfNot_10 : decode cX1_chanceIfNot 10 = .ok (.aload_n 0, 1) := by decide +kernel
theorem dX1_chanceIfNot_11 : decode cX1_chanceIfNot 11 = .ok (.getfield 29, 3) := by decide +kernel
theorem dX1_chanceIfNot_14 : decode cX1_chanceIfNot 14 = .ok (.if_icmp .ge 56, 3) := by decide +kernel
theorem dX1_chanceIfNot_17 : decode cX1_chanceIfNot 17 = .ok (.iload 4, 2) := by decide +kernel
theorem dX1_chanceIfNot_19 : decode cX1_chanceIfNot 19 = .ok (.bipush 7, 2) := by decide +kernel
theorem dX1_chanceIfNot_21 : decode cX1_chanceIfNot 21 = .ok (.if_icmp .ge 49, 3) := by decide +kernel
theorem dX1_chanceIfNot_24 : decode cX1_chanceIfNot 24 = .ok (.aload_n 0, 1) := by decide +kernel
theorem dX1_chanceIfNot_25 : decode cX1_chanceIfNot 25 = .ok (.getfield 13, 3) := by decide +kernel
theorem dX1_chanceIfNot_28 : decode cX1_chanceIfNot 28 = .ok (.iload 5, 2) := by decide +kernel
theorem dX1_chanceIfNot_30 : decode cX1_chanceIfNot 30 = .ok (.aaload, 1) := by decide +kernel
theorem dX1_chanceIfNot_31 : decode cX1_chanceIfNot 31 = .ok (.invokevirtual 45, 3) := by decide +kernel
theorem dX1_chanceIfNot_34 : decode cX1_chanceIfNot 34 = .ok (.ifCond .lt 30, 3) := by decide +kernel
theorem dX1_chanceIfNot_37 : decode cX1_chanceIfNot 37 = .ok (.lload_n 2, 1) := by decide +kernel
theorem dX1_chanceIfNot_38 : decode cX1_chanceIfNot 38 = .ok (.aload_n 0, 1) := by decide +kernel
theorem dX1_chanceIfNot_39 : decode cX1_chanceIfNot 39 = .ok (.getfield 13, 3) := by decide +kernel
theorem dX1_chanceIfNot_42 : decode cX1_chanceIfNot 42 = .ok (.iload 5, 2) := by decide +kernel
theorem dX1_chanceIfNot_44 : decode cX1_chanceIfNot 44 = .ok (.aaload, 1) := by decide +kernel
theorem dX1_chanceIfNot_45 : decode cX1_chanceIfNot 45 = .ok (.iload_n 1, 1) := by decide +kernel
theorem dX1_chanceIfNot_46 : decode cX1_chanceIfNot 46 = .ok (.invokevirtual 41, 3) := by decide +kernel
theorem dX1_chanceIfNot_49 : decode cX1_chanceIfNot 49 = .ok (.ifCond .lt 7, 3) := by decide +kernel
theorem dX1_chanceIfNot_52 : decode cX1_chanceIfNot 52 = .ok (.lconst 0, 1) := by decide +kernel
theorem dX1_chanceIfNot_53 : decode cX1_chanceIfNot 53 = .ok (.goto 6, 3) := by decide +kernel
theorem dX1_chanceIfNot_56 : decode cX1_chanceIfNot 56 = .ok (.ldc2_w 91, 3) := by decide +kernel
theorem dX1_chanceIfNot_59 : decode cX1_chanceIfNot 59 = .ok (.lmul, 1) := by decide +kernel
theorem dX1_chanceIfNot_60 : decode cX1_chanceIfNot 60 = .ok (.lstore_n 2, 1) := by decide +kernel
theorem dX1_chanceIfNot_61 : decode cX1_chanceIfNot 61 = .ok (.iinc 4 1, 3) := by decide +kernel
theorem dX1_chanceIfNot_64 : decode cX1_chanceIfNot 64 = .ok (.iinc 5 1, 3) := by decide +kernel
theorem dX1_chanceIfNot_67 : decode cX1_chanceIfNot 67 = .ok (.goto (-59), 3) := by decide +kernel
theorem dX1_chanceIfNot_70 : decode cX1_chanceIfNot 70 = .ok (.lload_n 2, 1) := by decide +kernel
theorem dX1_chanceIfNot_71 : decode cX1_chanceIfNot 71 = .ok (.lreturn, 1) := by decide +kernel
theorem dX1_spanFrom_0 : decode cX1_spanFrom 0 = .ok (.iconst 0, 1) := by decide +kernel
theorem dX1_spanFrom_1 : decode cX1_spanFrom 1 = .ok (.istore_n 3, 1) := by decide +kernel
theorem dX1_spanFrom_2 : decode cX1_spanFrom 2 = .ok (.iload_n 2, 1) := by decide +kernel
theorem dX1_spanFrom_3 : decode cX1_spanFrom 3 = .ok (.istore 4, 2) := by decide +kernel
theorem dX1_spanFrom_5 : decode cX1_spanFrom 5 = .ok (.iload 4, 2) := by decide +kernel
theorem dX1_spanFrom_7 : decode cX1_spanFrom 7 = .ok (.aload_n 0, 1) := by decide +kernel
theorem dX1_spanFrom_8 : decode cX1_spanFrom 8 = .ok (.getfield 24, 3) := by decide +kernel
theorem dX1_spanFrom_11 : decode cX1_spanFrom 11 = .ok (.invokevirtual 54, 3) := by decide +kernel
theorem dX1_spanFrom_14 : decode cX1_spanFrom 14 = .ok (.if_icmp .ge 31, 3) := by decide +kernel
theorem dX1_spanFrom_17 : decode cX1_spanFrom 17 = .ok (.aload_n 1, 1) := by decide +kernel
theorem dX1_spanFrom_18 : decode cX1_spanFrom 18 = .ok (.iload 4, 2) := by decide +kernel
theorem dX1_spanFrom_20 : decode cX1_spanFrom 20 = .ok (.invokevirtual 41, 3) := by decide +kernel
theorem dX1_spanFrom_23 : decode cX1_spanFrom 23 = .ok (.ifCond .ge 22, 3) := by decide +kernel
theorem dX1_spanFrom_26 : decode cX1_spanFrom 26 = .ok (.iload_n 3, 1) := by decide +kernel
theorem dX1_spanFrom_27 : decode cX1_spanFrom 27 = .ok (.aload_n 0, 1) := by decide +kernel
theorem dX1_spanFrom_28 : decode cX1_spanFrom 28 = .ok (.getfield 24, 3) := by decide +kernel
theorem dX1_spanFrom_31 : decode cX1_spanFrom 31 = .ok (.iload 4, 2) := by decide +kernel
theorem dX1_spanFrom_33 : decode cX1_spanFrom 33 = .ok (.iconst 3, 1) := by decide +kernel
theorem dX1_spanFrom_34 : decode cX1_spanFrom 34 = .ok (.invokevirtual 97, 3) := by decide +kernel
theorem dX1_spanFrom_37 : decode cX1_spanFrom 37 = .ok (.iadd, 1) := by decide +kernel
theorem dX1_spanFrom_38 : decode cX1_spanFrom 38 = .ok (.istore_n 3, 1) := by decide +kernel
theorem dX1_spanFrom_39 : decode cX1_spanFrom 39 = .ok (.iinc 4 1, 3) := by decide +kernel
theorem dX1_spanFrom_42 : decode cX1_spanFrom 42 = .ok (.goto (-37), 3) := by decide +kernel
theorem dX1_spanFrom_45 : decode cX1_spanFrom 45 = .ok (.iload_n 3, 1) := by decide +kernel
theorem dX1_spanFrom_46 : decode cX1_spanFrom 46 = .ok (.ireturn, 1) := by decide +kernel
theorem dX1_longestGap_0 : decode cX1_longestGap 0 = .ok (.iconst (-1), 1) := by decide +kernel
theorem dX1_longestGap_1 : decode cX1_longestGap 1 = .ok (.istore_n 2, 1) := by decide +kernel
theorem dX1_longestGap_2 : decode cX1_longestGap 2 = .ok (.iconst 0, 1) := by decide +kernel
theorem dX1_longestGap_3 : decode cX1_longestGap 3 = .ok (.istore_n 3, 1) := by decide +kernel
theorem dX1_longestGap_4 : decode cX1_longestGap 4 = .ok (.iconst 0, 1) := by decide +kernel
theorem dX1_longestGap_5 : decode cX1_longestGap 5 = .ok (.istore 4, 2) := by decide +kernel
theorem dX1_longestGap_7 : decode cX1_longestGap 7 = .ok (.iload 4, 2) := by decide +kernel
theorem dX1_longestGap_9 : decode cX1_longestGap 9 = .ok (.aload_n 0, 1) := by decide +kernel
theorem dX1_longestGap_10 : decode cX1_longestGap 10 = .ok (.getfield 24, 3) := by decide +kernel
theorem dX1_longestGap_13 : decode cX1_longestGap 13 = .ok (.invokevirtual 54, 3) := by decide +kernel
theorem dX1_longestGap_16 : decode cX1_longestGap 16 = .ok (.if_icmp .ge 30, 3) := by decide +kernel
theorem dX1_longestGap_19 : decode cX1_longestGap 19 = .ok (.aload_n 0, 1) := by decide +kernel
theorem dX1_longestGap_20 : decode cX1_longestGap 20 = .ok (.aload_n 1, 1) := by decide +kernel
theorem dX1_longestGap_21 : decode cX1_longestGap 21 = .ok (.iload 4, 2) := by decide +kernel
theorem dX1_longestGap_23 : decode cX1_longestGap 23 = .ok (.invokevirtual 93, 3) := by decide +kernel
theorem dX1_longestGap_26 : decode cX1_longestGap 26 = .ok (.istore 5, 2) := by decide +kernel
theorem dX1_longestGap_28 : decode cX1_longestGap 28 = .ok (.iload 5, 2) := by decide +kernel
theorem dX1_longestGap_30 : decode cX1_longestGap 30 = .ok (.iload_n 3, 1) := by decide +kernel
theorem dX1_longestGap_31 : decode cX1_longestGap 31 = .ok (.if_icmp .le 9, 3) := by decide +kernel
theorem dX1_longestGap_34 : decode cX1_longestGap 34 = .ok (.iload 5, 2) := by decide +kernel
theorem dX1_longestGap_36 : decode cX1_longestGap 36 = .ok (.istore_n 3, 1) := by decide +kernel
theorem dX1_longestGap_37 : decode cX1_longestGap 37 = .ok (.iload 4, 2) := by decide +kernel
theorem dX1_longestGap_39 : decode cX1_longestGap 39 = .ok (.istore_n 2, 1) := by decide +kernel
theorem dX1_longestGap_40 : decode cX1_longestGap 40 = .ok (.iinc 4 1, 3) := by decide +kernel
theorem dX1_longestGap_43 : decode cX1_longestGap 43 = .ok (.goto (-36), 3) := by decide +kernel
theorem dX1_longestGap_46 : decode cX1_longestGap 46 = .ok (.iload_n 2, 1) := by decide +kernel
theorem dX1_longestGap_47 : decode cX1_longestGap 47 = .ok (.ireturn, 1) := by decide +kernel
theorem dX3_init_0 : decode cX3_init 0 = .ok (.aload_n 0, 1) := by decide +kernel
theorem dX3_init_1 : decode cX3_init 1 = .ok (.invokespecial 3, 3) := by decide +kernel
theorem dX3_init_4 : decode cX3_init 4 = .ok (.aload_n 0, 1) := by decide +kernel
theorem dX3_init_5 : decode cX3_init 5 = .ok (.iconst 4, 1) := by decide +kernel
theorem dX3_init_6 : decode cX3_init 6 = .ok (.anewarray 11, 3) := by decide +kernel
theorem dX3_init_9 : decode cX3_init 9 = .ok (.putfield 13, 3) := by decide +kernel
theorem dX3_init_12 : decode cX3_init 12 = .ok (.aload_n 0, 1) := by decide +kernel
theorem dX3_init_13 : decode cX3_init 13 = .ok (.aload_n 1, 1) := by decide +kernel
theorem dX3_init_14 : decode cX3_init 14 = .ok (.putfield 17, 3) := by decide +kernel
theorem dX3_init_17 : decode cX3_init 17 = .ok (.aload_n 0, 1) := by decide +kernel
theorem dX3_init_18 : decode cX3_init 18 = .ok (.new 21, 3) := by decide +kernel
theorem dX3_init_21 : decode cX3_init 21 = .ok (.dup, 1) := by decide +kernel
theorem dX3_init_22 : decode cX3_init 22 = .ok (.aload_n 1, 1) := by decide +kernel
theorem dX3_init_23 : decode cX3_init 23 = .ok (.invokespecial 23, 3) := by decide +kernel
theorem dX3_init_26 : decode cX3_init 26 = .ok (.putfield 26, 3) := by decide +kernel
theorem dX3_init_29 : decode cX3_init 29 = .ok (.iconst 0, 1) := by decide +kernel
theorem dX3_init_30 : decode cX3_init 30 = .ok (.istore_n 2, 1) := by decide +kernel
theorem dX3_init_31 : decode cX3_init 31 = .ok (.iload_n 2, 1) := by decide +kernel
theorem dX3_init_32 : decode cX3_init 32 = .ok (.iconst 4, 1) := by decide +kernel
theorem dX3_init_33 : decode cX3_init 33 = .ok (.if_icmp .ge 22, 3) := by decide +kernel
theorem dX3_init_36 : decode cX3_init 36 = .ok (.aload_n 0, 1) := by decide +kernel
theorem dX3_init_37 : decode cX3_init 37 = .ok (.getfield 13, 3) := by decide +kernel
theorem dX3_init_40 : decode cX3_init 40 = .ok (.iload_n 2, 1) := by decide +kernel
theorem dX3_init_41 : decode cX3_init 41 = .ok (.new 11, 3) := by decide +kernel
theorem dX3_init_44 : decode cX3_init 44 = .ok (.dup, 1) := by decide +kernel
theorem dX3_init_45 : decode cX3_init 45 = .ok (.invokespecial 30, 3) := by decide +kernel
theorem dX3_init_48 : decode cX3_init 48 = .ok (.aastore, 1) := by decide +kernel
theorem dX3_init_49 : decode cX3_init 49 = .ok (.iinc 2 1, 3) := by decide +kernel
theorem dX3_init_52 : decode cX3_init 52 = .ok (.goto (-21), 3) := by decide +kernel
theorem dX3_init_55 : decode cX3_init 55 = .ok (.return_, 1) := by decide +kernel
theorem dX3_size_0 : decode cX3_size 0 = .ok (.aload_n 0, 1) := by decide +kernel
theorem dX3_size_1 : decode cX3_size 1 = .ok (.getfield 31, 3) := by decide +kernel
theorem dX3_size_4 : decode cX3_size 4 = .ok (.ireturn, 1) := by decide +kernel
theorem dX3_isEmpty_0 : decode cX3_isEmpty 0 = .ok (.aload_n 0, 1) := by decide +kernel
theorem dX3_isEmpty_1 : decode cX3_isEmpty 1 = .ok (.getfield 31, 3) := by decide +kernel
theorem dX3_isEmpty_4 : decode cX3_isEmpty 4 = .ok (.ifCond .ne 7, 3) := by decide +kernel
theorem dX3_isEmpty_7 : decode cX3_isEmpty 7 = .ok (.iconst 1, 1) := by decide +kernel
theorem dX3_isEmpty_8 : decode cX3_isEmpty 8 = .ok (.goto 4, 3) := by decide +kernel
theorem dX3_isEmpty_11 : decode cX3_isEmpty 11 = .ok (.iconst 0, 1) := by decide +kernel
theorem dX3_isEmpty_12 : decode cX3_isEmpty 12 = .ok (.ireturn, 1) := by decide +kernel
theorem dX3_isFull_0 : decode cX3_isFull 0 = .ok (.aload_n 0, 1) := by decide +kernel
theorem dX3_isFull_1 : decode cX3_isFull 1 = .ok (.getfield 31, 3) := by decide +kernel
theorem dX3_isFull_4 : decode cX3_isFull 4 = .ok (.iconst 4, 1) := by decide +kernel
theorem dX3_isFull_5 : decode cX3_isFull 5 = .ok (.if_icmp .lt 7, 3) := by decide +kernel
theorem dX3_isFull_8 : decode cX3_isFull 8 = .ok (.iconst 1, 1) := by decide +kernel
theorem dX3_isFull_9 : decode cX3_isFull 9 = .ok (.goto 4, 3) := by decide +kernel
theorem dX3_isFull_12 : decode cX3_isFull 12 = .ok (.iconst 0, 1) := by decide +kernel
theorem dX3_isFull_13 : decode cX3_isFull 13 = .ok (.ireturn, 1) := by decide +kernel
theorem dX3_admit_0 : decode cX3_admit 0 = .ok (.aload_n 0, 1) := by decide +kernel
theorem dX3_admit_1 : decode cX3_admit 1 = .ok (.invokevirtual 35, 3) := by decide +kernel
theorem dX3_admit_4 : decode cX3_admit 4 = .ok (.ifCond .eq 6, 3) := by decide +kernel
theorem dX3_admit_7 : decode cX3_admit 7 = .ok (.bipush (-3), 2) := by decide +kernel
theorem dX3_admit_9 : decode cX3_admit 9 = .ok (.ireturn, 1) := by decide +kernel
theorem dX3_admit_10 : decode cX3_admit 10 = .ok (.aload_n 0, 1) := by decide +kernel
theorem dX3_admit_11 : decode cX3_admit 11 = .ok (.getfield 13, 3) := by decide +kernel
theorem dX3_admit_14 : decode cX3_admit 14 = .ok (.aload_n 0, 1) := by decide +kernel
theorem dX3_admit_15 : decode cX3_admit 15 = .ok (.getfield 31, 3) := by decide +kernel
theorem dX3_admit_18 : decode cX3_admit 18 = .ok (.aaload, 1) := by decide +kernel
theorem dX3_admit_19 : decode cX3_admit 19 = .ok (.aload_n 1, 1) := by decide +kernel
theorem dX3_admit_20 : decode cX3_admit 20 = .ok (.iload_n 2, 1) := by decide +kernel
theorem dX3_admit_21 : decode cX3_admit 21 = .ok (.iload_n 3, 1) := by decide +kernel
theorem dX3_admit_22 : decode cX3_admit 22 = .ok (.invokevirtual 39, 3) := by decide +kernel
theorem dX3_admit_25 : decode cX3_admit 25 = .ok (.aload_n 0, 1) := by decide +kernel
theorem dX3_admit_26 : decode cX3_admit 26 = .ok (.dup, 1) := by decide +kernel
theorem dX3_admit_27 : decode cX3_admit 27 = .ok (.getfield 31, 3) := by decide +kernel
theorem dX3_admit_30 : decode cX3_admit 30 = .ok (.iconst 1, 1) := by decide +kernel
theorem dX3_admit_31 : decode cX3_admit 31 = .ok (.iadd, 1) := by decide +kernel
theorem dX3_admit_32 : decode cX3_admit 32 = .ok (.putfield 31, 3) := by decide +kernel
theorem dX3_admit_35 : decode cX3_admit 35 = .ok (.aload_n 0, 1) := by decide +kernel
theorem dX3_admit_36 : decode cX3_admit 36 = .ok (.getfield 31, 3) := by decide +kernel
theorem dX3_admit_39 : decode cX3_admit 39 = .ok (.iconst 1, 1) := by decide +kernel
theorem dX3_admit_40 : decode cX3_admit 40 = .ok (.isub, 1) := by decide +kernel
theorem dX3_admit_41 : decode cX3_admit 41 = .ok (.ireturn, 1) := by decide +kernel
theorem dX3_takeDown_0 : decode cX3_takeDown 0 = .ok (.aload_n 0, 1) := by decide +kernel
theorem dX3_takeDown_1 : decode cX3_takeDown 1 = .ok (.iload_n 1, 1) := by decide +kernel
theorem dX3_takeDown_2 : decode cX3_takeDown 2 = .ok (.invokevirtual 43, 3) := by decide +kernel
theorem dX3_takeDown_5 : decode cX3_takeDown 5 = .ok (.ifCond .ne 4, 3) := by decide +kernel
theorem dX3_takeDown_8 : decode cX3_takeDown 8 = .ok (.return_, 1) := by decide +kernel
theorem dX3_takeDown_9 : decode cX3_takeDown 9 = .ok (.aload_n 0, 1) := by decide +kernel
theorem dX3_takeDown_10 : decode cX3_takeDown 10 = .ok (.getfield 13, 3) := by decide +kernel
theorem dX3_takeDown_13 : decode cX3_takeDown 13 = .ok (.iload_n 1, 1) := by decide +kernel
theorem dX3_takeDown_14 : decode cX3_takeDown 14 = .ok (.aaload, 1) := by decide +kernel
theorem dX3_takeDown_15 : decode cX3_takeDown 15 = .ok (.astore 4, 2) := by decide +kernel
theorem dX3_takeDown_17 : decode cX3_takeDown 17 = .ok (.iload_n 2, 1) := by decide +kernel
theorem dX3_takeDown_18 : decode cX3_takeDown 18 = .ok (.istore 5, 2) := by decide +kernel
theorem dX3_takeDown_20 : decode cX3_takeDown 20 = .ok (.iconst 0, 1) := by decide +kernel
theorem dX3_takeDown_21 : decode cX3_takeDown 21 = .ok (.istore 6, 2) := by decide +kernel
theorem dX3_takeDown_23 : decode cX3_takeDown 23 = .ok (.iload 6, 2) := by decide +kernel
theorem dX3_takeDown_25 : decode cX3_takeDown 25 = .ok (.aload_n 0, 1) := by decide +kernel
theorem dX3_takeDown_26 : decode cX3_takeDown 26 = .ok (.getfield 17, 3) := by decide +kernel
theorem dX3_takeDown_29 : decode cX3_takeDown 29 = .ok (.invokevirtual 60, 3) := by decide +kernel
theorem dX3_takeDown_32 : decode cX3_takeDown 32 = .ok (.if_icmp .ge 98, 3) := by decide +kernel
theorem dX3_takeDown_35 : decode cX3_takeDown 35 = .ok (.iload 5, 2) := by decide +kernel
theorem dX3_takeDown_37 : decode cX3_takeDown 37 = .ok (.ldc 65, 2) := by decide +kernel
theorem dX3_takeDown_39 : decode cX3_takeDown 39 = .ok (.imul, 1) := by decide +kernel
theorem dX3_takeDown_40 : decode cX3_takeDown 40 = .ok (.sipush 12345, 3) := by decide +kernel
theorem dX3_takeDown_43 : decode cX3_takeDown 43 = .ok (.iadd, 1) := by decide +kernel
theorem dX3_takeDown_44 : decode cX3_takeDown 44 = .ok (.istore 5, 2) := by decide +kernel
theorem dX3_takeDown_46 : decode cX3_takeDown 46 = .ok (.iload 5, 2) := by decide +kernel
theorem dX3_takeDown_48 : decode cX3_takeDown 48 = .ok (.bipush 8, 2) := by decide +kernel
theorem dX3_takeDown_50 : decode cX3_takeDown 50 = .ok (.iushr, 1) := by decide +kernel
theorem dX3_takeDown_51 : decode cX3_takeDown 51 = .ok (.bipush 100, 2) := by decide +kernel
theorem dX3_takeDown_53 : decode cX3_takeDown 53 = .ok (.irem, 1) := by decide +kernel
theorem dX3_takeDown_54 : decode cX3_takeDown 54 = .ok (.aload_n 0, 1) := by decide +kernel
theorem dX3_takeDown_55 : decode cX3_takeDown 55 = .ok (.iload_n 1, 1) := by decide +kernel
theorem dX3_takeDown_56 : decode cX3_takeDown 56 = .ok (.iload 6, 2) := by decide +kernel
theorem dX3_takeDown_58 : decode cX3_takeDown 58 = .ok (.invokevirtual 66, 3) := by decide +kernel
theorem dX3_takeDown_61 : decode cX3_takeDown 61 = .ok (.if_icmp .ge 63, 3) := by decide +kernel
theorem dX3_takeDown_64 : decode cX3_takeDown 64 = .ok (.aload_n 0, 1) := by decide +kernel
theorem dX3_takeDown_65 : decode cX3_takeDown 65 = .ok (.getfield 17, 3) := by decide +kernel
theorem dX3_takeDown_68 : decode cX3_takeDown 68 = .ok (.iload 6, 2) := by decide +kernel
theorem dX3_takeDown_70 : decode cX3_takeDown 70 = .ok (.iconst 3, 1) := by decide +kernel
theorem dX3_takeDown_71 : decode cX3_takeDown 71 = .ok (.invokevirtual 69, 3) := by decide +kernel
theorem dX3_takeDown_74 : decode cX3_takeDown 74 = .ok (.istore 7, 2) := by decide +kernel
theorem dX3_takeDown_76 : decode cX3_takeDown 76 = .ok (.aload 4, 2) := by decide +kernel
theorem dX3_takeDown_78 : decode cX3_takeDown 78 = .ok (.aload_n 0, 1) := by decide +kernel
theorem dX3_takeDown_79 : decode cX3_takeDown 79 = .ok (.getfield 17, 3) := by decide +kernel
theorem dX3_takeDown_82 : decode cX3_takeDown 82 = .ok (.iload 6, 2) := by decide +kernel
theorem dX3_takeDown_84 : decode cX3_takeDown 84 = .ok (.iconst 0, 1) := by decide +kernel
theorem dX3_takeDown_85 : decode cX3_takeDown 85 = .ok (.invokevirtual 69, 3) := by decide +kernel
theorem dX3_takeDown_88 : decode cX3_takeDown 88 = .ok (.invokevirtual 72, 3) := by decide +kernel
theorem dX3_takeDown_91 : decode cX3_takeDown 91 = .ok (.istore 8, 2) := by decide +kernel
theorem dX3_takeDown_93 : decode cX3_takeDown 93 = .ok (.aload_n 3, 1) := by decide +kernel
theorem dX3_takeDown_94 : decode cX3_takeDown 94 = .ok (.iload 6, 2) := by decide +kernel
theorem dX3_takeDown_96 : decode cX3_takeDown 96 = .ok (.aload_n 0, 1) := by decide +kernel
theorem dX3_takeDown_97 : decode cX3_takeDown 97 = .ok (.getfield 17, 3) := by decide +kernel
theorem dX3_takeDown_100 : decode cX3_takeDown 100 = .ok (.iload 6, 2) := by decide +kernel
theorem dX3_takeDown_102 : decode cX3_takeDown 102 = .ok (.iconst 1, 1) := by decide +kernel
theorem dX3_takeDown_103 : decode cX3_takeDown 103 = .ok (.invokevirtual 69, 3) := by decide +kernel
theorem dX3_takeDown_106 : decode cX3_takeDown 106 = .ok (.iload 8, 2) := by decide +kernel
theorem dX3_takeDown_108 : decode cX3_takeDown 108 = .ok (.ifCond .eq 10, 3) := by decide +kernel
theorem dX3_takeDown_111 : decode cX3_takeDown 111 = .ok (.iconst 2, 1) := by decide +kernel
theorem dX3_takeDown_112 : decode cX3_takeDown 112 = .ok (.iload 7, 2) := by decide +kernel
theorem dX3_takeDown_114 : decode cX3_takeDown 114 = .ok (.imul, 1) := by decide +kernel
theorem dX3_takeDown_115 : decode cX3_takeDown 115 = .ok (.goto 5, 3) := by decide +kernel
theorem dX3_takeDown_118 : decode cX3_takeDown 118 = .ok (.iload 7, 2) := by decide +kernel
theorem dX3_takeDown_120 : decode cX3_takeDown 120 = .ok (.invokevirtual 75, 3) := by decide +kernel
theorem dX3_takeDown_123 : decode cX3_takeDown 123 = .ok (.pop, 1) := by decide +kernel
theorem dX3_takeDown_124 : decode cX3_takeDown 124 = .ok (.iinc 6 1, 3) := by decide +kernel
theorem dX3_takeDown_127 : decode cX3_takeDown 127 = .ok (.goto (-104), 3) := by decide +kernel
theorem dX3_takeDown_130 : decode cX3_takeDown 130 = .ok (.aload_n 3, 1) := by decide +kernel
theorem dX3_takeDown_131 : decode cX3_takeDown 131 = .ok (.aload 4, 2) := by decide +kernel
theorem dX3_takeDown_133 : decode cX3_takeDown 133 = .ok (.aload_n 0, 1) := by decide +kernel
theorem dX3_takeDown_134 : decode cX3_takeDown 134 = .ok (.getfield 17, 3) := by decide +kernel
theorem dX3_takeDown_137 : decode cX3_takeDown 137 = .ok (.invokevirtual 81, 3) := by decide +kernel
theorem dX3_takeDown_140 : decode cX3_takeDown 140 = .ok (.return_, 1) := by decide +kernel
theorem dX3_chanceOf_0 : decode cX3_chanceOf 0 = .ok (.ldc2_w 89, 3) := by decide +kernel
theorem dX3_chanceOf_3 : decode cX3_chanceOf 3 = .ok (.lstore_n 3, 1) := by decide +kernel
theorem dX3_chanceOf_4 : decode cX3_chanceOf 4 = .ok (.iconst 0, 1) := by decide +kernel
theorem dX3_chanceOf_5 : decode cX3_chanceOf 5 = .ok (.istore 5, 2) := by decide +kernel
theorem dX3_chanceOf_7 : decode cX3_chanceOf 7 = .ok (.iload 5, 2) := by decide +kernel
theorem dX3_chanceOf_9 : decode cX3_chanceOf 9 = .ok (.aload_n 0, 1) := by decide +kernel
theorem dX3_chanceOf_10 : decode cX3_chanceOf 10 = .ok (.getfield 17, 3) := by decide +kernel
theorem dX3_chanceOf_13 : decode cX3_chanceOf 13 = .ok (.invokevirtual 60, 3) := by decide +kernel
theorem dX3_chanceOf_16 : decode cX3_chanceOf 16 = .ok (.if_icmp .ge 45, 3) := by decide +kernel
theorem dX3_chanceOf_19 : decode cX3_chanceOf 19 = .ok (.aload_n 0, 1) := by decide +kernel
theorem dX3_chanceOf_20 : decode cX3_chanceOf 20 = .ok (.iload_n 1, 1) := by decide +kernel
theorem dX3_chanceOf_21 : decode cX3_chanceOf 21 = .ok (.iload 5, 2) := by decide +kernel
theorem dX3_chanceOf_23 : decode cX3_chanceOf 23 = .ok (.invokevirtual 66, 3) := by decide +kernel
theorem dX3_chanceOf_26 : decode cX3_chanceOf 26 = .ok (.istore 6, 2) := by decide +kernel
theorem dX3_chanceOf_28 : decode cX3_chanceOf 28 = .ok (.lload_n 3, 1) := by decide +kernel
theorem dX3_chanceOf_29 : decode cX3_chanceOf 29 = .ok (.aload_n 2, 1) := by decide +kernel
theorem dX3_chanceOf_30 : decode cX3_chanceOf 30 = .ok (.iload 5, 2) := by decide +kernel
theorem dX3_chanceOf_32 : decode cX3_chanceOf 32 = .ok (.invokevirtual 91, 3) := by decide +kernel
theorem dX3_chanceOf_35 : decode cX3_chanceOf 35 = .ok (.ifCond .lt 8, 3) := by decide +kernel
theorem dX3_chanceOf_38 : decode cX3_chanceOf 38 = .ok (.iload 6, 2) := by decide +kernel
theorem dX3_chanceOf_40 : decode cX3_chanceOf 40 = .ok (.goto 8, 3) := by decide +kernel
theorem dX3_chanceOf_43 : decode cX3_chanceOf 43 = .ok (.bipush 100, 2) := by decide +kernel
theorem dX3_chanceOf_45 : decode cX3_chanceOf 45 = .ok (.iload 6, 2) := by decide +kernel
theorem dX3_chanceOf_47 : decode cX3_chanceOf 47 = .ok (.isub, 1) := by decide +kernel
theorem dX3_chanceOf_48 : decode cX3_chanceOf 48 = .ok (.i2l, 1) := by decide +kernel
theorem dX3_chanceOf_49 : decode cX3_chanceOf 49 = .ok (.lmul, 1) := by decide +kernel
theorem dX3_chanceOf_50 : decode cX3_chanceOf 50 = .ok (.ldc2_w 95, 3) := by decide +kernel
theorem dX3_chanceOf_53 : decode cX3_chanceOf 53 = .ok (.ldiv, 1) := by decide +kernel
theorem dX3_chanceOf_54 : decode cX3_chanceOf 54 = .ok (.lstore_n 3, 1) := by decide +kernel
theorem dX3_chanceOf_55 : decode cX3_chanceOf 55 = .ok (.iinc 5 1, 3) := by decide +kernel
theorem dX3_chanceOf_58 : decode cX3_chanceOf 58 = .ok (.goto (-51), 3) := by decide +kernel
theorem dX3_chanceOf_61 : decode cX3_chanceOf 61 = .ok (.lload_n 3, 1) := by decide +kernel
theorem dX3_chanceOf_62 : decode cX3_chanceOf 62 = .ok (.lreturn, 1) := by decide +kernel
theorem dX3_likeliest_0 : decode cX3_likeliest 0 = .ok (.bipush (-2), 2) := by decide +kernel
theorem dX3_likeliest_2 : decode cX3_likeliest 2 = .ok (.istore_n 2, 1) := by decide +kernel
theorem dX3_likeliest_3 : decode cX3_likeliest 3 = .ok (.lconst 0, 1) := by decide +kernel
theorem dX3_likeliest_4 : decode cX3_likeliest 4 = .ok (.lstore_n 3, 1) := by decide +kernel
theorem dX3_likeliest_5 : decode cX3_likeliest 5 = .ok (.iconst 0, 1) := by decide +kernel
theorem dX3_likeliest_6 : decode cX3_likeliest 6 = .ok (.istore 5, 2) := by decide +kernel
theorem dX3_likeliest_8 : decode cX3_likeliest 8 = .ok (.iload 5, 2) := by decide +kernel
theorem dX3_likeliest_10 : decode cX3_likeliest 10 = .ok (.aload_n 0, 1) := by decide +kernel
theorem dX3_likeliest_11 : decode cX3_likeliest 11 = .ok (.getfield 31, 3) := by decide +kernel
theorem dX3_likeliest_14 : decode cX3_likeliest 14 = .ok (.if_icmp .ge 31, 3) := by decide +kernel
theorem dX3_likeliest_17 : decode cX3_likeliest 17 = .ok (.aload_n 0, 1) := by decide +kernel
theorem dX3_likeliest_18 : decode cX3_likeliest 18 = .ok (.iload 5, 2) := by decide +kernel
theorem dX3_likeliest_20 : decode cX3_likeliest 20 = .ok (.aload_n 1, 1) := by decide +kernel
theorem dX3_likeliest_21 : decode cX3_likeliest 21 = .ok (.invokevirtual 85, 3) := by decide +kernel
theorem dX3_likeliest_24 : decode cX3_likeliest 24 = .ok (.lstore 6, 2) := by decide +kernel
theorem dX3_likeliest_26 : decode cX3_likeliest 26 = .ok (.lload 6, 2) := by decide +kernel
theorem dX3_likeliest_28 : decode cX3_likeliest 28 = .ok (.lload_n 3, 1) := by decide +kernel
theorem dX3_likeliest_29 : decode cX3_likeliest 29 = .ok (.lcmp, 1) := by decide +kernel
theorem dX3_likeliest_30 : decode cX3_likeliest 30 = .ok (.ifCond .le 9, 3) := by decide +kernel
theorem dX3_likeliest_33 : decode cX3_likeliest 33 = .ok (.lload 6, 2) := by decide +kernel
theorem dX3_likeliest_35 : decode cX3_likeliest 35 = .ok (.lstore_n 3, 1) := by decide +kernel
theorem dX3_likeliest_36 : decode cX3_likeliest 36 = .ok (.iload 5, 2) := by decide +kernel
theorem dX3_likeliest_38 : decode cX3_likeliest 38 = .ok (.istore_n 2, 1) := by decide +kernel
theorem dX3_likeliest_39 : decode cX3_likeliest 39 = .ok (.iinc 5 1, 3) := by decide +kernel
theorem dX3_likeliest_42 : decode cX3_likeliest 42 = .ok (.goto (-34), 3) := by decide +kernel
theorem dX3_likeliest_45 : decode cX3_likeliest 45 = .ok (.iload_n 2, 1) := by decide +kernel
theorem dX3_likeliest_46 : decode cX3_likeliest 46 = .ok (.ireturn, 1) := by decide +kernel
theorem dX3_offOf_0 : decode cX3_offOf 0 = .ok (.iload_n 2, 1) := by decide +kernel
theorem dX3_offOf_1 : decode cX3_offOf 1 = .ok (.invokestatic 101, 3) := by decide +kernel
theorem dX3_offOf_4 : decode cX3_offOf 4 = .ok (.istore 4, 2) := by decide +kernel
theorem dX3_offOf_6 : decode cX3_offOf 6 = .ok (.iconst 0, 1) := by decide +kernel
theorem dX3_offOf_7 : decode cX3_offOf 7 = .ok (.istore 5, 2) := by decide +kernel
theorem dX3_offOf_9 : decode cX3_offOf 9 = .ok (.iconst 0, 1) := by decide +kernel
theorem dX3_offOf_10 : decode cX3_offOf 10 = .ok (.istore 6, 2) := by decide +kernel
theorem dX3_offOf_12 : decode cX3_offOf 12 = .ok (.iload 6, 2) := by decide +kernel
theorem dX3_offOf_14 : decode cX3_offOf 14 = .ok (.aload_n 0, 1) := by decide +kernel
theorem dX3_offOf_15 : decode cX3_offOf 15 = .ok (.getfield 17, 3) := by decide +kernel
theorem dX3_offOf_18 : decode cX3_offOf 18 = .ok (.invokevirtual 60, 3) := by decide +kernel
theorem dX3_offOf_21 : decode cX3_offOf 21 = .ok (.if_icmp .ge 38, 3) := by decide +kernel
theorem dX3_offOf_24 : decode cX3_offOf 24 = .ok (.iload 5, 2) := by decide +kernel
theorem dX3_offOf_26 : decode cX3_offOf 26 = .ok (.aload_n 0, 1) := by decide +kernel
theorem dX3_offOf_27 : decode cX3_offOf 27 = .ok (.iload_n 1, 1) := by decide +kernel
theorem dX3_offOf_28 : decode cX3_offOf 28 = .ok (.iload 6, 2) := by decide +kernel
theorem dX3_offOf_30 : decode cX3_offOf 30 = .ok (.invokevirtual 66, 3) := by decide +kernel
theorem dX3_offOf_33 : decode cX3_offOf 33 = .ok (.iload 4, 2) := by decide +kernel
theorem dX3_offOf_35 : decode cX3_offOf 35 = .ok (.imul, 1) := by decide +kernel
theorem dX3_offOf_36 : decode cX3_offOf 36 = .ok (.bipush 100, 2) := by decide +kernel
theorem dX3_offOf_38 : decode cX3_offOf 38 = .ok (.aload_n 3, 1) := by decide +kernel
theorem dX3_offOf_39 : decode cX3_offOf 39 = .ok (.iload 6, 2) := by decide +kernel
theorem dX3_offOf_41 : decode cX3_offOf 41 = .ok (.iload_n 2, 1) := by decide +kernel
theorem dX3_offOf_42 : decode cX3_offOf 42 = .ok (.invokevirtual 106, 3) := by decide +kernel
theorem dX3_offOf_45 : decode cX3_offOf 45 = .ok (.imul, 1) := by decide +kernel
theorem dX3_offOf_46 : decode cX3_offOf 46 = .ok (.isub, 1) := by decide +kernel
theorem dX3_offOf_47 : decode cX3_offOf 47 = .ok (.invokestatic 111, 3) := by decide +kernel
theorem dX3_offOf_50 : decode cX3_offOf 50 = .ok (.iadd, 1) := by decide +kernel
theorem dX3_offOf_51 : decode cX3_offOf 51 = .ok (.istore 5, 2) := by decide +kernel
theorem dX3_offOf_53 : decode cX3_offOf 53 = .ok (.iinc 6 1, 3) := by decide +kernel
theorem dX3_offOf_56 : decode cX3_offOf 56 = .ok (.goto (-44), 3) := by decide +kernel
theorem dX3_offOf_59 : decode cX3_offOf 59 = .ok (.iload 5, 2) := by decide +kernel
theorem dX3_offOf_61 : decode cX3_offOf 61 = .ok (.ireturn, 1) := by decide +kernel
theorem dX3_leastOff_0 : decode cX3_leastOff 0 = .ok (.iconst 0, 1) := by decide +kernel
theorem dX3_leastOff_1 : decode cX3_leastOff 1 = .ok (.istore_n 3, 1) := by decide +kernel
theorem dX3_leastOff_2 : decode cX3_leastOff 2 = .ok (.aload_n 0, 1) := by decide +kernel
theorem dX3_leastOff_3 : decode cX3_leastOff 3 = .ok (.iconst 0, 1) := by decide +kernel
theorem dX3_leastOff_4 : decode cX3_leastOff 4 = .ok (.iload_n 1, 1) := by decide +kernel
theorem dX3_leastOff_5 : decode cX3_leastOff 5 = .ok (.aload_n 2, 1) := by decide +kernel
theorem dX3_leastOff_6 : decode cX3_leastOff 6 = .ok (.invokevirtual 97, 3) := by decide +kernel
theorem dX3_leastOff_9 : decode cX3_leastOff 9 = .ok (.istore 4, 2) := by decide +kernel
theorem dX3_leastOff_11 : decode cX3_leastOff 11 = .ok (.iconst 1, 1) := by decide +kernel
theorem dX3_leastOff_12 : decode cX3_leastOff 12 = .ok (.istore 5, 2) := by decide +kernel
theorem dX3_leastOff_14 : decode cX3_leastOff 14 = .ok (.iload 5, 2) := by decide +kernel
theorem dX3_leastOff_16 : decode cX3_leastOff 16 = .ok (.aload_n 0, 1) := by decide +kernel
theorem dX3_leastOff_17 : decode cX3_leastOff 17 = .ok (.getfield 31, 3) := by decide +kernel
theorem dX3_leastOff_20 : decode cX3_leastOff 20 = .ok (.if_icmp .ge 33, 3) := by decide +kernel
theorem dX3_leastOff_23 : decode cX3_leastOff 23 = .ok (.aload_n 0, 1) := by decide +kernel
theorem dX3_leastOff_24 : decode cX3_leastOff 24 = .ok (.iload 5, 2) := by decide +kernel
theorem dX3_leastOff_26 : decode cX3_leastOff 26 = .ok (.iload_n 1, 1) := by decide +kernel
theorem dX3_leastOff_27 : decode cX3_leastOff 27 = .ok (.aload_n 2, 1) := by decide +kernel
theorem dX3_leastOff_28 : decode cX3_leastOff 28 = .ok (.invokevirtual 97, 3) := by decide +kernel
theorem dX3_leastOff_31 : decode cX3_leastOff 31 = .ok (.istore 6, 2) := by decide +kernel
theorem dX3_leastOff_33 : decode cX3_leastOff 33 = .ok (.iload 6, 2) := by decide +kernel
theorem dX3_leastOff_35 : decode cX3_leastOff 35 = .ok (.iload 4, 2) := by decide +kernel
theorem dX3_leastOff_37 : decode cX3_leastOff 37 = .ok (.if_icmp .ge 10, 3) := by decide +kernel
theorem dX3_leastOff_40 : decode cX3_leastOff 40 = .ok (.iload 6, 2) := by decide +kernel
theorem dX3_leastOff_42 : decode cX3_leastOff 42 = .ok (.istore 4, 2) := by decide +kernel
theorem dX3_leastOff_44 : decode cX3_leastOff 44 = .ok (.iload 5, 2) := by decide +kernel
theorem dX3_leastOff_46 : decode cX3_leastOff 46 = .ok (.istore_n 3, 1) := by decide +kernel
theorem dX3_leastOff_47 : decode cX3_leastOff 47 = .ok (.iinc 5 1, 3) := by decide +kernel
theorem dX3_leastOff_50 : decode cX3_leastOff 50 = .ok (.goto (-36), 3) := by decide +kernel
theorem dX3_leastOff_53 : decode cX3_leastOff 53 = .ok (.iload_n 3, 1) := by decide +kernel
theorem dX3_leastOff_54 : decode cX3_leastOff 54 = .ok (.ireturn, 1) := by decide +kernel
theorem dX3_pairChance_0 : decode cX3_pairChance 0 = .ok (.iconst 0, 1) := by decide +kernel
theorem dX3_pairChance_1 : decode cX3_pairChance 1 = .ok (.istore_n 3, 1) := by decide +kernel
theorem dX3_pairChance_2 : decode cX3_pairChance 2 = .ok (.iconst 0, 1) := by decide +kernel
theorem dX3_pairChance_3 : decode cX3_pairChance 3 = .ok (.istore 4, 2) := by decide +kernel
theorem dX3_pairChance_5 : decode cX3_pairChance 5 = .ok (.iload 4, 2) := by decide +kernel
theorem dX3_pairChance_7 : decode cX3_pairChance 7 = .ok (.aload_n 0, 1) := by decide +kernel
theorem dX3_pairChance_8 : decode cX3_pairChance 8 = .ok (.getfield 17, 3) := by decide +kernel
theorem dX3_pairChance_11 : decode cX3_pairChance 11 = .ok (.invokevirtual 60, 3) := by decide +kernel
theorem dX3_pairChance_14 : decode cX3_pairChance 14 = .ok (.if_icmp .ge 37, 3) := by decide +kernel
theorem dX3_pairChance_17 : decode cX3_pairChance 17 = .ok (.iload_n 3, 1) := by decide +kernel
theorem dX3_pairChance_18 : decode cX3_pairChance 18 = .ok (.sipush 10000, 3) := by decide +kernel
theorem dX3_pairChance_21 : decode cX3_pairChance 21 = .ok (.bipush 100, 2) := by decide +kernel
theorem dX3_pairChance_23 : decode cX3_pairChance 23 = .ok (.aload_n 0, 1) := by decide +kernel
theorem dX3_pairChance_24 : decode cX3_pairChance 24 = .ok (.iload_n 1, 1) := by decide +kernel
theorem dX3_pairChance_25 : decode cX3_pairChance 25 = .ok (.iload 4, 2) := by decide +kernel
theorem dX3_pairChance_27 : decode cX3_pairChance 27 = .ok (.invokevirtual 66, 3) := by decide +kernel
theorem dX3_pairChance_30 : decode cX3_pairChance 30 = .ok (.isub, 1) := by decide +kernel
theorem dX3_pairChance_31 : decode cX3_pairChance 31 = .ok (.bipush 100, 2) := by decide +kernel
theorem dX3_pairChance_33 : decode cX3_pairChance 33 = .ok (.aload_n 0, 1) := by decide +kernel
theorem dX3_pairChance_34 : decode cX3_pairChance 34 = .ok (.iload_n 2, 1) := by decide +kernel
theorem dX3_pairChance_35 : decode cX3_pairChance 35 = .ok (.iload 4, 2) := by decide +kernel
theorem dX3_pairChance_37 : decode cX3_pairChance 37 = .ok (.invokevirtual 66, 3) := by decide +kernel
theorem dX3_pairChance_40 : decode cX3_pairChance 40 = .ok (.isub, 1) := by decide +kernel
theorem dX3_pairChance_41 : decode cX3_pairChance 41 = .ok (.imul, 1) := by decide +kernel
theorem dX3_pairChance_42 : decode cX3_pairChance 42 = .ok (.isub, 1) := by decide +kernel
theorem dX3_pairChance_43 : decode cX3_pairChance 43 = .ok (.iadd, 1) := by decide +kernel
theorem dX3_pairChance_44 : decode cX3_pairChance 44 = .ok (.istore_n 3, 1) := by decide +kernel
theorem dX3_pairChance_45 : decode cX3_pairChance 45 = .ok (.iinc 4 1, 3) := by decide +kernel
theorem dX3_pairChance_48 : decode cX3_pairChance 48 = .ok (.goto (-43), 3) := by decide +kernel
theorem dX3_pairChance_51 : decode cX3_pairChance 51 = .ok (.iload_n 3, 1) := by decide +kernel
theorem dX3_pairChance_52 : decode cX3_pairChance 52 = .ok (.ireturn, 1) := by decide +kernel
theorem dX3_bestPair_0 : decode cX3_bestPair 0 = .ok (.iconst 1, 1) := by decide +kernel
theorem dX3_bestPair_1 : decode cX3_bestPair 1 = .ok (.istore_n 1, 1) := by decide +kernel
theorem dX3_bestPair_2 : decode cX3_bestPair 2 = .ok (.iconst (-1), 1) := by decide +kernel
theorem dX3_bestPair_3 : decode cX3_bestPair 3 = .ok (.istore_n 2, 1) := by decide +kernel
theorem dX3_bestPair_4 : decode cX3_bestPair 4 = .ok (.iconst 0, 1) := by decide +kernel
theorem dX3_bestPair_5 : decode cX3_bestPair 5 = .ok (.istore_n 3, 1) := by decide +kernel
theorem dX3_bestPair_6 : decode cX3_bestPair 6 = .ok (.iload_n 3, 1) := by decide +kernel
theorem dX3_bestPair_7 : decode cX3_bestPair 7 = .ok (.aload_n 0, 1) := by decide +kernel
theorem dX3_bestPair_8 : decode cX3_bestPair 8 = .ok (.getfield 31, 3) := by decide +kernel
theorem dX3_bestPair_11 : decode cX3_bestPair 11 = .ok (.if_icmp .ge 55, 3) := by decide +kernel
theorem dX3_bestPair_14 : decode cX3_bestPair 14 = .ok (.iload_n 3, 1) := by decide +kernel
theorem dX3_bestPair_15 : decode cX3_bestPair 15 = .ok (.iconst 1, 1) := by decide +kernel
theorem dX3_bestPair_16 : decode cX3_bestPair 16 = .ok (.iadd, 1) := by decide +kernel
theorem dX3_bestPair_17 : decode cX3_bestPair 17 = .ok (.istore 4, 2) := by decide +kernel
theorem dX3_bestPair_19 : decode cX3_bestPair 19 = .ok (.iload 4, 2) := by decide +kernel
theorem dX3_bestPair_21 : decode cX3_bestPair 21 = .ok (.aload_n 0, 1) := by decide +kernel
theorem dX3_bestPair_22 : decode cX3_bestPair 22 = .ok (.getfield 31, 3) := by decide +kernel
theorem dX3_bestPair_25 : decode cX3_bestPair 25 = .ok (.if_icmp .ge 35, 3) := by decide +kernel
theorem dX3_bestPair_28 : decode cX3_bestPair 28 = .ok (.aload_n 0, 1) := by decide +kernel
theorem dX3_bestPair_29 : decode cX3_bestPair 29 = .ok (.iload_n 3, 1) := by decide +kernel
theorem dX3_bestPair_30 : decode cX3_bestPair 30 = .ok (.iload 4, 2) := by decide +kernel
theorem dX3_bestPair_32 : decode cX3_bestPair 32 = .ok (.invokevirtual 114, 3) := by decide +kernel
theorem dX3_bestPair_35 : decode cX3_bestPair 35 = .ok (.istore 5, 2) := by decide +kernel
theorem dX3_bestPair_37 : decode cX3_bestPair 37 = .ok (.iload 5, 2) := by decide +kernel
theorem dX3_bestPair_39 : decode cX3_bestPair 39 = .ok (.iload_n 2, 1) := by decide +kernel
theorem dX3_bestPair_40 : decode cX3_bestPair 40 = .ok (.if_icmp .le 14, 3) := by decide +kernel
theorem dX3_bestPair_43 : decode cX3_bestPair 43 = .ok (.iload 5, 2) := by decide +kernel
theorem dX3_bestPair_45 : decode cX3_bestPair 45 = .ok (.istore_n 2, 1) := by decide +kernel
theorem dX3_bestPair_46 : decode cX3_bestPair 46 = .ok (.bipush 10, 2) := by decide +kernel
theorem dX3_bestPair_48 : decode cX3_bestPair 48 = .ok (.iload_n 3, 1) := by decide +kernel
theorem dX3_bestPair_49 : decode cX3_bestPair 49 = .ok (.imul, 1) := by decide +kernel
theorem dX3_bestPair_50 : decode cX3_bestPair 50 = .ok (.iload 4, 2) := by decide +kernel
theorem dX3_bestPair_52 : decode cX3_bestPair 52 = .ok (.iadd, 1) := by decide +kernel
theorem dX3_bestPair_53 : decode cX3_bestPair 53 = .ok (.istore_n 1, 1) := by decide +kernel
theorem dX3_bestPair_54 : decode cX3_bestPair 54 = .ok (.iinc 4 1, 3) := by decide +kernel
theorem dX3_bestPair_57 : decode cX3_bestPair 57 = .ok (.goto (-38), 3) := by decide +kernel
theorem dX3_bestPair_60 : decode cX3_bestPair 60 = .ok (.iinc 3 1, 3) := by decide +kernel
theorem dX3_bestPair_63 : decode cX3_bestPair 63 = .ok (.goto (-57), 3) := by decide +kernel
theorem dX3_bestPair_66 : decode cX3_bestPair 66 = .ok (.iload_n 1, 1) := by decide +kernel
theorem dX3_bestPair_67 : decode cX3_bestPair 67 = .ok (.ireturn, 1) := by decide +kernel
def fX1_init (x0 x1 : Int) (u0 : zMem) : zRs := if 0 ≤ x0 then (znar 24 10 u0 (fun v1 u2 => zpf 1 1 x0 v1 u2 (fun u3 => zmna 16 16 u3 (fun v4 u5 => zpf 1 2 x0 v4 u5 (fun u6 => zpf 1 0 x0 x1 u6 (fun u7 => zlp (fun _ _ => none) (fun k10 (v8 : Int) (u9 : zMem) => if v8 ≥ 10 then (some (0, u9)) else (zgf 1 1 x0 u9 (fun v11 => znew 6 u9 (fun v12 u13 => zic v12 (fX6_init v12 u13) (fun _ u14 => zasr 24 6 v11 v8 v12 u14 (fun u15 => k10 (zw32 (v8 + 1)) u15)))))) 1000000 0 u7)))))) else none
set_option maxRecDepth 100000 in
set_option maxHeartbeats 4000000 in
theorem rX1_init (l : Launch) (w : zW) (x0 x1 : Int) (u0 : zMem) : zSpc l w 2 yX1_init cX1_init 3 none 0 [zR x0, zR x1] u0 (fX1_init x0 x1 u0) := by
  refine zSpc_of (own := RX1) pnRX1 rfl (Nat.le_of_ble_eq_true rfl) (fun G p e R s m args below meth c C hini => ?_)
  unfold fX1_init
  refine zlocs (lb := [(0, zR x0), (1, zR x1)]) ⟨rfl, rfl, trivial⟩ ?_
  refine z_aload_n C (i := 0) (pc' := 1) dX1_init_0 rfl rfl rfl ?_
  refine z_objinit C (pc' := 4) woRX1_3 woi woc dX1_init_1 rfl (by decide) (Nat.le_of_ble_eq_true rfl) ?_
  refine z_aload_n C (i := 0) (pc' := 5) dX1_init_4 rfl rfl rfl ?_
  refine z_bipush C (pc' := 7) dX1_init_5 kb_10 rfl ?_
  refine z_anewarr C (kd := 24) (C' := RX6) (pc' := 10) (by decide) rfl wkRX1_11 (by decide +kernel) dX1_init_7 rfl (fun v1 u2 => ?_)
  refine z_putfRi C (pc' := 13) flRX1_13 hini rfl fb1_1 dX1_init_10 rfl (fun u3 => ?_)
  refine z_aload_n C (i := 0) (pc' := 14) dX1_init_13 rfl rfl rfl ?_
  refine z_bipush C (pc' := 16) dX1_init_14 kb_16 rfl ?_
  refine z_bipush C (pc' := 18) dX1_init_16 kb_16 rfl ?_
  refine z_mna C (pc' := 22) wkRX1_19 wy20 dX1_init_18 rfl (fun v4 u5 => ?_)
  refine z_putfRi C (pc' := 25) flRX1_21 hini rfl fb1_2 dX1_init_22 rfl (fun u6 => ?_)
  refine z_aload_n C (i := 0) (pc' := 26) dX1_init_25 rfl rfl rfl ?_
  refine z_aload_n C (i := 1) (pc' := 27) dX1_init_26 rfl rfl rfl ?_
  refine z_putfRi C (pc' := 30) flRX1_24 hini rfl fb1_0 dX1_init_27 rfl (fun u7 => ?_)
  refine z_iconst C (pc' := 31) dX1_init_30 kc_0 rfl ?_
  refine z_istore_n C (i := 2) (la' := [(2, zI 0), (0, zR x0), (1, zR x1)]) (pc' := 32) dX1_init_31 rfl (by decide) rfl rfl ?_
  refine zlocs (lb := [(0, zR x0), (2, zI 0)]) ⟨rfl, rfl, trivial⟩ ?_
  refine zlp_ind (fun (f : Int → zMem → zRs) => ∀ (v8 : Int) (u9 : zMem), zSim G p l e R s m args below meth c w 3 (znc u0) (zM w 0 (znc u0) below args s) 32 [(0, zR x0), (2, zI v8)] [] u9 (f v8 u9)) (fun _ _ => znone) (fun k10 hk10 v8 u9 => ?_) _ _ _
  refine z_iload_n C (i := 2) (pc' := 33) dX1_init_32 rfl rfl rfl ?_
  refine z_bipush C (pc' := 35) dX1_init_33 kb_10 rfl ?_
  refine z_icmp_ge C (pc' := 57) (pf := 38) dX1_init_35 rfl rfl (fun _ => ?_) (fun _ => ?_)
  ·
    exact z_return C dX1_init_57
  ·
    refine z_aload_n C (i := 0) (pc' := 39) dX1_init_38 rfl rfl rfl ?_
    refine z_getfR C (pc' := 42) flRX1_13 dX1_init_39 rfl (fun v11 => ?_)
    refine z_iload_n C (i := 2) (pc' := 43) dX1_init_42 rfl rfl rfl ?_
    refine znew_core C (ci := 6) (pc' := 46) rfl wkRX1_11 wi6 wn6 dX1_init_43 rfl (fun v12 u13 => ?_)
    refine z_dup C (pc' := 47) dX1_init_46 rfl rfl ?_
    refine z_callN C (pc' := 50) lnRX1_28 lc_X6_init rfl dX1_init_47 rfl (by decide) (rX6_init l w v12 u13) rfl (Nat.le_of_ble_eq_true rfl) (fun _ u14 => ?_)
    refine z_aast C (ci := 6) (pc' := 51) (by decide) rfl rfl dX1_init_50 rfl (fun u15 => ?_)
    refine z_iinc C (i := 2) (la' := [(2, zI (zw32 (v8 + 1))), (0, zR x0)]) (pc' := 54) dX1_init_51 rfl (by decide) rfl rfl ?_
    refine z_goto C (pc' := 32) dX1_init_54 rfl ?_
    exact zlocs (lb := [(0, zR x0), (2, zI (zw32 (v8 + 1)))]) ⟨rfl, rfl, trivial⟩ (hk10 _ _)
def fX1_size (x0 : Int) (u0 : zMem) : zRs := zgf 1 3 x0 u0 (fun v1 => some (v1, u0))
set_option maxRecDepth 100000 in
set_option maxHeartbeats 4000000 in
theorem rX1_size (l : Launch) (w : zW) (x0 : Int) (u0 : zMem) : zSpc l w 1 yX1_size cX1_size 1 (some .int) 1 [zR x0] u0 (fX1_size x0 u0) := by
  refine zSpc_of (own := RX1) pnRX1 rfl (Nat.le_of_ble_eq_true rfl) (fun G p e R s m args below meth c C hini => ?_)
  unfold fX1_size
  refine zlocs (lb := [(0, zR x0)]) ⟨rfl, trivial⟩ ?_
  refine z_aload_n C (i := 0) (pc' := 1) dX1_size_0 rfl rfl rfl ?_
  refine z_getf C (pc' := 4) flRX1_29 dX1_size_1 rfl (fun v1 => ?_)
  exact z_ireturn C dX1_size_4
def fX1_open (x0 x1 : Int) (u0 : zMem) : zRs := zgf 1 3 x0 u0 (fun v1 => if v1 < 10 then (zgf 1 1 x0 u0 (fun v2 => zgf 1 3 x0 u0 (fun v3 => zald 24 v2 v3 u0 (fun v4 => zvc 6 v4 (fX6_begin v4 x1 u0) (fun _ u5 => zgf 1 3 x0 u5 (fun v6 => zpf 1 3 x0 (zw32 (v6 + 1)) u5 (fun u7 => zgf 1 3 x0 u7 (fun v8 => some ((zw32 (v8 - 1)), u7))))))))) else (some ((-3), u0)))
set_option maxRecDepth 100000 in
set_option maxHeartbeats 4000000 in
theorem rX1_open (l : Launch) (w : zW) (x0 x1 : Int) (u0 : zMem) : zSpc l w 2 yX1_open cX1_open 2 (some .int) 1 [zR x0, zI x1] u0 (fX1_open x0 x1 u0) := by
  refine zSpc_of (own := RX1) pnRX1 rfl (Nat.le_of_ble_eq_true rfl) (fun G p e R s m args below meth c C hini => ?_)
  unfold fX1_open
  refine zlocs (lb := [(0, zR x0), (1, zI x1)]) ⟨rfl, rfl, trivial⟩ ?_
  refine z_aload_n C (i := 0) (pc' := 1) dX1_open_0 rfl rfl rfl ?_
  refine z_getf C (pc' := 4) flRX1_29 dX1_open_1 rfl (fun v1 => ?_)
  refine z_bipush C (pc' := 6) dX1_open_4 kb_10 rfl ?_
  refine z_icmp_lt C (pc' := 12) (pf := 9) dX1_open_6 rfl rfl (fun _ => ?_) (fun _ => ?_)
  ·
    refine z_aload_n C (i := 0) (pc' := 13) dX1_open_12 rfl rfl rfl ?_
    refine z_getfR C (pc' := 16) flRX1_13 dX1_open_13 rfl (fun v2 => ?_)
    refine z_aload_n C (i := 0) (pc' := 17) dX1_open_16 rfl rfl rfl ?_
    refine z_getf C (pc' := 20) flRX1_29 dX1_open_17 rfl (fun v3 => ?_)
    refine z_aald C (pc' := 21) (by decide) dX1_open_20 rfl (fun v4 => ?_)
    refine z_iload_n C (i := 1) (pc' := 22) dX1_open_21 rfl rfl rfl ?_
    refine z_callV0 C (pc' := 25) lvRX1_33 lc_X6_begin rfl dX1_open_22 rfl (by decide) (rX6_begin l w v4 x1 u0) rfl (Nat.le_of_ble_eq_true rfl) (fun _ u5 => ?_)
    refine z_aload_n C (i := 0) (pc' := 26) dX1_open_25 rfl rfl rfl ?_
    refine z_dup C (pc' := 27) dX1_open_26 rfl rfl ?_
    refine z_getf C (pc' := 30) flRX1_29 dX1_open_27 rfl (fun v6 => ?_)
    refine z_iconst C (pc' := 31) dX1_open_30 kc_1 rfl ?_
    refine z_iadd C (pc' := 32) dX1_open_31 rfl ?_
    refine z_putf C (pc' := 35) flRX1_29 fn1_3 fb1_3 dX1_open_32 rfl (fun u7 => ?_)
    refine z_aload_n C (i := 0) (pc' := 36) dX1_open_35 rfl rfl rfl ?_
    refine z_getf C (pc' := 39) flRX1_29 dX1_open_36 rfl (fun v8 => ?_)
    refine z_iconst C (pc' := 40) dX1_open_39 kc_1 rfl ?_
    refine z_isub C (pc' := 41) dX1_open_40 rfl ?_
    exact z_ireturn C dX1_open_41
  ·
    refine z_bipush C (pc' := 11) dX1_open_9 kb_m3 rfl ?_
    exact z_ireturn C dX1_open_11
def fX1_paper (x0 x1 : Int) (u0 : zMem) : zRs := zjn (fun (u1 : zMem) => some ((-1), u1)) (fun k2 => if x1 < 0 then (k2 u0) else (zgf 1 3 x0 u0 (fun v3 => if x1 ≥ v3 then (k2 u0) else (zgf 1 1 x0 u0 (fun v4 => zald 24 v4 x1 u0 (fun v5 => some (v5, u0)))))))
set_option maxRecDepth 100000 in
set_option maxHeartbeats 4000000 in
theorem rX1_paper (l : Launch) (w : zW) (x0 x1 : Int) (u0 : zMem) : zSpc l w 1 yX1_paper cX1_paper 2 (some (.object RX6)) 3 [zR x0, zI x1] u0 (fX1_paper x0 x1 u0) := by
  refine zSpc_of (own := RX1) pnRX1 rfl (Nat.le_of_ble_eq_true rfl) (fun G p e R s m args below meth c C hini => ?_)
  unfold fX1_paper
  refine zlocs (lb := [(0, zR x0), (1, zI x1)]) ⟨rfl, rfl, trivial⟩ ?_
  refine z_iload_n C (i := 1) (pc' := 1) dX1_paper_0 rfl rfl rfl ?_
  refine zjoin (P := fun (f : zMem → zRs) => ∀ (u1 : zMem), zSim G p l e R s m args below meth c w 2 (znc u0) (zM w 3 (znc u0) below args s) 21 [] [] u1 (f u1)) (fun u1 => ?_) (fun k2 hk2 => ?_)
  ·
    refine z_null C (pc' := 22) dX1_paper_21 rfl ?_
    exact z_areturn C dX1_paper_22
  ·
    refine z_if_lt C (pc' := 21) (pf := 4) dX1_paper_1 rfl rfl (fun _ => ?_) (fun _ => ?_)
    ·
      exact zlocs (lb := []) trivial (hk2 _)
    ·
      refine z_iload_n C (i := 1) (pc' := 5) dX1_paper_4 rfl rfl rfl ?_
      refine z_aload_n C (i := 0) (pc' := 6) dX1_paper_5 rfl rfl rfl ?_
      refine z_getf C (pc' := 9) flRX1_29 dX1_paper_6 rfl (fun v3 => ?_)
      refine z_icmp_ge C (pc' := 21) (pf := 12) dX1_paper_9 rfl rfl (fun _ => ?_) (fun _ => ?_)
      ·
        exact zlocs (lb := []) trivial (hk2 _)
      ·
        refine z_aload_n C (i := 0) (pc' := 13) dX1_paper_12 rfl rfl rfl ?_
        refine z_getfR C (pc' := 16) flRX1_13 dX1_paper_13 rfl (fun v4 => ?_)
        refine z_iload_n C (i := 1) (pc' := 17) dX1_paper_16 rfl rfl rfl ?_
        refine z_aald C (pc' := 18) (by decide) dX1_paper_17 rfl (fun v5 => ?_)
        refine z_goto C (pc' := 22) dX1_paper_18 rfl ?_
        exact z_areturn C dX1_paper_22
def fX1_papersWith_ (x0 x1 x2 : Int) (u0 : zMem) : zRs := zlp (fun _ _ _ => none) (fun k4 (v1 : Int) (v2 : Int) (u3 : zMem) => zgf 1 3 x0 u3 (fun v5 => if v2 ≥ v5 then (some (v1, u3)) else (zjn (fun (v6 : Int) (u7 : zMem) => k4 v6 (zw32 (v2 + 1)) u7) (fun k8 => if (zand (zshr x2 v2) 1) = 0 then (k8 v1 u3) else (zgf 1 1 x0 u3 (fun v9 => zald 24 v9 v2 u3 (fun v10 => zvc 6 v10 (fX6_placeOf v10 x1 u3) (fun v11 u12 => if v11 < 0 then (k8 v1 u12) else (k8 (zw32 (v1 + 1)) u12))))))))) 1000000 0 0 u0
set_option maxRecDepth 100000 in
set_option maxHeartbeats 4000000 in
theorem rX1_papersWith_ (l : Launch) (w : zW) (x0 x1 x2 : Int) (u0 : zMem) : zSpc l w 2 yX1_papersWith_ cX1_papersWith_ 5 (some .int) 1 [zR x0, zI x1, zI x2] u0 (fX1_papersWith_ x0 x1 x2 u0) := by
  refine zSpc_of (own := RX1) pnRX1 rfl (Nat.le_of_ble_eq_true rfl) (fun G p e R s m args below meth c C hini => ?_)
  unfold fX1_papersWith_
  refine zlocs (lb := [(0, zR x0), (1, zI x1), (2, zI x2)]) ⟨rfl, rfl, rfl, trivial⟩ ?_
  refine z_iconst C (pc' := 1) dX1_papersWith__0 kc_0 rfl ?_
  refine z_istore_n C (i := 3) (la' := [(3, zI 0), (0, zR x0), (1, zI x1), (2, zI x2)]) (pc' := 2) dX1_papersWith__1 rfl (by decide) rfl rfl ?_
  refine z_iconst C (pc' := 3) dX1_papersWith__2 kc_0 rfl ?_
  refine z_istore C (i := 4) (la' := [(4, zI 0), (3, zI 0), (0, zR x0), (1, zI x1), (2, zI x2)]) (pc' := 5) dX1_papersWith__3 (by decide) rfl rfl ?_
  refine zlocs (lb := [(0, zR x0), (1, zI x1), (2, zI x2), (3, zI 0), (4, zI 0)]) ⟨rfl, rfl, rfl, rfl, rfl, trivial⟩ ?_
  refine zlp_ind (fun (f : Int → Int → zMem → zRs) => ∀ (v1 : Int) (v2 : Int) (u3 : zMem), zSim G p l e R s m args below meth c w 5 (znc u0) (zM w 1 (znc u0) below args s) 5 [(0, zR x0), (1, zI x1), (2, zI x2), (3, zI v1), (4, zI v2)] [] u3 (f v1 v2 u3)) (fun _ _ _ => znone) (fun k4 hk4 v1 v2 u3 => ?_) _ _ _ _
  refine z_iload C (pc' := 7) dX1_papersWith__5 rfl rfl ?_
  refine z_aload_n C (i := 0) (pc' := 8) dX1_papersWith__7 rfl rfl rfl ?_
  refine z_getf C (pc' := 11) flRX1_29 dX1_papersWith__8 rfl (fun v5 => ?_)
  refine z_icmp_ge C (pc' := 46) (pf := 14) dX1_papersWith__11 rfl rfl (fun _ => ?_) (fun _ => ?_)
  ·
    refine z_iload_n C (i := 3) (pc' := 47) dX1_papersWith__46 rfl rfl rfl ?_
    exact z_ireturn C dX1_papersWith__47
  ·
    refine z_iload_n C (i := 2) (pc' := 15) dX1_papersWith__14 rfl rfl rfl ?_
    refine z_iload C (pc' := 17) dX1_papersWith__15 rfl rfl ?_
    refine z_ishr C (pc' := 18) dX1_papersWith__17 rfl ?_
    refine z_iconst C (pc' := 19) dX1_papersWith__18 kc_1 rfl ?_
    refine z_iand C (pc' := 20) dX1_papersWith__19 rfl ?_
    refine zjoin (P := fun (f : Int → zMem → zRs) => ∀ (v6 : Int) (u7 : zMem), zSim G p l e R s m args below meth c w 5 (znc u0) (zM w 1 (znc u0) below args s) 40 [(0, zR x0), (1, zI x1), (2, zI x2), (3, zI v6), (4, zI v2)] [] u7 (f v6 u7)) (fun v6 u7 => ?_) (fun k8 hk8 => ?_)
    ·
      refine z_iinc C (i := 4) (la' := [(4, zI (zw32 (v2 + 1))), (0, zR x0), (1, zI x1), (2, zI x2), (3, zI v6)]) (pc' := 43) dX1_papersWith__40 rfl (by decide) rfl rfl ?_
      refine z_goto C (pc' := 5) dX1_papersWith__43 rfl ?_
      exact zlocs (lb := [(0, zR x0), (1, zI x1), (2, zI x2), (3, zI v6), (4, zI (zw32 (v2 + 1)))]) ⟨rfl, rfl, rfl, rfl, rfl, trivial⟩ (hk4 _ _ _)
    ·
      refine z_if_eq C (pc' := 40) (pf := 23) dX1_papersWith__20 rfl rfl (fun _ => ?_) (fun _ => ?_)
      ·
        exact zlocs (lb := [(0, zR x0), (1, zI x1), (2, zI x2), (3, zI v1), (4, zI v2)]) ⟨rfl, rfl, rfl, rfl, rfl, trivial⟩ (hk8 _ _)
      ·
        refine z_aload_n C (i := 0) (pc' := 24) dX1_papersWith__23 rfl rfl rfl ?_
        refine z_getfR C (pc' := 27) flRX1_13 dX1_papersWith__24 rfl (fun v9 => ?_)
        refine z_iload C (pc' := 29) dX1_papersWith__27 rfl rfl ?_
        refine z_aald C (pc' := 30) (by decide) dX1_papersWith__29 rfl (fun v10 => ?_)
        refine z_iload_n C (i := 1) (pc' := 31) dX1_papersWith__30 rfl rfl rfl ?_
        refine z_callV1 C (pc' := 34) lvRX1_41 lc_X6_placeOf rfl dX1_papersWith__31 rfl (by decide) (rX6_placeOf l w v10 x1 u3) rfl (Nat.le_of_ble_eq_true rfl) (fun v11 u12 => ?_)
        refine z_if_lt C (pc' := 40) (pf := 37) dX1_papersWith__34 rfl rfl (fun _ => ?_) (fun _ => ?_)
        ·
          exact zlocs (lb := [(0, zR x0), (1, zI x1), (2, zI x2), (3, zI v1), (4, zI v2)]) ⟨rfl, rfl, rfl, rfl, rfl, trivial⟩ (hk8 _ _)
        ·
          refine z_iinc C (i := 3) (la' := [(3, zI (zw32 (v1 + 1))), (0, zR x0), (1, zI x1), (2, zI x2), (4, zI v2)]) (pc' := 40) dX1_papersWith__37 rfl (by decide) rfl rfl ?_
          exact zlocs (lb := [(0, zR x0), (1, zI x1), (2, zI x2), (3, zI (zw32 (v1 + 1))), (4, zI v2)]) ⟨rfl, rfl, rfl, rfl, rfl, trivial⟩ (hk8 _ _)
def fX1_papersWith (x0 x1 : Int) (u0 : zMem) : zRs := zgf 1 3 x0 u0 (fun v1 => zvc 1 x0 (fX1_papersWith_ x0 x1 (zw32 ((zshl 1 v1) - 1)) u0) (fun v2 u3 => some (v2, u3)))
set_option maxRecDepth 100000 in
set_option maxHeartbeats 4000000 in
theorem rX1_papersWith (l : Launch) (w : zW) (x0 x1 : Int) (u0 : zMem) : zSpc l w 3 yX1_papersWith cX1_papersWith 2 (some .int) 1 [zR x0, zI x1] u0 (fX1_papersWith x0 x1 u0) := by
  refine zSpc_of (own := RX1) pnRX1 rfl (Nat.le_of_ble_eq_true rfl) (fun G p e R s m args below meth c C hini => ?_)
  unfold fX1_papersWith
  refine zlocs (lb := [(0, zR x0), (1, zI x1)]) ⟨rfl, rfl, trivial⟩ ?_
  refine z_aload_n C (i := 0) (pc' := 1) dX1_papersWith_0 rfl rfl rfl ?_
  refine z_iload_n C (i := 1) (pc' := 2) dX1_papersWith_1 rfl rfl rfl ?_
  refine z_iconst C (pc' := 3) dX1_papersWith_2 kc_1 rfl ?_
  refine z_aload_n C (i := 0) (pc' := 4) dX1_papersWith_3 rfl rfl rfl ?_
  refine z_getf C (pc' := 7) flRX1_29 dX1_papersWith_4 rfl (fun v1 => ?_)
  refine z_ishl C (pc' := 8) dX1_papersWith_7 rfl ?_
  refine z_iconst C (pc' := 9) dX1_papersWith_8 kc_1 rfl ?_
  refine z_isub C (pc' := 10) dX1_papersWith_9 rfl ?_
  refine z_callV1 C (pc' := 13) lvRX1_37 lc_X1_papersWith_ rfl dX1_papersWith_10 rfl (by decide) (rX1_papersWith_ l w x0 x1 (zw32 ((zshl 1 v1) - 1)) u0) rfl (Nat.le_of_ble_eq_true rfl) (fun v2 u3 => ?_)
  exact z_ireturn C dX1_papersWith_13
def fX1_writersWith (x0 x1 : Int) (u0 : zMem) : zRs := zlp (fun _ _ _ => none) (fun k4 (v1 : Int) (v2 : Int) (u3 : zMem) => zgf 1 3 x0 u3 (fun v5 => if v2 ≥ v5 then (zcall (fJ6_bitCount_0f7a4 v1 u3) (fun v6 u7 => some (v6, u7))) else (zgf 1 1 x0 u3 (fun v8 => zald 24 v8 v2 u3 (fun v9 => zvc 6 v9 (fX6_by v9 u3) (fun v10 u11 => zjn (fun (v12 : Int) (u13 : zMem) => k4 v12 (zw32 (v2 + 1)) u13) (fun k14 => if v10 < 0 then (k14 v1 u11) else (zgf 1 1 x0 u11 (fun v15 => zald 24 v15 v2 u11 (fun v16 => zvc 6 v16 (fX6_placeOf v16 x1 u11) (fun v17 u18 => if v17 < 0 then (k14 v1 u18) else (zgf 1 1 x0 u18 (fun v19 => zald 24 v19 v2 u18 (fun v20 => zvc 6 v20 (fX6_by v20 u18) (fun v21 u22 => k14 (zor v1 (zshl 1 v21)) u22))))))))))))))) 1000000 0 0 u0
set_option maxRecDepth 100000 in
set_option maxHeartbeats 4000000 in
theorem rX1_writersWith (l : Launch) (w : zW) (x0 x1 : Int) (u0 : zMem) : zSpc l w 2 yX1_writersWith cX1_writersWith 4 (some .int) 1 [zR x0, zI x1] u0 (fX1_writersWith x0 x1 u0) := by
  refine zSpc_of (own := RX1) pnRX1 rfl (Nat.le_of_ble_eq_true rfl) (fun G p e R s m args below meth c C hini => ?_)
  unfold fX1_writersWith
  refine zlocs (lb := [(0, zR x0), (1, zI x1)]) ⟨rfl, rfl, trivial⟩ ?_
  refine z_iconst C (pc' := 1) dX1_writersWith_0 kc_0 rfl ?_
  refine z_istore_n C (i := 2) (la' := [(2, zI 0), (0, zR x0), (1, zI x1)]) (pc' := 2) dX1_writersWith_1 rfl (by decide) rfl rfl ?_
  refine z_iconst C (pc' := 3) dX1_writersWith_2 kc_0 rfl ?_
  refine z_istore_n C (i := 3) (la' := [(3, zI 0), (2, zI 0), (0, zR x0), (1, zI x1)]) (pc' := 4) dX1_writersWith_3 rfl (by decide) rfl rfl ?_
  refine zlocs (lb := [(0, zR x0), (1, zI x1), (2, zI 0), (3, zI 0)]) ⟨rfl, rfl, rfl, rfl, trivial⟩ ?_
  refine zlp_ind (fun (f : Int → Int → zMem → zRs) => ∀ (v1 : Int) (v2 : Int) (u3 : zMem), zSim G p l e R s m args below meth c w 4 (znc u0) (zM w 1 (znc u0) below args s) 4 [(0, zR x0), (1, zI x1), (2, zI v1), (3, zI v2)] [] u3 (f v1 v2 u3)) (fun _ _ _ => znone) (fun k4 hk4 v1 v2 u3 => ?_) _ _ _ _
  refine z_iload_n C (i := 3) (pc' := 5) dX1_writersWith_4 rfl rfl rfl ?_
  refine z_aload_n C (i := 0) (pc' := 6) dX1_writersWith_5 rfl rfl rfl ?_
  refine z_getf C (pc' := 9) flRX1_29 dX1_writersWith_6 rfl (fun v5 => ?_)
  refine z_icmp_ge C (pc' := 57) (pf := 12) dX1_writersWith_9 rfl rfl (fun _ => ?_) (fun _ => ?_)
  ·
    refine z_iload_n C (i := 2) (pc' := 58) dX1_writersWith_57 rfl rfl rfl ?_
    refine z_callS1 C (pc' := 61) lsRX1_49 lc_J6_bitCount_0f7a4 rfl dX1_writersWith_58 rfl (by decide) (rJ6_bitCount_0f7a4 l w v1 u3) rfl (Nat.le_of_ble_eq_true rfl) (fun v6 u7 => ?_)
    exact z_ireturn C dX1_writersWith_61
  ·
    refine z_aload_n C (i := 0) (pc' := 13) dX1_writersWith_12 rfl rfl rfl ?_
    refine z_getfR C (pc' := 16) flRX1_13 dX1_writersWith_13 rfl (fun v8 => ?_)
    refine z_iload_n C (i := 3) (pc' := 17) dX1_writersWith_16 rfl rfl rfl ?_
    refine z_aald C (pc' := 18) (by decide) dX1_writersWith_17 rfl (fun v9 => ?_)
    refine z_callV1 C (pc' := 21) lvRX1_45 lc_X6_by rfl dX1_writersWith_18 rfl (by decide) (rX6_by l w v9 u3) rfl (Nat.le_of_ble_eq_true rfl) (fun v10 u11 => ?_)
    refine zjoin (P := fun (f : Int → zMem → zRs) => ∀ (v12 : Int) (u13 : zMem), zSim G p l e R s m args below meth c w 4 (znc u0) (zM w 1 (znc u0) below args s) 51 [(0, zR x0), (1, zI x1), (2, zI v12), (3, zI v2)] [] u13 (f v12 u13)) (fun v12 u13 => ?_) (fun k14 hk14 => ?_)
    ·
      refine z_iinc C (i := 3) (la' := [(3, zI (zw32 (v2 + 1))), (0, zR x0), (1, zI x1), (2, zI v12)]) (pc' := 54) dX1_writersWith_51 rfl (by decide) rfl rfl ?_
      refine z_goto C (pc' := 4) dX1_writersWith_54 rfl ?_
      exact zlocs (lb := [(0, zR x0), (1, zI x1), (2, zI v12), (3, zI (zw32 (v2 + 1)))]) ⟨rfl, rfl, rfl, rfl, trivial⟩ (hk4 _ _ _)
    ·
      refine z_if_lt C (pc' := 51) (pf := 24) dX1_writersWith_21 rfl rfl (fun _ => ?_) (fun _ => ?_)
      ·
        exact zlocs (lb := [(0, zR x0), (1, zI x1), (2, zI v1), (3, zI v2)]) ⟨rfl, rfl, rfl, rfl, trivial⟩ (hk14 _ _)
      ·
        refine z_aload_n C (i := 0) (pc' := 25) dX1_writersWith_24 rfl rfl rfl ?_
        refine z_getfR C (pc' := 28) flRX1_13 dX1_writersWith_25 rfl (fun v15 => ?_)
        refine z_iload_n C (i := 3) (pc' := 29) dX1_writersWith_28 rfl rfl rfl ?_
        refine z_aald C (pc' := 30) (by decide) dX1_writersWith_29 rfl (fun v16 => ?_)
        refine z_iload_n C (i := 1) (pc' := 31) dX1_writersWith_30 rfl rfl rfl ?_
        refine z_callV1 C (pc' := 34) lvRX1_41 lc_X6_placeOf rfl dX1_writersWith_31 rfl (by decide) (rX6_placeOf l w v16 x1 u11) rfl (Nat.le_of_ble_eq_true rfl) (fun v17 u18 => ?_)
        refine z_if_lt C (pc' := 51) (pf := 37) dX1_writersWith_34 rfl rfl (fun _ => ?_) (fun _ => ?_)
        ·
          exact zlocs (lb := [(0, zR x0), (1, zI x1), (2, zI v1), (3, zI v2)]) ⟨rfl, rfl, rfl, rfl, trivial⟩ (hk14 _ _)
        ·
          refine z_iload_n C (i := 2) (pc' := 38) dX1_writersWith_37 rfl rfl rfl ?_
          refine z_iconst C (pc' := 39) dX1_writersWith_38 kc_1 rfl ?_
          refine z_aload_n C (i := 0) (pc' := 40) dX1_writersWith_39 rfl rfl rfl ?_
          refine z_getfR C (pc' := 43) flRX1_13 dX1_writersWith_40 rfl (fun v19 => ?_)
          refine z_iload_n C (i := 3) (pc' := 44) dX1_writersWith_43 rfl rfl rfl ?_
          refine z_aald C (pc' := 45) (by decide) dX1_writersWith_44 rfl (fun v20 => ?_)
          refine z_callV1 C (pc' := 48) lvRX1_45 lc_X6_by rfl dX1_writersWith_45 rfl (by decide) (rX6_by l w v20 u18) rfl (Nat.le_of_ble_eq_true rfl) (fun v21 u22 => ?_)
          refine z_ishl C (pc' := 49) dX1_writersWith_48 rfl ?_
          refine z_ior C (pc' := 50) dX1_writersWith_49 rfl ?_
          refine z_istore_n C (i := 2) (la' := [(2, zI (zor v1 (zshl 1 v21))), (0, zR x0), (1, zI x1), (3, zI v2)]) (pc' := 51) dX1_writersWith_50 rfl (by decide) rfl rfl ?_
          exact zlocs (lb := [(0, zR x0), (1, zI x1), (2, zI (zor v1 (zshl 1 v21))), (3, zI v2)]) ⟨rfl, rfl, rfl, rfl, trivial⟩ (hk14 _ _)
def fX1_onlyOnce (x0 : Int) (u0 : zMem) : zRs := zlp (fun _ _ _ => none) (fun k4 (v1 : Int) (v2 : Int) (u3 : zMem) => zgf 1 0 x0 u3 (fun v5 => zvc 5 v5 (fX5_size v5 u3) (fun v6 u7 => if v2 ≥ v6 then (some (v1, u7)) else (zvc 1 x0 (fX1_papersWith x0 v2 u7) (fun v8 u9 => zjn (fun (v10 : Int) (u11 : zMem) => k4 v10 (zw32 (v2 + 1)) u11) (fun k12 => if v8 ≠ 1 then (k12 v1 u9) else (k12 (zor v1 (zshl 1 v2)) u9))))))) 1000000 0 0 u0
set_option maxRecDepth 100000 in
set_option maxHeartbeats 4000000 in
theorem rX1_onlyOnce (l : Launch) (w : zW) (x0 : Int) (u0 : zMem) : zSpc l w 4 yX1_onlyOnce cX1_onlyOnce 3 (some .int) 1 [zR x0] u0 (fX1_onlyOnce x0 u0) := by
  refine zSpc_of (own := RX1) pnRX1 rfl (Nat.le_of_ble_eq_true rfl) (fun G p e R s m args below meth c C hini => ?_)
  unfold fX1_onlyOnce
  refine zlocs (lb := [(0, zR x0)]) ⟨rfl, trivial⟩ ?_
  refine z_iconst C (pc' := 1) dX1_onlyOnce_0 kc_0 rfl ?_
  refine z_istore_n C (i := 1) (la' := [(1, zI 0), (0, zR x0)]) (pc' := 2) dX1_onlyOnce_1 rfl (by decide) rfl rfl ?_
  refine z_iconst C (pc' := 3) dX1_onlyOnce_2 kc_0 rfl ?_
  refine z_istore_n C (i := 2) (la' := [(2, zI 0), (1, zI 0), (0, zR x0)]) (pc' := 4) dX1_onlyOnce_3 rfl (by decide) rfl rfl ?_
  refine zlocs (lb := [(0, zR x0), (1, zI 0), (2, zI 0)]) ⟨rfl, rfl, rfl, trivial⟩ ?_
  refine zlp_ind (fun (f : Int → Int → zMem → zRs) => ∀ (v1 : Int) (v2 : Int) (u3 : zMem), zSim G p l e R s m args below meth c w 3 (znc u0) (zM w 1 (znc u0) below args s) 4 [(0, zR x0), (1, zI v1), (2, zI v2)] [] u3 (f v1 v2 u3)) (fun _ _ _ => znone) (fun k4 hk4 v1 v2 u3 => ?_) _ _ _ _
  refine z_iload_n C (i := 2) (pc' := 5) dX1_onlyOnce_4 rfl rfl rfl ?_
  refine z_aload_n C (i := 0) (pc' := 6) dX1_onlyOnce_5 rfl rfl rfl ?_
  refine z_getfR C (pc' := 9) flRX1_24 dX1_onlyOnce_6 rfl (fun v5 => ?_)
  refine z_callV1 C (pc' := 12) lvRX1_54 lc_X5_size rfl dX1_onlyOnce_9 rfl (by decide) (rX5_size l w v5 u3) rfl (Nat.le_of_ble_eq_true rfl) (fun v6 u7 => ?_)
  refine z_icmp_ge C (pc' := 36) (pf := 15) dX1_onlyOnce_12 rfl rfl (fun _ => ?_) (fun _ => ?_)
  ·
    refine z_iload_n C (i := 1) (pc' := 37) dX1_onlyOnce_36 rfl rfl rfl ?_
    exact z_ireturn C dX1_onlyOnce_37
  ·
    refine z_aload_n C (i := 0) (pc' := 16) dX1_onlyOnce_15 rfl rfl rfl ?_
    refine z_iload_n C (i := 2) (pc' := 17) dX1_onlyOnce_16 rfl rfl rfl ?_
    refine z_callV1 C (pc' := 20) lvRX1_56 lc_X1_papersWith rfl dX1_onlyOnce_17 rfl (by decide) (rX1_papersWith l w x0 v2 u7) rfl (Nat.le_of_ble_eq_true rfl) (fun v8 u9 => ?_)
    refine z_iconst C (pc' := 21) dX1_onlyOnce_20 kc_1 rfl ?_
    refine zjoin (P := fun (f : Int → zMem → zRs) => ∀ (v10 : Int) (u11 : zMem), zSim G p l e R s m args below meth c w 3 (znc u0) (zM w 1 (znc u0) below args s) 30 [(0, zR x0), (1, zI v10), (2, zI v2)] [] u11 (f v10 u11)) (fun v10 u11 => ?_) (fun k12 hk12 => ?_)
    ·
      refine z_iinc C (i := 2) (la' := [(2, zI (zw32 (v2 + 1))), (0, zR x0), (1, zI v10)]) (pc' := 33) dX1_onlyOnce_30 rfl (by decide) rfl rfl ?_
      refine z_goto C (pc' := 4) dX1_onlyOnce_33 rfl ?_
      exact zlocs (lb := [(0, zR x0), (1, zI v10), (2, zI (zw32 (v2 + 1)))]) ⟨rfl, rfl, rfl, trivial⟩ (hk4 _ _ _)
    ·
      refine z_icmp_ne C (pc' := 30) (pf := 24) dX1_onlyOnce_21 rfl rfl (fun _ => ?_) (fun _ => ?_)
      ·
        exact zlocs (lb := [(0, zR x0), (1, zI v1), (2, zI v2)]) ⟨rfl, rfl, rfl, trivial⟩ (hk12 _ _)
      ·
        refine z_iload_n C (i := 1) (pc' := 25) dX1_onlyOnce_24 rfl rfl rfl ?_
        refine z_iconst C (pc' := 26) dX1_onlyOnce_25 kc_1 rfl ?_
        refine z_iload_n C (i := 2) (pc' := 27) dX1_onlyOnce_26 rfl rfl rfl ?_
        refine z_ishl C (pc' := 28) dX1_onlyOnce_27 rfl ?_
        refine z_ior C (pc' := 29) dX1_onlyOnce_28 rfl ?_
        refine z_istore_n C (i := 1) (la' := [(1, zI (zor v1 (zshl 1 v2))), (0, zR x0), (2, zI v2)]) (pc' := 30) dX1_onlyOnce_29 rfl (by decide) rfl rfl ?_
        exact zlocs (lb := [(0, zR x0), (1, zI (zor v1 (zshl 1 v2))), (2, zI v2)]) ⟨rfl, rfl, rfl, trivial⟩ (hk12 _ _)
def fX1_isFight (x0 x1 x2 x3 : Int) (u0 : zMem) : zRs := zvc 6 x0 (fX6_placeOf x0 x2 u0) (fun v1 u2 => zvc 6 x1 (fX6_placeOf x1 x2 u2) (fun v3 u4 => zvc 6 x0 (fX6_placeOf x0 x3 u4) (fun v5 u6 => zvc 6 x1 (fX6_placeOf x1 x3 u6) (fun v7 u8 => if v1 < 0 then (zbl 0 (some (0, u8))) else (if v3 < 0 then (zbl 0 (some (0, u8))) else (if v5 < 0 then (zbl 0 (some (0, u8))) else (if v7 ≥ 0 then (zjn (fun (v9 : Int) (u10 : zMem) => zjn (fun (v12 : Int) (u13 : zMem) => if v9 = v12 then (zbl 0 (some (0, u13))) else (zbl 1 (some (1, u13)))) (fun k14 => if v3 ≥ v7 then (k14 0 u10) else (k14 1 u10))) (fun k11 => if v1 ≥ v5 then (k11 0 u8) else (k11 1 u8))) else (zbl 0 (some (0, u8))))))))))
set_option maxRecDepth 100000 in
set_option maxHeartbeats 4000000 in
theorem rX1_isFight (l : Launch) (w : zW) (x0 x1 x2 x3 : Int) (u0 : zMem) : zSpc l w 2 yX1_isFight cX1_isFight 8 (some .boolean) 1 [zR x0, zR x1, zI x2, zI x3] u0 (fX1_isFight x0 x1 x2 x3 u0) := by
  refine zSpc_of (own := RX1) pnRX1 rfl (Nat.le_of_ble_eq_true rfl) (fun G p e R s m args below meth c C hini => ?_)
  unfold fX1_isFight
  refine zlocs (lb := [(0, zR x0), (1, zR x1), (2, zI x2), (3, zI x3)]) ⟨rfl, rfl, rfl, rfl, trivial⟩ ?_
  refine z_aload_n C (i := 0) (pc' := 1) dX1_isFight_0 rfl rfl rfl ?_
  refine z_iload_n C (i := 2) (pc' := 2) dX1_isFight_1 rfl rfl rfl ?_
  refine z_callV1 C (pc' := 5) lvRX1_41 lc_X6_placeOf rfl dX1_isFight_2 rfl (by decide) (rX6_placeOf l w x0 x2 u0) rfl (Nat.le_of_ble_eq_true rfl) (fun v1 u2 => ?_)
  refine z_istore C (i := 4) (la' := [(4, zI v1), (0, zR x0), (1, zR x1), (2, zI x2), (3, zI x3)]) (pc' := 7) dX1_isFight_5 (by decide) rfl rfl ?_
  refine z_aload_n C (i := 1) (pc' := 8) dX1_isFight_7 rfl rfl rfl ?_
  refine z_iload_n C (i := 2) (pc' := 9) dX1_isFight_8 rfl rfl rfl ?_
  refine z_callV1 C (pc' := 12) lvRX1_41 lc_X6_placeOf rfl dX1_isFight_9 rfl (by decide) (rX6_placeOf l w x1 x2 u2) rfl (Nat.le_of_ble_eq_true rfl) (fun v3 u4 => ?_)
  refine z_istore C (i := 5) (la' := [(5, zI v3), (4, zI v1), (0, zR x0), (1, zR x1), (2, zI x2), (3, zI x3)]) (pc' := 14) dX1_isFight_12 (by decide) rfl rfl ?_
  refine z_aload_n C (i := 0) (pc' := 15) dX1_isFight_14 rfl rfl rfl ?_
  refine z_iload_n C (i := 3) (pc' := 16) dX1_isFight_15 rfl rfl rfl ?_
  refine z_callV1 C (pc' := 19) lvRX1_41 lc_X6_placeOf rfl dX1_isFight_16 rfl (by decide) (rX6_placeOf l w x0 x3 u4) rfl (Nat.le_of_ble_eq_true rfl) (fun v5 u6 => ?_)
  refine z_istore C (i := 6) (la' := [(6, zI v5), (5, zI v3), (4, zI v1), (0, zR x0), (1, zR x1), (2, zI x2), (3, zI x3)]) (pc' := 21) dX1_isFight_19 (by decide) rfl rfl ?_
  refine z_aload_n C (i := 1) (pc' := 22) dX1_isFight_21 rfl rfl rfl ?_
  refine z_iload_n C (i := 3) (pc' := 23) dX1_isFight_22 rfl rfl rfl ?_
  refine z_callV1 C (pc' := 26) lvRX1_41 lc_X6_placeOf rfl dX1_isFight_23 rfl (by decide) (rX6_placeOf l w x1 x3 u6) rfl (Nat.le_of_ble_eq_true rfl) (fun v7 u8 => ?_)
  refine z_istore C (i := 7) (la' := [(7, zI v7), (6, zI v5), (5, zI v3), (4, zI v1), (0, zR x0), (1, zR x1), (2, zI x2), (3, zI x3)]) (pc' := 28) dX1_isFight_26 (by decide) rfl rfl ?_
  refine z_iload C (pc' := 30) dX1_isFight_28 rfl rfl ?_
  refine z_if_lt C (pc' := 48) (pf := 33) dX1_isFight_30 rfl rfl (fun _ => ?_) (fun _ => ?_)
  ·
    refine z_iconst C (pc' := 49) dX1_isFight_48 kc_0 rfl ?_
    exact z_zreturn C dX1_isFight_49
  ·
    refine z_iload C (pc' := 35) dX1_isFight_33 rfl rfl ?_
    refine z_if_lt C (pc' := 48) (pf := 38) dX1_isFight_35 rfl rfl (fun _ => ?_) (fun _ => ?_)
    ·
      refine z_iconst C (pc' := 49) dX1_isFight_48 kc_0 rfl ?_
      exact z_zreturn C dX1_isFight_49
    ·
      refine z_iload C (pc' := 40) dX1_isFight_38 rfl rfl ?_
      refine z_if_lt C (pc' := 48) (pf := 43) dX1_isFight_40 rfl rfl (fun _ => ?_) (fun _ => ?_)
      ·
        refine z_iconst C (pc' := 49) dX1_isFight_48 kc_0 rfl ?_
        exact z_zreturn C dX1_isFight_49
      ·
        refine z_iload C (pc' := 45) dX1_isFight_43 rfl rfl ?_
        refine z_if_ge C (pc' := 50) (pf := 48) dX1_isFight_45 rfl rfl (fun _ => ?_) (fun _ => ?_)
        ·
          refine z_iload C (pc' := 52) dX1_isFight_50 rfl rfl ?_
          refine z_iload C (pc' := 54) dX1_isFight_52 rfl rfl ?_
          refine zjoin (P := fun (f : Int → zMem → zRs) => ∀ (v9 : Int) (u10 : zMem), zSim G p l e R s m args below meth c w 8 (znc u0) (zM w 1 (znc u0) below args s) 62 [(5, zI v3), (7, zI v7)] [zI v9] u10 (f v9 u10)) (fun v9 u10 => ?_) (fun k11 hk11 => ?_)
          ·
            refine z_iload C (pc' := 64) dX1_isFight_62 rfl rfl ?_
            refine z_iload C (pc' := 66) dX1_isFight_64 rfl rfl ?_
            refine zjoin (P := fun (f : Int → zMem → zRs) => ∀ (v12 : Int) (u13 : zMem), zSim G p l e R s m args below meth c w 8 (znc u0) (zM w 1 (znc u0) below args s) 74 [] [zI v12, zI v9] u13 (f v12 u13)) (fun v12 u13 => ?_) (fun k14 hk14 => ?_)
            ·
              refine z_icmp_eq C (pc' := 81) (pf := 77) dX1_isFight_74 rfl rfl (fun _ => ?_) (fun _ => ?_)
              ·
                refine z_iconst C (pc' := 82) dX1_isFight_81 kc_0 rfl ?_
                exact z_zreturn C dX1_isFight_82
              ·
                refine z_iconst C (pc' := 78) dX1_isFight_77 kc_1 rfl ?_
                refine z_goto C (pc' := 82) dX1_isFight_78 rfl ?_
                exact z_zreturn C dX1_isFight_82
            ·
              refine z_icmp_ge C (pc' := 73) (pf := 69) dX1_isFight_66 rfl rfl (fun _ => ?_) (fun _ => ?_)
              ·
                refine z_iconst C (pc' := 74) dX1_isFight_73 kc_0 rfl ?_
                exact zlocs (lb := []) trivial (hk14 _ _)
              ·
                refine z_iconst C (pc' := 70) dX1_isFight_69 kc_1 rfl ?_
                refine z_goto C (pc' := 74) dX1_isFight_70 rfl ?_
                exact zlocs (lb := []) trivial (hk14 _ _)
          ·
            refine z_icmp_ge C (pc' := 61) (pf := 57) dX1_isFight_54 rfl rfl (fun _ => ?_) (fun _ => ?_)
            ·
              refine z_iconst C (pc' := 62) dX1_isFight_61 kc_0 rfl ?_
              exact zlocs (lb := [(5, zI v3), (7, zI v7)]) ⟨rfl, rfl, trivial⟩ (hk11 _ _)
            ·
              refine z_iconst C (pc' := 58) dX1_isFight_57 kc_1 rfl ?_
              refine z_goto C (pc' := 62) dX1_isFight_58 rfl ?_
              exact zlocs (lb := [(5, zI v3), (7, zI v7)]) ⟨rfl, rfl, trivial⟩ (hk11 _ _)
        ·
          refine z_iconst C (pc' := 49) dX1_isFight_48 kc_0 rfl ?_
          exact z_zreturn C dX1_isFight_49
def fX1_fightsOf (x0 x1 x2 : Int) (u0 : zMem) : zRs := zlp (fun _ _ _ => none) (fun k4 (v1 : Int) (v2 : Int) (u3 : zMem) => zgf 1 0 x0 u3 (fun v5 => zvc 5 v5 (fX5_size v5 u3) (fun v6 u7 => if v2 ≥ v6 then (some (v1, u7)) else (zlp (fun _ _ _ => none) (fun k11 (v8 : Int) (v9 : Int) (u10 : zMem) => zgf 1 0 x0 u10 (fun v12 => zvc 5 v12 (fX5_size v12 u10) (fun v13 u14 => if v9 ≥ v13 then (k4 v8 (zw32 (v2 + 1)) u14) else (zcall (fX1_isFight x1 x2 v2 v9 u14) (fun v15 u16 => zjn (fun (v17 : Int) (u18 : zMem) => k11 v17 (zw32 (v9 + 1)) u18) (fun k19 => if v15 = 0 then (k19 v8 u16) else (k19 (zw32 (v8 + 1)) u16))))))) 1000000 v1 (zw32 (v2 + 1)) u7)))) 1000000 0 0 u0
set_option maxRecDepth 100000 in
set_option maxHeartbeats 4000000 in
theorem rX1_fightsOf (l : Launch) (w : zW) (x0 x1 x2 : Int) (u0 : zMem) : zSpc l w 3 yX1_fightsOf cX1_fightsOf 6 (some .int) 1 [zR x0, zR x1, zR x2] u0 (fX1_fightsOf x0 x1 x2 u0) := by
  refine zSpc_of (own := RX1) pnRX1 rfl (Nat.le_of_ble_eq_true rfl) (fun G p e R s m args below meth c C hini => ?_)
  unfold fX1_fightsOf
  refine zlocs (lb := [(0, zR x0), (1, zR x1), (2, zR x2)]) ⟨rfl, rfl, rfl, trivial⟩ ?_
  refine z_iconst C (pc' := 1) dX1_fightsOf_0 kc_0 rfl ?_
  refine z_istore_n C (i := 3) (la' := [(3, zI 0), (0, zR x0), (1, zR x1), (2, zR x2)]) (pc' := 2) dX1_fightsOf_1 rfl (by decide) rfl rfl ?_
  refine z_iconst C (pc' := 3) dX1_fightsOf_2 kc_0 rfl ?_
  refine z_istore C (i := 4) (la' := [(4, zI 0), (3, zI 0), (0, zR x0), (1, zR x1), (2, zR x2)]) (pc' := 5) dX1_fightsOf_3 (by decide) rfl rfl ?_
  refine zlocs (lb := [(0, zR x0), (1, zR x1), (2, zR x2), (3, zI 0), (4, zI 0)]) ⟨rfl, rfl, rfl, rfl, rfl, trivial⟩ ?_
  refine zlp_ind (fun (f : Int → Int → zMem → zRs) => ∀ (v1 : Int) (v2 : Int) (u3 : zMem), zSim G p l e R s m args below meth c w 6 (znc u0) (zM w 1 (znc u0) below args s) 5 [(0, zR x0), (1, zR x1), (2, zR x2), (3, zI v1), (4, zI v2)] [] u3 (f v1 v2 u3)) (fun _ _ _ => znone) (fun k4 hk4 v1 v2 u3 => ?_) _ _ _ _
  refine z_iload C (pc' := 7) dX1_fightsOf_5 rfl rfl ?_
  refine z_aload_n C (i := 0) (pc' := 8) dX1_fightsOf_7 rfl rfl rfl ?_
  refine z_getfR C (pc' := 11) flRX1_24 dX1_fightsOf_8 rfl (fun v5 => ?_)
  refine z_callV1 C (pc' := 14) lvRX1_54 lc_X5_size rfl dX1_fightsOf_11 rfl (by decide) (rX5_size l w v5 u3) rfl (Nat.le_of_ble_eq_true rfl) (fun v6 u7 => ?_)
  refine z_icmp_ge C (pc' := 62) (pf := 17) dX1_fightsOf_14 rfl rfl (fun _ => ?_) (fun _ => ?_)
  ·
    refine z_iload_n C (i := 3) (pc' := 63) dX1_fightsOf_62 rfl rfl rfl ?_
    exact z_ireturn C dX1_fightsOf_63
  ·
    refine z_iload C (pc' := 19) dX1_fightsOf_17 rfl rfl ?_
    refine z_iconst C (pc' := 20) dX1_fightsOf_19 kc_1 rfl ?_
    refine z_iadd C (pc' := 21) dX1_fightsOf_20 rfl ?_
    refine z_istore C (i := 5) (la' := [(5, zI (zw32 (v2 + 1))), (0, zR x0), (1, zR x1), (2, zR x2), (3, zI v1), (4, zI v2)]) (pc' := 23) dX1_fightsOf_21 (by decide) rfl rfl ?_
    refine zlocs (lb := [(0, zR x0), (1, zR x1), (2, zR x2), (3, zI v1), (4, zI v2), (5, zI (zw32 (v2 + 1)))]) ⟨rfl, rfl, rfl, rfl, rfl, rfl, trivial⟩ ?_
    refine zlp_ind (fun (f : Int → Int → zMem → zRs) => ∀ (v8 : Int) (v9 : Int) (u10 : zMem), zSim G p l e R s m args below meth c w 6 (znc u0) (zM w 1 (znc u0) below args s) 23 [(0, zR x0), (1, zR x1), (2, zR x2), (3, zI v8), (4, zI v2), (5, zI v9)] [] u10 (f v8 v9 u10)) (fun _ _ _ => znone) (fun k11 hk11 v8 v9 u10 => ?_) _ _ _ _
    refine z_iload C (pc' := 25) dX1_fightsOf_23 rfl rfl ?_
    refine z_aload_n C (i := 0) (pc' := 26) dX1_fightsOf_25 rfl rfl rfl ?_
    refine z_getfR C (pc' := 29) flRX1_24 dX1_fightsOf_26 rfl (fun v12 => ?_)
    refine z_callV1 C (pc' := 32) lvRX1_54 lc_X5_size rfl dX1_fightsOf_29 rfl (by decide) (rX5_size l w v12 u10) rfl (Nat.le_of_ble_eq_true rfl) (fun v13 u14 => ?_)
    refine z_icmp_ge C (pc' := 56) (pf := 35) dX1_fightsOf_32 rfl rfl (fun _ => ?_) (fun _ => ?_)
    ·
      refine z_iinc C (i := 4) (la' := [(4, zI (zw32 (v2 + 1))), (0, zR x0), (1, zR x1), (2, zR x2), (3, zI v8), (5, zI v9)]) (pc' := 59) dX1_fightsOf_56 rfl (by decide) rfl rfl ?_
      refine z_goto C (pc' := 5) dX1_fightsOf_59 rfl ?_
      exact zlocs (lb := [(0, zR x0), (1, zR x1), (2, zR x2), (3, zI v8), (4, zI (zw32 (v2 + 1)))]) ⟨rfl, rfl, rfl, rfl, rfl, trivial⟩ (hk4 _ _ _)
    ·
      refine z_aload_n C (i := 1) (pc' := 36) dX1_fightsOf_35 rfl rfl rfl ?_
      refine z_aload_n C (i := 2) (pc' := 37) dX1_fightsOf_36 rfl rfl rfl ?_
      refine z_iload C (pc' := 39) dX1_fightsOf_37 rfl rfl ?_
      refine z_iload C (pc' := 41) dX1_fightsOf_39 rfl rfl ?_
      refine z_callS1 C (pc' := 44) lsRX1_58 lc_X1_isFight rfl dX1_fightsOf_41 rfl (by decide) (rX1_isFight l w x1 x2 v2 v9 u14) rfl (Nat.le_of_ble_eq_true rfl) (fun v15 u16 => ?_)
      refine zjoin (P := fun (f : Int → zMem → zRs) => ∀ (v17 : Int) (u18 : zMem), zSim G p l e R s m args below meth c w 6 (znc u0) (zM w 1 (znc u0) below args s) 50 [(0, zR x0), (1, zR x1), (2, zR x2), (3, zI v17), (4, zI v2), (5, zI v9)] [] u18 (f v17 u18)) (fun v17 u18 => ?_) (fun k19 hk19 => ?_)
      ·
        refine z_iinc C (i := 5) (la' := [(5, zI (zw32 (v9 + 1))), (0, zR x0), (1, zR x1), (2, zR x2), (3, zI v17), (4, zI v2)]) (pc' := 53) dX1_fightsOf_50 rfl (by decide) rfl rfl ?_
        refine z_goto C (pc' := 23) dX1_fightsOf_53 rfl ?_
        exact zlocs (lb := [(0, zR x0), (1, zR x1), (2, zR x2), (3, zI v17), (4, zI v2), (5, zI (zw32 (v9 + 1)))]) ⟨rfl, rfl, rfl, rfl, rfl, rfl, trivial⟩ (hk11 _ _ _)
      ·
        refine z_if_eq C (pc' := 50) (pf := 47) dX1_fightsOf_44 rfl rfl (fun _ => ?_) (fun _ => ?_)
        ·
          exact zlocs (lb := [(0, zR x0), (1, zR x1), (2, zR x2), (3, zI v8), (4, zI v2), (5, zI v9)]) ⟨rfl, rfl, rfl, rfl, rfl, rfl, trivial⟩ (hk19 _ _)
        ·
          refine z_iinc C (i := 3) (la' := [(3, zI (zw32 (v8 + 1))), (0, zR x0), (1, zR x1), (2, zR x2), (4, zI v2), (5, zI v9)]) (pc' := 50) dX1_fightsOf_47 rfl (by decide) rfl rfl ?_
          exact zlocs (lb := [(0, zR x0), (1, zR x1), (2, zR x2), (3, zI (zw32 (v8 + 1))), (4, zI v2), (5, zI v9)]) ⟨rfl, rfl, rfl, rfl, rfl, rfl, trivial⟩ (hk19 _ _)
def fX1_firstFight (x0 x1 x2 : Int) (u0 : zMem) : zRs := zlp (fun _ _ => none) (fun k3 (v1 : Int) (u2 : zMem) => zgf 1 0 x0 u2 (fun v4 => zvc 5 v4 (fX5_size v4 u2) (fun v5 u6 => if v1 ≥ v5 then (some ((-2), u6)) else (zlp (fun _ _ => none) (fun k9 (v7 : Int) (u8 : zMem) => zgf 1 0 x0 u8 (fun v10 => zvc 5 v10 (fX5_size v10 u8) (fun v11 u12 => if v7 ≥ v11 then (k3 (zw32 (v1 + 1)) u12) else (zcall (fX1_isFight x1 x2 v1 v7 u12) (fun v13 u14 => if v13 = 0 then (k9 (zw32 (v7 + 1)) u14) else (some ((zw32 ((zw32 (100 * v1)) + v7)), u14))))))) 1000000 (zw32 (v1 + 1)) u6)))) 1000000 0 u0
set_option maxRecDepth 100000 in
set_option maxHeartbeats 4000000 in
theorem rX1_firstFight (l : Launch) (w : zW) (x0 x1 x2 : Int) (u0 : zMem) : zSpc l w 3 yX1_firstFight cX1_firstFight 5 (some .int) 1 [zR x0, zR x1, zR x2] u0 (fX1_firstFight x0 x1 x2 u0) := by
  refine zSpc_of (own := RX1) pnRX1 rfl (Nat.le_of_ble_eq_true rfl) (fun G p e R s m args below meth c C hini => ?_)
  unfold fX1_firstFight
  refine zlocs (lb := [(0, zR x0), (1, zR x1), (2, zR x2)]) ⟨rfl, rfl, rfl, trivial⟩ ?_
  refine z_iconst C (pc' := 1) dX1_firstFight_0 kc_0 rfl ?_
  refine z_istore_n C (i := 3) (la' := [(3, zI 0), (0, zR x0), (1, zR x1), (2, zR x2)]) (pc' := 2) dX1_firstFight_1 rfl (by decide) rfl rfl ?_
  refine zlocs (lb := [(0, zR x0), (1, zR x1), (2, zR x2), (3, zI 0)]) ⟨rfl, rfl, rfl, rfl, trivial⟩ ?_
  refine zlp_ind (fun (f : Int → zMem → zRs) => ∀ (v1 : Int) (u2 : zMem), zSim G p l e R s m args below meth c w 5 (znc u0) (zM w 1 (znc u0) below args s) 2 [(0, zR x0), (1, zR x1), (2, zR x2), (3, zI v1)] [] u2 (f v1 u2)) (fun _ _ => znone) (fun k3 hk3 v1 u2 => ?_) _ _ _
  refine z_iload_n C (i := 3) (pc' := 3) dX1_firstFight_2 rfl rfl rfl ?_
  refine z_aload_n C (i := 0) (pc' := 4) dX1_firstFight_3 rfl rfl rfl ?_
  refine z_getfR C (pc' := 7) flRX1_24 dX1_firstFight_4 rfl (fun v4 => ?_)
  refine z_callV1 C (pc' := 10) lvRX1_54 lc_X5_size rfl dX1_firstFight_7 rfl (by decide) (rX5_size l w v4 u2) rfl (Nat.le_of_ble_eq_true rfl) (fun v5 u6 => ?_)
  refine z_icmp_ge C (pc' := 61) (pf := 13) dX1_firstFight_10 rfl rfl (fun _ => ?_) (fun _ => ?_)
  ·
    refine z_bipush C (pc' := 63) dX1_firstFight_61 kb_m2 rfl ?_
    exact z_ireturn C dX1_firstFight_63
  ·
    refine z_iload_n C (i := 3) (pc' := 14) dX1_firstFight_13 rfl rfl rfl ?_
    refine z_iconst C (pc' := 15) dX1_firstFight_14 kc_1 rfl ?_
    refine z_iadd C (pc' := 16) dX1_firstFight_15 rfl ?_
    refine z_istore C (i := 4) (la' := [(4, zI (zw32 (v1 + 1))), (0, zR x0), (1, zR x1), (2, zR x2), (3, zI v1)]) (pc' := 18) dX1_firstFight_16 (by decide) rfl rfl ?_
    refine zlocs (lb := [(0, zR x0), (1, zR x1), (2, zR x2), (3, zI v1), (4, zI (zw32 (v1 + 1)))]) ⟨rfl, rfl, rfl, rfl, rfl, trivial⟩ ?_
    refine zlp_ind (fun (f : Int → zMem → zRs) => ∀ (v7 : Int) (u8 : zMem), zSim G p l e R s m args below meth c w 5 (znc u0) (zM w 1 (znc u0) below args s) 18 [(0, zR x0), (1, zR x1), (2, zR x2), (3, zI v1), (4, zI v7)] [] u8 (f v7 u8)) (fun _ _ => znone) (fun k9 hk9 v7 u8 => ?_) _ _ _
    refine z_iload C (pc' := 20) dX1_firstFight_18 rfl rfl ?_
    refine z_aload_n C (i := 0) (pc' := 21) dX1_firstFight_20 rfl rfl rfl ?_
    refine z_getfR C (pc' := 24) flRX1_24 dX1_firstFight_21 rfl (fun v10 => ?_)
    refine z_callV1 C (pc' := 27) lvRX1_54 lc_X5_size rfl dX1_firstFight_24 rfl (by decide) (rX5_size l w v10 u8) rfl (Nat.le_of_ble_eq_true rfl) (fun v11 u12 => ?_)
    refine z_icmp_ge C (pc' := 55) (pf := 30) dX1_firstFight_27 rfl rfl (fun _ => ?_) (fun _ => ?_)
    ·
      refine z_iinc C (i := 3) (la' := [(3, zI (zw32 (v1 + 1))), (0, zR x0), (1, zR x1), (2, zR x2), (4, zI v7)]) (pc' := 58) dX1_firstFight_55 rfl (by decide) rfl rfl ?_
      refine z_goto C (pc' := 2) dX1_firstFight_58 rfl ?_
      exact zlocs (lb := [(0, zR x0), (1, zR x1), (2, zR x2), (3, zI (zw32 (v1 + 1)))]) ⟨rfl, rfl, rfl, rfl, trivial⟩ (hk3 _ _)
    ·
      refine z_aload_n C (i := 1) (pc' := 31) dX1_firstFight_30 rfl rfl rfl ?_
      refine z_aload_n C (i := 2) (pc' := 32) dX1_firstFight_31 rfl rfl rfl ?_
      refine z_iload_n C (i := 3) (pc' := 33) dX1_firstFight_32 rfl rfl rfl ?_
      refine z_iload C (pc' := 35) dX1_firstFight_33 rfl rfl ?_
      refine z_callS1 C (pc' := 38) lsRX1_58 lc_X1_isFight rfl dX1_firstFight_35 rfl (by decide) (rX1_isFight l w x1 x2 v1 v7 u12) rfl (Nat.le_of_ble_eq_true rfl) (fun v13 u14 => ?_)
      refine z_if_eq C (pc' := 49) (pf := 41) dX1_firstFight_38 rfl rfl (fun _ => ?_) (fun _ => ?_)
      ·
        refine z_iinc C (i := 4) (la' := [(4, zI (zw32 (v7 + 1))), (0, zR x0), (1, zR x1), (2, zR x2), (3, zI v1)]) (pc' := 52) dX1_firstFight_49 rfl (by decide) rfl rfl ?_
        refine z_goto C (pc' := 18) dX1_firstFight_52 rfl ?_
        exact zlocs (lb := [(0, zR x0), (1, zR x1), (2, zR x2), (3, zI v1), (4, zI (zw32 (v7 + 1)))]) ⟨rfl, rfl, rfl, rfl, rfl, trivial⟩ (hk9 _ _)
      ·
        refine z_bipush C (pc' := 43) dX1_firstFight_41 kb_100 rfl ?_
        refine z_iload_n C (i := 3) (pc' := 44) dX1_firstFight_43 rfl rfl rfl ?_
        refine z_imul C (pc' := 45) dX1_firstFight_44 rfl ?_
        refine z_iload C (pc' := 47) dX1_firstFight_45 rfl rfl ?_
        refine z_iadd C (pc' := 48) dX1_firstFight_47 rfl ?_
        exact z_ireturn C dX1_firstFight_48
def fX1_countLead (x0 x1 x2 : Int) (u0 : zMem) : zRs := if x1 < 0 then (some (0, u0)) else (if x1 ≥ 16 then (some (0, u0)) else (if x2 < 0 then (some (0, u0)) else (if x2 ≥ 16 then (some (0, u0)) else (zgf 1 2 x0 u0 (fun v1 => zald 26 v1 x1 u0 (fun v2 => zald 20 v2 x2 u0 (fun v3 => zast 20 v2 x2 (zw32 (v3 + 1)) u0 (fun u4 => zgf 1 2 x0 u4 (fun v5 => zald 26 v5 x2 u4 (fun v6 => zald 20 v6 x1 u4 (fun v7 => zast 20 v6 x1 (zw32 (v7 - 1)) u4 (fun u8 => some (0, u8)))))))))))))
set_option maxRecDepth 100000 in
set_option maxHeartbeats 4000000 in
theorem rX1_countLead (l : Launch) (w : zW) (x0 x1 x2 : Int) (u0 : zMem) : zSpc l w 1 yX1_countLead cX1_countLead 3 none 0 [zR x0, zI x1, zI x2] u0 (fX1_countLead x0 x1 x2 u0) := by
  refine zSpc_of (own := RX1) pnRX1 rfl (Nat.le_of_ble_eq_true rfl) (fun G p e R s m args below meth c C hini => ?_)
  unfold fX1_countLead
  refine zlocs (lb := [(0, zR x0), (1, zI x1), (2, zI x2)]) ⟨rfl, rfl, rfl, trivial⟩ ?_
  refine z_iload_n C (i := 1) (pc' := 1) dX1_countLead_0 rfl rfl rfl ?_
  refine z_if_lt C (pc' := 44) (pf := 4) dX1_countLead_1 rfl rfl (fun _ => ?_) (fun _ => ?_)
  ·
    exact z_return C dX1_countLead_44
  ·
    refine z_iload_n C (i := 1) (pc' := 5) dX1_countLead_4 rfl rfl rfl ?_
    refine z_bipush C (pc' := 7) dX1_countLead_5 kb_16 rfl ?_
    refine z_icmp_ge C (pc' := 44) (pf := 10) dX1_countLead_7 rfl rfl (fun _ => ?_) (fun _ => ?_)
    ·
      exact z_return C dX1_countLead_44
    ·
      refine z_iload_n C (i := 2) (pc' := 11) dX1_countLead_10 rfl rfl rfl ?_
      refine z_if_lt C (pc' := 44) (pf := 14) dX1_countLead_11 rfl rfl (fun _ => ?_) (fun _ => ?_)
      ·
        exact z_return C dX1_countLead_44
      ·
        refine z_iload_n C (i := 2) (pc' := 15) dX1_countLead_14 rfl rfl rfl ?_
        refine z_bipush C (pc' := 17) dX1_countLead_15 kb_16 rfl ?_
        refine z_icmp_ge C (pc' := 44) (pf := 20) dX1_countLead_17 rfl rfl (fun _ => ?_) (fun _ => ?_)
        ·
          exact z_return C dX1_countLead_44
        ·
          refine z_aload_n C (i := 0) (pc' := 21) dX1_countLead_20 rfl rfl rfl ?_
          refine z_getfR C (pc' := 24) flRX1_21 dX1_countLead_21 rfl (fun v1 => ?_)
          refine z_iload_n C (i := 1) (pc' := 25) dX1_countLead_24 rfl rfl rfl ?_
          refine z_aald C (pc' := 26) (by decide) dX1_countLead_25 rfl (fun v2 => ?_)
          refine z_iload_n C (i := 2) (pc' := 27) dX1_countLead_26 rfl rfl rfl ?_
          refine z_dup2 C (pc' := 28) dX1_countLead_27 rfl rfl rfl ?_
          refine z_iald C (pc' := 29) dX1_countLead_28 rfl (fun v3 => ?_)
          refine z_iconst C (pc' := 30) dX1_countLead_29 kc_1 rfl ?_
          refine z_iadd C (pc' := 31) dX1_countLead_30 rfl ?_
          refine z_iast C (pc' := 32) dX1_countLead_31 rfl (fun u4 => ?_)
          refine z_aload_n C (i := 0) (pc' := 33) dX1_countLead_32 rfl rfl rfl ?_
          refine z_getfR C (pc' := 36) flRX1_21 dX1_countLead_33 rfl (fun v5 => ?_)
          refine z_iload_n C (i := 2) (pc' := 37) dX1_countLead_36 rfl rfl rfl ?_
          refine z_aald C (pc' := 38) (by decide) dX1_countLead_37 rfl (fun v6 => ?_)
          refine z_iload_n C (i := 1) (pc' := 39) dX1_countLead_38 rfl rfl rfl ?_
          refine z_dup2 C (pc' := 40) dX1_countLead_39 rfl rfl rfl ?_
          refine z_iald C (pc' := 41) dX1_countLead_40 rfl (fun v7 => ?_)
          refine z_iconst C (pc' := 42) dX1_countLead_41 kc_1 rfl ?_
          refine z_isub C (pc' := 43) dX1_countLead_42 rfl ?_
          refine z_iast C (pc' := 44) dX1_countLead_43 rfl (fun u8 => ?_)
          exact z_return C dX1_countLead_44
def fX1_countLeadsOf (x0 x1 : Int) (u0 : zMem) : zRs := zlp (fun _ _ => none) (fun k3 (v1 : Int) (u2 : zMem) => zvc 6 x1 (fX6_size x1 u2) (fun v4 u5 => if v1 ≥ v4 then (some (0, u5)) else (zlp (fun _ _ => none) (fun k8 (v6 : Int) (u7 : zMem) => zvc 6 x1 (fX6_size x1 u7) (fun v9 u10 => if v6 ≥ v9 then (k3 (zw32 (v1 + 1)) u10) else (zvc 6 x1 (fX6_part x1 v1 0 u10) (fun v11 u12 => zvc 6 x1 (fX6_part x1 v6 0 u12) (fun v13 u14 => zvc 1 x0 (fX1_countLead x0 v11 v13 u14) (fun _ u15 => k8 (zw32 (v6 + 1)) u15)))))) 1000000 (zw32 (v1 + 1)) u5))) 1000000 0 u0
set_option maxRecDepth 100000 in
set_option maxHeartbeats 4000000 in
theorem rX1_countLeadsOf (l : Launch) (w : zW) (x0 x1 : Int) (u0 : zMem) : zSpc l w 3 yX1_countLeadsOf cX1_countLeadsOf 4 none 0 [zR x0, zR x1] u0 (fX1_countLeadsOf x0 x1 u0) := by
  refine zSpc_of (own := RX1) pnRX1 rfl (Nat.le_of_ble_eq_true rfl) (fun G p e R s m args below meth c C hini => ?_)
  unfold fX1_countLeadsOf
  refine zlocs (lb := [(0, zR x0), (1, zR x1)]) ⟨rfl, rfl, trivial⟩ ?_
  refine z_iconst C (pc' := 1) dX1_countLeadsOf_0 kc_0 rfl ?_
  refine z_istore_n C (i := 2) (la' := [(2, zI 0), (0, zR x0), (1, zR x1)]) (pc' := 2) dX1_countLeadsOf_1 rfl (by decide) rfl rfl ?_
  refine zlocs (lb := [(0, zR x0), (1, zR x1), (2, zI 0)]) ⟨rfl, rfl, rfl, trivial⟩ ?_
  refine zlp_ind (fun (f : Int → zMem → zRs) => ∀ (v1 : Int) (u2 : zMem), zSim G p l e R s m args below meth c w 4 (znc u0) (zM w 0 (znc u0) below args s) 2 [(0, zR x0), (1, zR x1), (2, zI v1)] [] u2 (f v1 u2)) (fun _ _ => znone) (fun k3 hk3 v1 u2 => ?_) _ _ _
  refine z_iload_n C (i := 2) (pc' := 3) dX1_countLeadsOf_2 rfl rfl rfl ?_
  refine z_aload_n C (i := 1) (pc' := 4) dX1_countLeadsOf_3 rfl rfl rfl ?_
  refine z_callV1 C (pc' := 7) lvRX1_75 lc_X6_size rfl dX1_countLeadsOf_4 rfl (by decide) (rX6_size l w x1 u2) rfl (Nat.le_of_ble_eq_true rfl) (fun v4 u5 => ?_)
  refine z_icmp_ge C (pc' := 50) (pf := 10) dX1_countLeadsOf_7 rfl rfl (fun _ => ?_) (fun _ => ?_)
  ·
    exact z_return C dX1_countLeadsOf_50
  ·
    refine z_iload_n C (i := 2) (pc' := 11) dX1_countLeadsOf_10 rfl rfl rfl ?_
    refine z_iconst C (pc' := 12) dX1_countLeadsOf_11 kc_1 rfl ?_
    refine z_iadd C (pc' := 13) dX1_countLeadsOf_12 rfl ?_
    refine z_istore_n C (i := 3) (la' := [(3, zI (zw32 (v1 + 1))), (0, zR x0), (1, zR x1), (2, zI v1)]) (pc' := 14) dX1_countLeadsOf_13 rfl (by decide) rfl rfl ?_
    refine zlocs (lb := [(0, zR x0), (1, zR x1), (2, zI v1), (3, zI (zw32 (v1 + 1)))]) ⟨rfl, rfl, rfl, rfl, trivial⟩ ?_
    refine zlp_ind (fun (f : Int → zMem → zRs) => ∀ (v6 : Int) (u7 : zMem), zSim G p l e R s m args below meth c w 4 (znc u0) (zM w 0 (znc u0) below args s) 14 [(0, zR x0), (1, zR x1), (2, zI v1), (3, zI v6)] [] u7 (f v6 u7)) (fun _ _ => znone) (fun k8 hk8 v6 u7 => ?_) _ _ _
    refine z_iload_n C (i := 3) (pc' := 15) dX1_countLeadsOf_14 rfl rfl rfl ?_
    refine z_aload_n C (i := 1) (pc' := 16) dX1_countLeadsOf_15 rfl rfl rfl ?_
    refine z_callV1 C (pc' := 19) lvRX1_75 lc_X6_size rfl dX1_countLeadsOf_16 rfl (by decide) (rX6_size l w x1 u7) rfl (Nat.le_of_ble_eq_true rfl) (fun v9 u10 => ?_)
    refine z_icmp_ge C (pc' := 44) (pf := 22) dX1_countLeadsOf_19 rfl rfl (fun _ => ?_) (fun _ => ?_)
    ·
      refine z_iinc C (i := 2) (la' := [(2, zI (zw32 (v1 + 1))), (0, zR x0), (1, zR x1), (3, zI v6)]) (pc' := 47) dX1_countLeadsOf_44 rfl (by decide) rfl rfl ?_
      refine z_goto C (pc' := 2) dX1_countLeadsOf_47 rfl ?_
      exact zlocs (lb := [(0, zR x0), (1, zR x1), (2, zI (zw32 (v1 + 1)))]) ⟨rfl, rfl, rfl, trivial⟩ (hk3 _ _)
    ·
      refine z_aload_n C (i := 0) (pc' := 23) dX1_countLeadsOf_22 rfl rfl rfl ?_
      refine z_aload_n C (i := 1) (pc' := 24) dX1_countLeadsOf_23 rfl rfl rfl ?_
      refine z_iload_n C (i := 2) (pc' := 25) dX1_countLeadsOf_24 rfl rfl rfl ?_
      refine z_iconst C (pc' := 26) dX1_countLeadsOf_25 kc_0 rfl ?_
      refine z_callV1 C (pc' := 29) lvRX1_76 lc_X6_part rfl dX1_countLeadsOf_26 rfl (by decide) (rX6_part l w x1 v1 0 u10) rfl (Nat.le_of_ble_eq_true rfl) (fun v11 u12 => ?_)
      refine z_aload_n C (i := 1) (pc' := 30) dX1_countLeadsOf_29 rfl rfl rfl ?_
      refine z_iload_n C (i := 3) (pc' := 31) dX1_countLeadsOf_30 rfl rfl rfl ?_
      refine z_iconst C (pc' := 32) dX1_countLeadsOf_31 kc_0 rfl ?_
      refine z_callV1 C (pc' := 35) lvRX1_76 lc_X6_part rfl dX1_countLeadsOf_32 rfl (by decide) (rX6_part l w x1 v6 0 u12) rfl (Nat.le_of_ble_eq_true rfl) (fun v13 u14 => ?_)
      refine z_callV0 C (pc' := 38) lvRX1_79 lc_X1_countLead rfl dX1_countLeadsOf_35 rfl (by decide) (rX1_countLead l w x0 v11 v13 u14) rfl (Nat.le_of_ble_eq_true rfl) (fun _ u15 => ?_)
      refine z_iinc C (i := 3) (la' := [(3, zI (zw32 (v6 + 1))), (0, zR x0), (1, zR x1), (2, zI v1)]) (pc' := 41) dX1_countLeadsOf_38 rfl (by decide) rfl rfl ?_
      refine z_goto C (pc' := 14) dX1_countLeadsOf_41 rfl ?_
      exact zlocs (lb := [(0, zR x0), (1, zR x1), (2, zI v1), (3, zI (zw32 (v6 + 1)))]) ⟨rfl, rfl, rfl, rfl, trivial⟩ (hk8 _ _)
def fX1_countLeads (x0 : Int) (u0 : zMem) : zRs := zgf 1 2 x0 u0 (fun v1 => zlen 26 v1 (fun v2 => zlp (fun _ _ => none) (fun k5 (v3 : Int) (u4 : zMem) => if v3 ≥ v2 then (zlp (fun _ _ => none) (fun k8 (v6 : Int) (u7 : zMem) => zgf 1 3 x0 u7 (fun v9 => if v6 ≥ v9 then (some (0, u7)) else (zgf 1 1 x0 u7 (fun v10 => zald 24 v10 v6 u7 (fun v11 => zvc 1 x0 (fX1_countLeadsOf x0 v11 u7) (fun _ u12 => k8 (zw32 (v6 + 1)) u12)))))) 1000000 0 u4) else (zald 26 v1 v3 u4 (fun v13 => zlp (fun _ _ => none) (fun k16 (v14 : Int) (u15 : zMem) => zlen 20 v13 (fun v17 => if v14 ≥ v17 then (k5 (zw32 (v3 + 1)) u15) else (zast 20 v13 v14 0 u15 (fun u18 => k16 (zw32 (v14 + 1)) u18)))) 1000000 0 u4))) 1000000 0 u0))
set_option maxRecDepth 100000 in
set_option maxHeartbeats 4000000 in
theorem rX1_countLeads (l : Launch) (w : zW) (x0 : Int) (u0 : zMem) : zSpc l w 4 yX1_countLeads cX1_countLeads 6 none 0 [zR x0] u0 (fX1_countLeads x0 u0) := by
  refine zSpc_of (own := RX1) pnRX1 rfl (Nat.le_of_ble_eq_true rfl) (fun G p e R s m args below meth c C hini => ?_)
  unfold fX1_countLeads
  refine zlocs (lb := [(0, zR x0)]) ⟨rfl, trivial⟩ ?_
  refine z_aload_n C (i := 0) (pc' := 1) dX1_countLeads_0 rfl rfl rfl ?_
  refine z_getfR C (pc' := 4) flRX1_21 dX1_countLeads_1 rfl (fun v1 => ?_)
  refine z_astore_n C (i := 1) (la' := [(1, zR v1), (0, zR x0)]) (pc' := 5) dX1_countLeads_4 rfl (by decide) rfl rfl ?_
  refine z_aload_n C (i := 1) (pc' := 6) dX1_countLeads_5 rfl rfl rfl ?_
  refine z_alen C (kd := 26) (pc' := 7) (by decide) dX1_countLeads_6 rfl (fun v2 => ?_)
  refine z_istore_n C (i := 2) (la' := [(2, zI v2), (1, zR v1), (0, zR x0)]) (pc' := 8) dX1_countLeads_7 rfl (by decide) rfl rfl ?_
  refine z_iconst C (pc' := 9) dX1_countLeads_8 kc_0 rfl ?_
  refine z_istore_n C (i := 3) (la' := [(3, zI 0), (2, zI v2), (1, zR v1), (0, zR x0)]) (pc' := 10) dX1_countLeads_9 rfl (by decide) rfl rfl ?_
  refine zlocs (lb := [(0, zR x0), (1, zR v1), (2, zI v2), (3, zI 0)]) ⟨rfl, rfl, rfl, rfl, trivial⟩ ?_
  refine zlp_ind (fun (f : Int → zMem → zRs) => ∀ (v3 : Int) (u4 : zMem), zSim G p l e R s m args below meth c w 6 (znc u0) (zM w 0 (znc u0) below args s) 10 [(0, zR x0), (1, zR v1), (2, zI v2), (3, zI v3)] [] u4 (f v3 u4)) (fun _ _ => znone) (fun k5 hk5 v3 u4 => ?_) _ _ _
  refine z_iload_n C (i := 3) (pc' := 11) dX1_countLeads_10 rfl rfl rfl ?_
  refine z_iload_n C (i := 2) (pc' := 12) dX1_countLeads_11 rfl rfl rfl ?_
  refine z_icmp_ge C (pc' := 49) (pf := 15) dX1_countLeads_12 rfl rfl (fun _ => ?_) (fun _ => ?_)
  ·
    refine z_iconst C (pc' := 50) dX1_countLeads_49 kc_0 rfl ?_
    refine z_istore_n C (i := 1) (la' := [(1, zI 0), (0, zR x0), (2, zI v2), (3, zI v3)]) (pc' := 51) dX1_countLeads_50 rfl (by decide) rfl rfl ?_
    refine zlocs (lb := [(0, zR x0), (1, zI 0)]) ⟨rfl, rfl, trivial⟩ ?_
    refine zlp_ind (fun (f : Int → zMem → zRs) => ∀ (v6 : Int) (u7 : zMem), zSim G p l e R s m args below meth c w 6 (znc u0) (zM w 0 (znc u0) below args s) 51 [(0, zR x0), (1, zI v6)] [] u7 (f v6 u7)) (fun _ _ => znone) (fun k8 hk8 v6 u7 => ?_) _ _ _
    refine z_iload_n C (i := 1) (pc' := 52) dX1_countLeads_51 rfl rfl rfl ?_
    refine z_aload_n C (i := 0) (pc' := 53) dX1_countLeads_52 rfl rfl rfl ?_
    refine z_getf C (pc' := 56) flRX1_29 dX1_countLeads_53 rfl (fun v9 => ?_)
    refine z_icmp_ge C (pc' := 75) (pf := 59) dX1_countLeads_56 rfl rfl (fun _ => ?_) (fun _ => ?_)
    ·
      exact z_return C dX1_countLeads_75
    ·
      refine z_aload_n C (i := 0) (pc' := 60) dX1_countLeads_59 rfl rfl rfl ?_
      refine z_aload_n C (i := 0) (pc' := 61) dX1_countLeads_60 rfl rfl rfl ?_
      refine z_getfR C (pc' := 64) flRX1_13 dX1_countLeads_61 rfl (fun v10 => ?_)
      refine z_iload_n C (i := 1) (pc' := 65) dX1_countLeads_64 rfl rfl rfl ?_
      refine z_aald C (pc' := 66) (by decide) dX1_countLeads_65 rfl (fun v11 => ?_)
      refine z_callV0 C (pc' := 69) lvRX1_71 lc_X1_countLeadsOf rfl dX1_countLeads_66 rfl (by decide) (rX1_countLeadsOf l w x0 v11 u7) rfl (Nat.le_of_ble_eq_true rfl) (fun _ u12 => ?_)
      refine z_iinc C (i := 1) (la' := [(1, zI (zw32 (v6 + 1))), (0, zR x0)]) (pc' := 72) dX1_countLeads_69 rfl (by decide) rfl rfl ?_
      refine z_goto C (pc' := 51) dX1_countLeads_72 rfl ?_
      exact zlocs (lb := [(0, zR x0), (1, zI (zw32 (v6 + 1)))]) ⟨rfl, rfl, trivial⟩ (hk8 _ _)
  ·
    refine z_aload_n C (i := 1) (pc' := 16) dX1_countLeads_15 rfl rfl rfl ?_
    refine z_iload_n C (i := 3) (pc' := 17) dX1_countLeads_16 rfl rfl rfl ?_
    refine z_aald C (pc' := 18) (by decide) dX1_countLeads_17 rfl (fun v13 => ?_)
    refine z_astore C (i := 4) (la' := [(4, zR v13), (0, zR x0), (1, zR v1), (2, zI v2), (3, zI v3)]) (pc' := 20) dX1_countLeads_18 (by decide) rfl rfl ?_
    refine z_iconst C (pc' := 21) dX1_countLeads_20 kc_0 rfl ?_
    refine z_istore C (i := 5) (la' := [(5, zI 0), (4, zR v13), (0, zR x0), (1, zR v1), (2, zI v2), (3, zI v3)]) (pc' := 23) dX1_countLeads_21 (by decide) rfl rfl ?_
    refine zlocs (lb := [(0, zR x0), (1, zR v1), (2, zI v2), (3, zI v3), (4, zR v13), (5, zI 0)]) ⟨rfl, rfl, rfl, rfl, rfl, rfl, trivial⟩ ?_
    refine zlp_ind (fun (f : Int → zMem → zRs) => ∀ (v14 : Int) (u15 : zMem), zSim G p l e R s m args below meth c w 6 (znc u0) (zM w 0 (znc u0) below args s) 23 [(0, zR x0), (1, zR v1), (2, zI v2), (3, zI v3), (4, zR v13), (5, zI v14)] [] u15 (f v14 u15)) (fun _ _ => znone) (fun k16 hk16 v14 u15 => ?_) _ _ _
    refine z_iload C (pc' := 25) dX1_countLeads_23 rfl rfl ?_
    refine z_aload C (pc' := 27) dX1_countLeads_25 rfl rfl ?_
    refine z_alen C (kd := 20) (pc' := 28) (by decide) dX1_countLeads_27 rfl (fun v17 => ?_)
    refine z_icmp_ge C (pc' := 43) (pf := 31) dX1_countLeads_28 rfl rfl (fun _ => ?_) (fun _ => ?_)
    ·
      refine z_iinc C (i := 3) (la' := [(3, zI (zw32 (v3 + 1))), (0, zR x0), (1, zR v1), (2, zI v2), (4, zR v13), (5, zI v14)]) (pc' := 46) dX1_countLeads_43 rfl (by decide) rfl rfl ?_
      refine z_goto C (pc' := 10) dX1_countLeads_46 rfl ?_
      exact zlocs (lb := [(0, zR x0), (1, zR v1), (2, zI v2), (3, zI (zw32 (v3 + 1)))]) ⟨rfl, rfl, rfl, rfl, trivial⟩ (hk5 _ _)
    ·
      refine z_aload C (pc' := 33) dX1_countLeads_31 rfl rfl ?_
      refine z_iload C (pc' := 35) dX1_countLeads_33 rfl rfl ?_
      refine z_iconst C (pc' := 36) dX1_countLeads_35 kc_0 rfl ?_
      refine z_iast C (pc' := 37) dX1_countLeads_36 rfl (fun u18 => ?_)
      refine z_iinc C (i := 5) (la' := [(5, zI (zw32 (v14 + 1))), (0, zR x0), (1, zR v1), (2, zI v2), (3, zI v3), (4, zR v13)]) (pc' := 40) dX1_countLeads_37 rfl (by decide) rfl rfl ?_
      refine z_goto C (pc' := 23) dX1_countLeads_40 rfl ?_
      exact zlocs (lb := [(0, zR x0), (1, zR v1), (2, zI v2), (3, zI v3), (4, zR v13), (5, zI (zw32 (v14 + 1)))]) ⟨rfl, rfl, rfl, rfl, rfl, rfl, trivial⟩ (hk16 _ _)
def fX1_beatenBy (x0 x1 x2 : Int) (u0 : zMem) : zRs := zlp (fun _ _ _ => none) (fun k4 (v1 : Int) (v2 : Int) (u3 : zMem) => if v2 ≥ 16 then (some (v1, u3)) else (zjn (fun (v5 : Int) (u6 : zMem) => k4 v5 (zw32 (v2 + 1)) u6) (fun k7 => if (zand (zshr x2 v2) 1) = 0 then (k7 v1 u3) else (zgf 1 2 x0 u3 (fun v8 => zald 26 v8 x1 u3 (fun v9 => zald 20 v9 v2 u3 (fun v10 => if v10 ≤ 0 then (k7 v1 u3) else (k7 (zw32 (v1 + 1)) u3)))))))) 1000000 0 0 u0
set_option maxRecDepth 100000 in
set_option maxHeartbeats 4000000 in
theorem rX1_beatenBy (l : Launch) (w : zW) (x0 x1 x2 : Int) (u0 : zMem) : zSpc l w 1 yX1_beatenBy cX1_beatenBy 5 (some .int) 1 [zR x0, zI x1, zI x2] u0 (fX1_beatenBy x0 x1 x2 u0) := by
  refine zSpc_of (own := RX1) pnRX1 rfl (Nat.le_of_ble_eq_true rfl) (fun G p e R s m args below meth c C hini => ?_)
  unfold fX1_beatenBy
  refine zlocs (lb := [(0, zR x0), (1, zI x1), (2, zI x2)]) ⟨rfl, rfl, rfl, trivial⟩ ?_
  refine z_iconst C (pc' := 1) dX1_beatenBy_0 kc_0 rfl ?_
  refine z_istore_n C (i := 3) (la' := [(3, zI 0), (0, zR x0), (1, zI x1), (2, zI x2)]) (pc' := 2) dX1_beatenBy_1 rfl (by decide) rfl rfl ?_
  refine z_iconst C (pc' := 3) dX1_beatenBy_2 kc_0 rfl ?_
  refine z_istore C (i := 4) (la' := [(4, zI 0), (3, zI 0), (0, zR x0), (1, zI x1), (2, zI x2)]) (pc' := 5) dX1_beatenBy_3 (by decide) rfl rfl ?_
  refine zlocs (lb := [(0, zR x0), (1, zI x1), (2, zI x2), (3, zI 0), (4, zI 0)]) ⟨rfl, rfl, rfl, rfl, rfl, trivial⟩ ?_
  refine zlp_ind (fun (f : Int → Int → zMem → zRs) => ∀ (v1 : Int) (v2 : Int) (u3 : zMem), zSim G p l e R s m args below meth c w 5 (znc u0) (zM w 1 (znc u0) below args s) 5 [(0, zR x0), (1, zI x1), (2, zI x2), (3, zI v1), (4, zI v2)] [] u3 (f v1 v2 u3)) (fun _ _ _ => znone) (fun k4 hk4 v1 v2 u3 => ?_) _ _ _ _
  refine z_iload C (pc' := 7) dX1_beatenBy_5 rfl rfl ?_
  refine z_bipush C (pc' := 9) dX1_beatenBy_7 kb_16 rfl ?_
  refine z_icmp_ge C (pc' := 42) (pf := 12) dX1_beatenBy_9 rfl rfl (fun _ => ?_) (fun _ => ?_)
  ·
    refine z_iload_n C (i := 3) (pc' := 43) dX1_beatenBy_42 rfl rfl rfl ?_
    exact z_ireturn C dX1_beatenBy_43
  ·
    refine z_iload_n C (i := 2) (pc' := 13) dX1_beatenBy_12 rfl rfl rfl ?_
    refine z_iload C (pc' := 15) dX1_beatenBy_13 rfl rfl ?_
    refine z_ishr C (pc' := 16) dX1_beatenBy_15 rfl ?_
    refine z_iconst C (pc' := 17) dX1_beatenBy_16 kc_1 rfl ?_
    refine z_iand C (pc' := 18) dX1_beatenBy_17 rfl ?_
    refine zjoin (P := fun (f : Int → zMem → zRs) => ∀ (v5 : Int) (u6 : zMem), zSim G p l e R s m args below meth c w 5 (znc u0) (zM w 1 (znc u0) below args s) 36 [(0, zR x0), (1, zI x1), (2, zI x2), (3, zI v5), (4, zI v2)] [] u6 (f v5 u6)) (fun v5 u6 => ?_) (fun k7 hk7 => ?_)
    ·
      refine z_iinc C (i := 4) (la' := [(4, zI (zw32 (v2 + 1))), (0, zR x0), (1, zI x1), (2, zI x2), (3, zI v5)]) (pc' := 39) dX1_beatenBy_36 rfl (by decide) rfl rfl ?_
      refine z_goto C (pc' := 5) dX1_beatenBy_39 rfl ?_
      exact zlocs (lb := [(0, zR x0), (1, zI x1), (2, zI x2), (3, zI v5), (4, zI (zw32 (v2 + 1)))]) ⟨rfl, rfl, rfl, rfl, rfl, trivial⟩ (hk4 _ _ _)
    ·
      refine z_if_eq C (pc' := 36) (pf := 21) dX1_beatenBy_18 rfl rfl (fun _ => ?_) (fun _ => ?_)
      ·
        exact zlocs (lb := [(0, zR x0), (1, zI x1), (2, zI x2), (3, zI v1), (4, zI v2)]) ⟨rfl, rfl, rfl, rfl, rfl, trivial⟩ (hk7 _ _)
      ·
        refine z_aload_n C (i := 0) (pc' := 22) dX1_beatenBy_21 rfl rfl rfl ?_
        refine z_getfR C (pc' := 25) flRX1_21 dX1_beatenBy_22 rfl (fun v8 => ?_)
        refine z_iload_n C (i := 1) (pc' := 26) dX1_beatenBy_25 rfl rfl rfl ?_
        refine z_aald C (pc' := 27) (by decide) dX1_beatenBy_26 rfl (fun v9 => ?_)
        refine z_iload C (pc' := 29) dX1_beatenBy_27 rfl rfl ?_
        refine z_iald C (pc' := 30) dX1_beatenBy_29 rfl (fun v10 => ?_)
        refine z_if_le C (pc' := 36) (pf := 33) dX1_beatenBy_30 rfl rfl (fun _ => ?_) (fun _ => ?_)
        ·
          exact zlocs (lb := [(0, zR x0), (1, zI x1), (2, zI x2), (3, zI v1), (4, zI v2)]) ⟨rfl, rfl, rfl, rfl, rfl, trivial⟩ (hk7 _ _)
        ·
          refine z_iinc C (i := 3) (la' := [(3, zI (zw32 (v1 + 1))), (0, zR x0), (1, zI x1), (2, zI x2), (4, zI v2)]) (pc' := 36) dX1_beatenBy_33 rfl (by decide) rfl rfl ?_
          exact zlocs (lb := [(0, zR x0), (1, zI x1), (2, zI x2), (3, zI (zw32 (v1 + 1))), (4, zI v2)]) ⟨rfl, rfl, rfl, rfl, rfl, trivial⟩ (hk7 _ _)
def fX1_foremost (x0 x1 : Int) (u0 : zMem) : zRs := zlp (fun _ _ _ _ => none) (fun k5 (v1 : Int) (v2 : Int) (v3 : Int) (u4 : zMem) => if v3 ≥ 16 then (some (v1, u4)) else (zjn (fun (v6 : Int) (u7 : zMem) => zjn (fun (v9 : Int) (v10 : Int) (u11 : zMem) => k5 v9 v10 (zw32 (v3 + 1)) u11) (fun k12 => if v6 ≤ v2 then (k12 v1 v2 u7) else (k12 v3 v6 u7))) (fun k8 => if (zand (zshr x1 v3) 1) = 0 then (k8 (-1) u4) else (zvc 1 x0 (fX1_beatenBy x0 v3 x1 u4) (fun v13 u14 => k8 v13 u14))))) 1000000 0 (-1) 0 u0
set_option maxRecDepth 100000 in
set_option maxHeartbeats 4000000 in
theorem rX1_foremost (l : Launch) (w : zW) (x0 x1 : Int) (u0 : zMem) : zSpc l w 2 yX1_foremost cX1_foremost 6 (some .int) 1 [zR x0, zI x1] u0 (fX1_foremost x0 x1 u0) := by
  refine zSpc_of (own := RX1) pnRX1 rfl (Nat.le_of_ble_eq_true rfl) (fun G p e R s m args below meth c C hini => ?_)
  unfold fX1_foremost
  refine zlocs (lb := [(0, zR x0), (1, zI x1)]) ⟨rfl, rfl, trivial⟩ ?_
  refine z_iconst C (pc' := 1) dX1_foremost_0 kc_0 rfl ?_
  refine z_istore_n C (i := 2) (la' := [(2, zI 0), (0, zR x0), (1, zI x1)]) (pc' := 2) dX1_foremost_1 rfl (by decide) rfl rfl ?_
  refine z_iconst C (pc' := 3) dX1_foremost_2 kc_m1 rfl ?_
  refine z_istore_n C (i := 3) (la' := [(3, zI (-1)), (2, zI 0), (0, zR x0), (1, zI x1)]) (pc' := 4) dX1_foremost_3 rfl (by decide) rfl rfl ?_
  refine z_iconst C (pc' := 5) dX1_foremost_4 kc_0 rfl ?_
  refine z_istore C (i := 4) (la' := [(4, zI 0), (3, zI (-1)), (2, zI 0), (0, zR x0), (1, zI x1)]) (pc' := 7) dX1_foremost_5 (by decide) rfl rfl ?_
  refine zlocs (lb := [(0, zR x0), (1, zI x1), (2, zI 0), (3, zI (-1)), (4, zI 0)]) ⟨rfl, rfl, rfl, rfl, rfl, trivial⟩ ?_
  refine zlp_ind (fun (f : Int → Int → Int → zMem → zRs) => ∀ (v1 : Int) (v2 : Int) (v3 : Int) (u4 : zMem), zSim G p l e R s m args below meth c w 6 (znc u0) (zM w 1 (znc u0) below args s) 7 [(0, zR x0), (1, zI x1), (2, zI v1), (3, zI v2), (4, zI v3)] [] u4 (f v1 v2 v3 u4)) (fun _ _ _ _ => znone) (fun k5 hk5 v1 v2 v3 u4 => ?_) _ _ _ _ _
  refine z_iload C (pc' := 9) dX1_foremost_7 rfl rfl ?_
  refine z_bipush C (pc' := 11) dX1_foremost_9 kb_16 rfl ?_
  refine z_icmp_ge C (pc' := 54) (pf := 14) dX1_foremost_11 rfl rfl (fun _ => ?_) (fun _ => ?_)
  ·
    refine z_iload_n C (i := 2) (pc' := 55) dX1_foremost_54 rfl rfl rfl ?_
    exact z_ireturn C dX1_foremost_55
  ·
    refine z_iload_n C (i := 1) (pc' := 15) dX1_foremost_14 rfl rfl rfl ?_
    refine z_iload C (pc' := 17) dX1_foremost_15 rfl rfl ?_
    refine z_ishr C (pc' := 18) dX1_foremost_17 rfl ?_
    refine z_iconst C (pc' := 19) dX1_foremost_18 kc_1 rfl ?_
    refine z_iand C (pc' := 20) dX1_foremost_19 rfl ?_
    refine zjoin (P := fun (f : Int → zMem → zRs) => ∀ (v6 : Int) (u7 : zMem), zSim G p l e R s m args below meth c w 6 (znc u0) (zM w 1 (znc u0) below args s) 34 [(0, zR x0), (1, zI x1), (2, zI v1), (3, zI v2), (4, zI v3)] [zI v6] u7 (f v6 u7)) (fun v6 u7 => ?_) (fun k8 hk8 => ?_)
    ·
      refine z_istore C (i := 5) (la' := [(5, zI v6), (0, zR x0), (1, zI x1), (2, zI v1), (3, zI v2), (4, zI v3)]) (pc' := 36) dX1_foremost_34 (by decide) rfl rfl ?_
      refine z_iload C (pc' := 38) dX1_foremost_36 rfl rfl ?_
      refine z_iload_n C (i := 3) (pc' := 39) dX1_foremost_38 rfl rfl rfl ?_
      refine zjoin (P := fun (f : Int → Int → zMem → zRs) => ∀ (v9 : Int) (v10 : Int) (u11 : zMem), zSim G p l e R s m args below meth c w 6 (znc u0) (zM w 1 (znc u0) below args s) 48 [(0, zR x0), (1, zI x1), (2, zI v9), (3, zI v10), (4, zI v3)] [] u11 (f v9 v10 u11)) (fun v9 v10 u11 => ?_) (fun k12 hk12 => ?_)
      ·
        refine z_iinc C (i := 4) (la' := [(4, zI (zw32 (v3 + 1))), (0, zR x0), (1, zI x1), (2, zI v9), (3, zI v10)]) (pc' := 51) dX1_foremost_48 rfl (by decide) rfl rfl ?_
        refine z_goto C (pc' := 7) dX1_foremost_51 rfl ?_
        exact zlocs (lb := [(0, zR x0), (1, zI x1), (2, zI v9), (3, zI v10), (4, zI (zw32 (v3 + 1)))]) ⟨rfl, rfl, rfl, rfl, rfl, trivial⟩ (hk5 _ _ _ _)
      ·
        refine z_icmp_le C (pc' := 48) (pf := 42) dX1_foremost_39 rfl rfl (fun _ => ?_) (fun _ => ?_)
        ·
          exact zlocs (lb := [(0, zR x0), (1, zI x1), (2, zI v1), (3, zI v2), (4, zI v3)]) ⟨rfl, rfl, rfl, rfl, rfl, trivial⟩ (hk12 _ _ _)
        ·
          refine z_iload C (pc' := 44) dX1_foremost_42 rfl rfl ?_
          refine z_istore_n C (i := 3) (la' := [(3, zI v6), (5, zI v6), (0, zR x0), (1, zI x1), (2, zI v1), (4, zI v3)]) (pc' := 45) dX1_foremost_44 rfl (by decide) rfl rfl ?_
          refine z_iload C (pc' := 47) dX1_foremost_45 rfl rfl ?_
          refine z_istore_n C (i := 2) (la' := [(2, zI v3), (3, zI v6), (5, zI v6), (0, zR x0), (1, zI x1), (4, zI v3)]) (pc' := 48) dX1_foremost_47 rfl (by decide) rfl rfl ?_
          exact zlocs (lb := [(0, zR x0), (1, zI x1), (2, zI v3), (3, zI v6), (4, zI v3)]) ⟨rfl, rfl, rfl, rfl, rfl, trivial⟩ (hk12 _ _ _)
    ·
      refine z_if_eq C (pc' := 33) (pf := 23) dX1_foremost_20 rfl rfl (fun _ => ?_) (fun _ => ?_)
      ·
        refine z_iconst C (pc' := 34) dX1_foremost_33 kc_m1 rfl ?_
        exact zlocs (lb := [(0, zR x0), (1, zI x1), (2, zI v1), (3, zI v2), (4, zI v3)]) ⟨rfl, rfl, rfl, rfl, rfl, trivial⟩ (hk8 _ _)
      ·
        refine z_aload_n C (i := 0) (pc' := 24) dX1_foremost_23 rfl rfl rfl ?_
        refine z_iload C (pc' := 26) dX1_foremost_24 rfl rfl ?_
        refine z_iload_n C (i := 1) (pc' := 27) dX1_foremost_26 rfl rfl rfl ?_
        refine z_callV1 C (pc' := 30) lvRX1_83 lc_X1_beatenBy rfl dX1_foremost_27 rfl (by decide) (rX1_beatenBy l w x0 v3 x1 u4) rfl (Nat.le_of_ble_eq_true rfl) (fun v13 u14 => ?_)
        refine z_goto C (pc' := 34) dX1_foremost_30 rfl ?_
        exact zlocs (lb := [(0, zR x0), (1, zI x1), (2, zI v1), (3, zI v2), (4, zI v3)]) ⟨rfl, rfl, rfl, rfl, rfl, trivial⟩ (hk8 _ _)
def fX1_inOrder (x0 x1 : Int) (u0 : zMem) : zRs := zlp (fun _ _ _ => none) (fun k4 (v1 : Int) (v2 : Int) (u3 : zMem) => zgf 1 3 x0 u3 (fun v5 => if v2 ≥ v5 then (if x1 < 0 then (some ((-1), u3)) else (zcall (fJ6_bitCount_0f7a4 v1 u3) (fun v6 u7 => if x1 < v6 then (zvc 1 x0 (fX1_countLeads x0 u7) (fun _ u8 => zlp (fun _ _ _ => none) (fun k12 (v9 : Int) (v10 : Int) (u11 : zMem) => if v10 ≥ x1 then (zvc 1 x0 (fX1_foremost x0 v9 u11) (fun v13 u14 => some (v13, u14))) else (zvc 1 x0 (fX1_foremost x0 v9 u11) (fun v15 u16 => k12 (zand v9 (zxor (zshl 1 v15) (-1))) (zw32 (v10 + 1)) u16))) 1000000 v1 0 u8)) else (some ((-1), u7))))) else (zgf 1 1 x0 u3 (fun v17 => zald 24 v17 v2 u3 (fun v18 => zvc 6 v18 (fX6_bits v18 u3) (fun v19 u20 => k4 (zor v1 v19) (zw32 (v2 + 1)) u20)))))) 1000000 0 0 u0
set_option maxRecDepth 100000 in
set_option maxHeartbeats 4000000 in
theorem rX1_inOrder (l : Launch) (w : zW) (x0 x1 : Int) (u0 : zMem) : zSpc l w 5 yX1_inOrder cX1_inOrder 4 (some .int) 1 [zR x0, zI x1] u0 (fX1_inOrder x0 x1 u0) := by
  refine zSpc_of (own := RX1) pnRX1 rfl (Nat.le_of_ble_eq_true rfl) (fun G p e R s m args below meth c C hini => ?_)
  unfold fX1_inOrder
  refine zlocs (lb := [(0, zR x0), (1, zI x1)]) ⟨rfl, rfl, trivial⟩ ?_
  refine z_iconst C (pc' := 1) dX1_inOrder_0 kc_0 rfl ?_
  refine z_istore_n C (i := 2) (la' := [(2, zI 0), (0, zR x0), (1, zI x1)]) (pc' := 2) dX1_inOrder_1 rfl (by decide) rfl rfl ?_
  refine z_iconst C (pc' := 3) dX1_inOrder_2 kc_0 rfl ?_
  refine z_istore_n C (i := 3) (la' := [(3, zI 0), (2, zI 0), (0, zR x0), (1, zI x1)]) (pc' := 4) dX1_inOrder_3 rfl (by decide) rfl rfl ?_
  refine zlocs (lb := [(0, zR x0), (1, zI x1), (2, zI 0), (3, zI 0)]) ⟨rfl, rfl, rfl, rfl, trivial⟩ ?_
  refine zlp_ind (fun (f : Int → Int → zMem → zRs) => ∀ (v1 : Int) (v2 : Int) (u3 : zMem), zSim G p l e R s m args below meth c w 4 (znc u0) (zM w 1 (znc u0) below args s) 4 [(0, zR x0), (1, zI x1), (2, zI v1), (3, zI v2)] [] u3 (f v1 v2 u3)) (fun _ _ _ => znone) (fun k4 hk4 v1 v2 u3 => ?_) _ _ _ _
  refine z_iload_n C (i := 3) (pc' := 5) dX1_inOrder_4 rfl rfl rfl ?_
  refine z_aload_n C (i := 0) (pc' := 6) dX1_inOrder_5 rfl rfl rfl ?_
  refine z_getf C (pc' := 9) flRX1_29 dX1_inOrder_6 rfl (fun v5 => ?_)
  refine z_icmp_ge C (pc' := 30) (pf := 12) dX1_inOrder_9 rfl rfl (fun _ => ?_) (fun _ => ?_)
  ·
    refine z_iload_n C (i := 1) (pc' := 31) dX1_inOrder_30 rfl rfl rfl ?_
    refine z_if_lt C (pc' := 42) (pf := 34) dX1_inOrder_31 rfl rfl (fun _ => ?_) (fun _ => ?_)
    ·
      refine z_iconst C (pc' := 43) dX1_inOrder_42 kc_m1 rfl ?_
      exact z_ireturn C dX1_inOrder_43
    ·
      refine z_iload_n C (i := 1) (pc' := 35) dX1_inOrder_34 rfl rfl rfl ?_
      refine z_iload_n C (i := 2) (pc' := 36) dX1_inOrder_35 rfl rfl rfl ?_
      refine z_callS1 C (pc' := 39) lsRX1_49 lc_J6_bitCount_0f7a4 rfl dX1_inOrder_36 rfl (by decide) (rJ6_bitCount_0f7a4 l w v1 u3) rfl (Nat.le_of_ble_eq_true rfl) (fun v6 u7 => ?_)
      refine z_icmp_lt C (pc' := 44) (pf := 42) dX1_inOrder_39 rfl rfl (fun _ => ?_) (fun _ => ?_)
      ·
        refine z_aload_n C (i := 0) (pc' := 45) dX1_inOrder_44 rfl rfl rfl ?_
        refine z_callV0 C (pc' := 48) lvRX1_65 lc_X1_countLeads rfl dX1_inOrder_45 rfl (by decide) (rX1_countLeads l w x0 u7) rfl (Nat.le_of_ble_eq_true rfl) (fun _ u8 => ?_)
        refine z_iconst C (pc' := 49) dX1_inOrder_48 kc_0 rfl ?_
        refine z_istore_n C (i := 3) (la' := [(3, zI 0), (0, zR x0), (1, zI x1), (2, zI v1)]) (pc' := 50) dX1_inOrder_49 rfl (by decide) rfl rfl ?_
        refine zlocs (lb := [(0, zR x0), (1, zI x1), (2, zI v1), (3, zI 0)]) ⟨rfl, rfl, rfl, rfl, trivial⟩ ?_
        refine zlp_ind (fun (f : Int → Int → zMem → zRs) => ∀ (v9 : Int) (v10 : Int) (u11 : zMem), zSim G p l e R s m args below meth c w 4 (znc u0) (zM w 1 (znc u0) below args s) 50 [(0, zR x0), (1, zI x1), (2, zI v9), (3, zI v10)] [] u11 (f v9 v10 u11)) (fun _ _ _ => znone) (fun k12 hk12 v9 v10 u11 => ?_) _ _ _ _
        refine z_iload_n C (i := 3) (pc' := 51) dX1_inOrder_50 rfl rfl rfl ?_
        refine z_iload_n C (i := 1) (pc' := 52) dX1_inOrder_51 rfl rfl rfl ?_
        refine z_icmp_ge C (pc' := 73) (pf := 55) dX1_inOrder_52 rfl rfl (fun _ => ?_) (fun _ => ?_)
        ·
          refine z_aload_n C (i := 0) (pc' := 74) dX1_inOrder_73 rfl rfl rfl ?_
          refine z_iload_n C (i := 2) (pc' := 75) dX1_inOrder_74 rfl rfl rfl ?_
          refine z_callV1 C (pc' := 78) lvRX1_68 lc_X1_foremost rfl dX1_inOrder_75 rfl (by decide) (rX1_foremost l w x0 v9 u11) rfl (Nat.le_of_ble_eq_true rfl) (fun v13 u14 => ?_)
          exact z_ireturn C dX1_inOrder_78
        ·
          refine z_iload_n C (i := 2) (pc' := 56) dX1_inOrder_55 rfl rfl rfl ?_
          refine z_iconst C (pc' := 57) dX1_inOrder_56 kc_1 rfl ?_
          refine z_aload_n C (i := 0) (pc' := 58) dX1_inOrder_57 rfl rfl rfl ?_
          refine z_iload_n C (i := 2) (pc' := 59) dX1_inOrder_58 rfl rfl rfl ?_
          refine z_callV1 C (pc' := 62) lvRX1_68 lc_X1_foremost rfl dX1_inOrder_59 rfl (by decide) (rX1_foremost l w x0 v9 u11) rfl (Nat.le_of_ble_eq_true rfl) (fun v15 u16 => ?_)
          refine z_ishl C (pc' := 63) dX1_inOrder_62 rfl ?_
          refine z_iconst C (pc' := 64) dX1_inOrder_63 kc_m1 rfl ?_
          refine z_ixor C (pc' := 65) dX1_inOrder_64 rfl ?_
          refine z_iand C (pc' := 66) dX1_inOrder_65 rfl ?_
          refine z_istore_n C (i := 2) (la' := [(2, zI (zand v9 (zxor (zshl 1 v15) (-1)))), (0, zR x0), (1, zI x1), (3, zI v10)]) (pc' := 67) dX1_inOrder_66 rfl (by decide) rfl rfl ?_
          refine z_iinc C (i := 3) (la' := [(3, zI (zw32 (v10 + 1))), (2, zI (zand v9 (zxor (zshl 1 v15) (-1)))), (0, zR x0), (1, zI x1)]) (pc' := 70) dX1_inOrder_67 rfl (by decide) rfl rfl ?_
          refine z_goto C (pc' := 50) dX1_inOrder_70 rfl ?_
          exact zlocs (lb := [(0, zR x0), (1, zI x1), (2, zI (zand v9 (zxor (zshl 1 v15) (-1)))), (3, zI (zw32 (v10 + 1)))]) ⟨rfl, rfl, rfl, rfl, trivial⟩ (hk12 _ _ _)
      ·
        refine z_iconst C (pc' := 43) dX1_inOrder_42 kc_m1 rfl ?_
        exact z_ireturn C dX1_inOrder_43
  ·
    refine z_iload_n C (i := 2) (pc' := 13) dX1_inOrder_12 rfl rfl rfl ?_
    refine z_aload_n C (i := 0) (pc' := 14) dX1_inOrder_13 rfl rfl rfl ?_
    refine z_getfR C (pc' := 17) flRX1_13 dX1_inOrder_14 rfl (fun v17 => ?_)
    refine z_iload_n C (i := 3) (pc' := 18) dX1_inOrder_17 rfl rfl rfl ?_
    refine z_aald C (pc' := 19) (by decide) dX1_inOrder_18 rfl (fun v18 => ?_)
    refine z_callV1 C (pc' := 22) lvRX1_62 lc_X6_bits rfl dX1_inOrder_19 rfl (by decide) (rX6_bits l w v18 u3) rfl (Nat.le_of_ble_eq_true rfl) (fun v19 u20 => ?_)
    refine z_ior C (pc' := 23) dX1_inOrder_22 rfl ?_
    refine z_istore_n C (i := 2) (la' := [(2, zI (zor v1 v19)), (0, zR x0), (1, zI x1), (3, zI v2)]) (pc' := 24) dX1_inOrder_23 rfl (by decide) rfl rfl ?_
    refine z_iinc C (i := 3) (la' := [(3, zI (zw32 (v2 + 1))), (2, zI (zor v1 v19)), (0, zR x0), (1, zI x1)]) (pc' := 27) dX1_inOrder_24 rfl (by decide) rfl rfl ?_
    refine z_goto C (pc' := 4) dX1_inOrder_27 rfl ?_
    exact zlocs (lb := [(0, zR x0), (1, zI x1), (2, zI (zor v1 v19)), (3, zI (zw32 (v2 + 1)))]) ⟨rfl, rfl, rfl, rfl, trivial⟩ (hk4 _ _ _)
def fX3_has (x0 x1 : Int) (u0 : zMem) : zRs := zjn (fun (u1 : zMem) => zbl 0 (some (0, u1))) (fun k2 => if x1 < 0 then (k2 u0) else (zgf 3 3 x0 u0 (fun v3 => if x1 ≥ v3 then (k2 u0) else (zbl 1 (some (1, u0))))))
set_option maxRecDepth 100000 in
set_option maxHeartbeats 4000000 in
theorem rX3_has (l : Launch) (w : zW) (x0 x1 : Int) (u0 : zMem) : zSpc l w 1 yX3_has cX3_has 2 (some .boolean) 1 [zR x0, zI x1] u0 (fX3_has x0 x1 u0) := by
  refine zSpc_of (own := RX3) pnRX3 rfl (Nat.le_of_ble_eq_true rfl) (fun G p e R s m args below meth c C hini => ?_)
  unfold fX3_has
  refine zlocs (lb := [(0, zR x0), (1, zI x1)]) ⟨rfl, rfl, trivial⟩ ?_
  refine z_iload_n C (i := 1) (pc' := 1) dX3_has_0 rfl rfl rfl ?_
  refine zjoin (P := fun (f : zMem → zRs) => ∀ (u1 : zMem), zSim G p l e R s m args below meth c w 2 (znc u0) (zM w 1 (znc u0) below args s) 16 [] [] u1 (f u1)) (fun u1 => ?_) (fun k2 hk2 => ?_)
  ·
    refine z_iconst C (pc' := 17) dX3_has_16 kc_0 rfl ?_
    exact z_zreturn C dX3_has_17
  ·
    refine z_if_lt C (pc' := 16) (pf := 4) dX3_has_1 rfl rfl (fun _ => ?_) (fun _ => ?_)
    ·
      exact zlocs (lb := []) trivial (hk2 _)
    ·
      refine z_iload_n C (i := 1) (pc' := 5) dX3_has_4 rfl rfl rfl ?_
      refine z_aload_n C (i := 0) (pc' := 6) dX3_has_5 rfl rfl rfl ?_
      refine z_getf C (pc' := 9) flRX3_31 dX3_has_6 rfl (fun v3 => ?_)
      refine z_icmp_ge C (pc' := 16) (pf := 12) dX3_has_9 rfl rfl (fun _ => ?_) (fun _ => ?_)
      ·
        exact zlocs (lb := []) trivial (hk2 _)
      ·
        refine z_iconst C (pc' := 13) dX3_has_12 kc_1 rfl ?_
        refine z_goto C (pc' := 17) dX3_has_13 rfl ?_
        exact z_zreturn C dX3_has_17
def fX3_heedOf (x0 x1 x2 : Int) (u0 : zMem) : zRs := zvc 3 x0 (fX3_has x0 x1 u0) (fun v1 u2 => if v1 ≠ 0 then (zgf 3 1 x0 u2 (fun v3 => zgf 3 2 x0 u2 (fun v4 => zald 25 v4 x1 u2 (fun v5 => zvc 7 v3 (fX7_work v3 v5 x2 u2) (fun v6 u7 => some ((zmx 0 (zmi 100 v6)), u7)))))) else (some (0, u2)))
set_option maxRecDepth 100000 in
set_option maxHeartbeats 4000000 in
theorem rX3_heedOf (l : Launch) (w : zW) (x0 x1 x2 : Int) (u0 : zMem) : zSpc l w 4 yX3_heedOf cX3_heedOf 3 (some .int) 1 [zR x0, zI x1, zI x2] u0 (fX3_heedOf x0 x1 x2 u0) := by
  refine zSpc_of (own := RX3) pnRX3 rfl (Nat.le_of_ble_eq_true rfl) (fun G p e R s m args below meth c C hini => ?_)
  unfold fX3_heedOf
  refine zlocs (lb := [(0, zR x0), (1, zI x1), (2, zI x2)]) ⟨rfl, rfl, rfl, trivial⟩ ?_
  refine z_aload_n C (i := 0) (pc' := 1) dX3_heedOf_0 rfl rfl rfl ?_
  refine z_iload_n C (i := 1) (pc' := 2) dX3_heedOf_1 rfl rfl rfl ?_
  refine z_callV1 C (pc' := 5) lvRX3_43 lc_X3_has rfl dX3_heedOf_2 rfl (by decide) (rX3_has l w x0 x1 u0) rfl (Nat.le_of_ble_eq_true rfl) (fun v1 u2 => ?_)
  refine z_if_ne C (pc' := 10) (pf := 8) dX3_heedOf_5 rfl rfl (fun _ => ?_) (fun _ => ?_)
  ·
    refine z_iconst C (pc' := 11) dX3_heedOf_10 kc_0 rfl ?_
    refine z_bipush C (pc' := 13) dX3_heedOf_11 kb_100 rfl ?_
    refine z_aload_n C (i := 0) (pc' := 14) dX3_heedOf_13 rfl rfl rfl ?_
    refine z_getfR C (pc' := 17) flRX3_26 dX3_heedOf_14 rfl (fun v3 => ?_)
    refine z_aload_n C (i := 0) (pc' := 18) dX3_heedOf_17 rfl rfl rfl ?_
    refine z_getfR C (pc' := 21) flRX3_13 dX3_heedOf_18 rfl (fun v4 => ?_)
    refine z_iload_n C (i := 1) (pc' := 22) dX3_heedOf_21 rfl rfl rfl ?_
    refine z_aald C (pc' := 23) (by decide) dX3_heedOf_22 rfl (fun v5 => ?_)
    refine z_iload_n C (i := 2) (pc' := 24) dX3_heedOf_23 rfl rfl rfl ?_
    refine z_callV1 C (pc' := 27) lvRX3_47 lc_X7_work rfl dX3_heedOf_24 rfl (by decide) (rX7_work l w v3 v5 x2 u2) rfl (Nat.le_of_ble_eq_true rfl) (fun v6 u7 => ?_)
    refine z_mmin C (pc' := 30) wmRX3_51 wms_min wmi wmc_min dX3_heedOf_27 rfl (by decide) (Nat.le_of_ble_eq_true rfl) ?_
    refine z_mmax C (pc' := 33) wmRX3_57 wms_max wmi wmc_max dX3_heedOf_30 rfl (by decide) (Nat.le_of_ble_eq_true rfl) ?_
    exact z_ireturn C dX3_heedOf_33
  ·
    refine z_iconst C (pc' := 9) dX3_heedOf_8 kc_0 rfl ?_
    exact z_ireturn C dX3_heedOf_9
def fX1_chanceIfSaid (x0 x1 x2 : Int) (u0 : zMem) : zRs := zlp (fun _ _ _ _ => none) (fun k5 (v1 : Int) (v2 : Int) (v3 : Int) (u4 : zMem) => zgf 1 3 x0 u4 (fun v6 => if v3 ≥ v6 then (some (v1, u4)) else (if v2 ≥ 7 then (some (v1, u4)) else (zgf 1 1 x0 u4 (fun v7 => zald 24 v7 v3 u4 (fun v8 => zvc 6 v8 (fX6_by v8 u4) (fun v9 u10 => zjn (fun (v11 : Int) (v12 : Int) (u13 : zMem) => k5 v11 v12 (zw32 (v3 + 1)) u13) (fun k14 => if v9 < 0 then (k14 v1 v2 u10) else (zvc 3 x2 (fX3_heedOf x2 v9 x1 u10) (fun v15 u16 => zgf 1 1 x0 u16 (fun v17 => zald 24 v17 v3 u16 (fun v18 => zvc 6 v18 (fX6_placeOf v18 x1 u16) (fun v19 u20 => zjn (fun (v21 : Int) (u22 : zMem) => k14 (zw64 (v1 * v21)) (zw32 (v2 + 1)) u22) (fun k23 => if v19 < 0 then (k23 (zw32 (100 - v15)) u20) else (k23 v15 u20))))))))))))))) 1000000 1 0 0 u0
set_option maxRecDepth 100000 in
set_option maxHeartbeats 4000000 in
theorem rX1_chanceIfSaid (l : Launch) (w : zW) (x0 x1 x2 : Int) (u0 : zMem) : zSpc l w 5 yX1_chanceIfSaid cX1_chanceIfSaid 9 (some .long) 2 [zR x0, zI x1, zR x2] u0 (fX1_chanceIfSaid x0 x1 x2 u0) := by
  refine zSpc_of (own := RX1) pnRX1 rfl (Nat.le_of_ble_eq_true rfl) (fun G p e R s m args below meth c C hini => ?_)
  unfold fX1_chanceIfSaid
  refine zlocs (lb := [(0, zR x0), (1, zI x1), (2, zR x2)]) ⟨rfl, rfl, rfl, trivial⟩ ?_
  refine z_lconst C (pc' := 1) dX1_chanceIfSaid_0 kl_1 rfl ?_
  refine z_lstore_n C (i := 3) (la' := [(3, zL 1), (0, zR x0), (1, zI x1), (2, zR x2)]) (pc' := 2) dX1_chanceIfSaid_1 rfl (by decide) rfl rfl ?_
  refine z_iconst C (pc' := 3) dX1_chanceIfSaid_2 kc_0 rfl ?_
  refine z_istore C (i := 5) (la' := [(5, zI 0), (3, zL 1), (0, zR x0), (1, zI x1), (2, zR x2)]) (pc' := 5) dX1_chanceIfSaid_3 (by decide) rfl rfl ?_
  refine z_iconst C (pc' := 6) dX1_chanceIfSaid_5 kc_0 rfl ?_
  refine z_istore C (i := 6) (la' := [(6, zI 0), (5, zI 0), (3, zL 1), (0, zR x0), (1, zI x1), (2, zR x2)]) (pc' := 8) dX1_chanceIfSaid_6 (by decide) rfl rfl ?_
  refine zlocs (lb := [(0, zR x0), (1, zI x1), (2, zR x2), (3, zL 1), (5, zI 0), (6, zI 0)]) ⟨rfl, rfl, rfl, rfl, rfl, rfl, trivial⟩ ?_
  refine zlp_ind (fun (f : Int → Int → Int → zMem → zRs) => ∀ (v1 : Int) (v2 : Int) (v3 : Int) (u4 : zMem), zSim G p l e R s m args below meth c w 9 (znc u0) (zM w 2 (znc u0) below args s) 8 [(0, zR x0), (1, zI x1), (2, zR x2), (3, zL v1), (5, zI v2), (6, zI v3)] [] u4 (f v1 v2 v3 u4)) (fun _ _ _ _ => znone) (fun k5 hk5 v1 v2 v3 u4 => ?_) _ _ _ _ _
  refine z_iload C (pc' := 10) dX1_chanceIfSaid_8 rfl rfl ?_
  refine z_aload_n C (i := 0) (pc' := 11) dX1_chanceIfSaid_10 rfl rfl rfl ?_
  refine z_getf C (pc' := 14) flRX1_29 dX1_chanceIfSaid_11 rfl (fun v6 => ?_)
  refine z_icmp_ge C (pc' := 88) (pf := 17) dX1_chanceIfSaid_14 rfl rfl (fun _ => ?_) (fun _ => ?_)
  ·
    refine z_lload_n C (i := 3) (pc' := 89) dX1_chanceIfSaid_88 rfl rfl rfl ?_
    exact z_lreturn C dX1_chanceIfSaid_89
  ·
    refine z_iload C (pc' := 19) dX1_chanceIfSaid_17 rfl rfl ?_
    refine z_bipush C (pc' := 21) dX1_chanceIfSaid_19 kb_7 rfl ?_
    refine z_icmp_ge C (pc' := 88) (pf := 24) dX1_chanceIfSaid_21 rfl rfl (fun _ => ?_) (fun _ => ?_)
    ·
      refine z_lload_n C (i := 3) (pc' := 89) dX1_chanceIfSaid_88 rfl rfl rfl ?_
      exact z_lreturn C dX1_chanceIfSaid_89
    ·
      refine z_aload_n C (i := 0) (pc' := 25) dX1_chanceIfSaid_24 rfl rfl rfl ?_
      refine z_getfR C (pc' := 28) flRX1_13 dX1_chanceIfSaid_25 rfl (fun v7 => ?_)
      refine z_iload C (pc' := 30) dX1_chanceIfSaid_28 rfl rfl ?_
      refine z_aald C (pc' := 31) (by decide) dX1_chanceIfSaid_30 rfl (fun v8 => ?_)
      refine z_callV1 C (pc' := 34) lvRX1_45 lc_X6_by rfl dX1_chanceIfSaid_31 rfl (by decide) (rX6_by l w v8 u4) rfl (Nat.le_of_ble_eq_true rfl) (fun v9 u10 => ?_)
      refine z_istore C (i := 7) (la' := [(7, zI v9), (0, zR x0), (1, zI x1), (2, zR x2), (3, zL v1), (5, zI v2), (6, zI v3)]) (pc' := 36) dX1_chanceIfSaid_34 (by decide) rfl rfl ?_
      refine z_iload C (pc' := 38) dX1_chanceIfSaid_36 rfl rfl ?_
      refine zjoin (P := fun (f : Int → Int → zMem → zRs) => ∀ (v11 : Int) (v12 : Int) (u13 : zMem), zSim G p l e R s m args below meth c w 9 (znc u0) (zM w 2 (znc u0) below args s) 82 [(0, zR x0), (1, zI x1), (2, zR x2), (3, zL v11), (5, zI v12), (6, zI v3)] [] u13 (f v11 v12 u13)) (fun v11 v12 u13 => ?_) (fun k14 hk14 => ?_)
      ·
        refine z_iinc C (i := 6) (la' := [(6, zI (zw32 (v3 + 1))), (0, zR x0), (1, zI x1), (2, zR x2), (3, zL v11), (5, zI v12)]) (pc' := 85) dX1_chanceIfSaid_82 rfl (by decide) rfl rfl ?_
        refine z_goto C (pc' := 8) dX1_chanceIfSaid_85 rfl ?_
        exact zlocs (lb := [(0, zR x0), (1, zI x1), (2, zR x2), (3, zL v11), (5, zI v12), (6, zI (zw32 (v3 + 1)))]) ⟨rfl, rfl, rfl, rfl, rfl, rfl, trivial⟩ (hk5 _ _ _ _)
      ·
        refine z_if_lt C (pc' := 82) (pf := 41) dX1_chanceIfSaid_38 rfl rfl (fun _ => ?_) (fun _ => ?_)
        ·
          exact zlocs (lb := [(0, zR x0), (1, zI x1), (2, zR x2), (3, zL v1), (5, zI v2), (6, zI v3)]) ⟨rfl, rfl, rfl, rfl, rfl, rfl, trivial⟩ (hk14 _ _ _)
        ·
          refine z_aload_n C (i := 2) (pc' := 42) dX1_chanceIfSaid_41 rfl rfl rfl ?_
          refine z_iload C (pc' := 44) dX1_chanceIfSaid_42 rfl rfl ?_
          refine z_iload_n C (i := 1) (pc' := 45) dX1_chanceIfSaid_44 rfl rfl rfl ?_
          refine z_callV1 C (pc' := 48) lvRX1_86 lc_X3_heedOf rfl dX1_chanceIfSaid_45 rfl (by decide) (rX3_heedOf l w x2 v9 x1 u10) rfl (Nat.le_of_ble_eq_true rfl) (fun v15 u16 => ?_)
          refine z_istore C (i := 8) (la' := [(8, zI v15), (7, zI v9), (0, zR x0), (1, zI x1), (2, zR x2), (3, zL v1), (5, zI v2), (6, zI v3)]) (pc' := 50) dX1_chanceIfSaid_48 (by decide) rfl rfl ?_
          refine z_lload_n C (i := 3) (pc' := 51) dX1_chanceIfSaid_50 rfl rfl rfl ?_
          refine z_aload_n C (i := 0) (pc' := 52) dX1_chanceIfSaid_51 rfl rfl rfl ?_
          refine z_getfR C (pc' := 55) flRX1_13 dX1_chanceIfSaid_52 rfl (fun v17 => ?_)
          refine z_iload C (pc' := 57) dX1_chanceIfSaid_55 rfl rfl ?_
          refine z_aald C (pc' := 58) (by decide) dX1_chanceIfSaid_57 rfl (fun v18 => ?_)
          refine z_iload_n C (i := 1) (pc' := 59) dX1_chanceIfSaid_58 rfl rfl rfl ?_
          refine z_callV1 C (pc' := 62) lvRX1_41 lc_X6_placeOf rfl dX1_chanceIfSaid_59 rfl (by decide) (rX6_placeOf l w v18 x1 u16) rfl (Nat.le_of_ble_eq_true rfl) (fun v19 u20 => ?_)
          refine zjoin (P := fun (f : Int → zMem → zRs) => ∀ (v21 : Int) (u22 : zMem), zSim G p l e R s m args below meth c w 9 (znc u0) (zM w 2 (znc u0) below args s) 77 [(0, zR x0), (1, zI x1), (2, zR x2), (5, zI v2), (6, zI v3)] [zL v21, zL v1] u22 (f v21 u22)) (fun v21 u22 => ?_) (fun k23 hk23 => ?_)
          ·
            refine z_lmul C (pc' := 78) dX1_chanceIfSaid_77 rfl ?_
            refine z_lstore_n C (i := 3) (la' := [(3, zL (zw64 (v1 * v21))), (0, zR x0), (1, zI x1), (2, zR x2), (5, zI v2), (6, zI v3)]) (pc' := 79) dX1_chanceIfSaid_78 rfl (by decide) rfl rfl ?_
            refine z_iinc C (i := 5) (la' := [(5, zI (zw32 (v2 + 1))), (3, zL (zw64 (v1 * v21))), (0, zR x0), (1, zI x1), (2, zR x2), (6, zI v3)]) (pc' := 82) dX1_chanceIfSaid_79 rfl (by decide) rfl rfl ?_
            exact zlocs (lb := [(0, zR x0), (1, zI x1), (2, zR x2), (3, zL (zw64 (v1 * v21))), (5, zI (zw32 (v2 + 1))), (6, zI v3)]) ⟨rfl, rfl, rfl, rfl, rfl, rfl, trivial⟩ (hk14 _ _ _)
          ·
            refine z_if_lt C (pc' := 71) (pf := 65) dX1_chanceIfSaid_62 rfl rfl (fun _ => ?_) (fun _ => ?_)
            ·
              refine z_bipush C (pc' := 73) dX1_chanceIfSaid_71 kb_100 rfl ?_
              refine z_iload C (pc' := 75) dX1_chanceIfSaid_73 rfl rfl ?_
              refine z_isub C (pc' := 76) dX1_chanceIfSaid_75 rfl ?_
              refine z_i2l C (pc' := 77) dX1_chanceIfSaid_76 rfl ?_
              exact zlocs (lb := [(0, zR x0), (1, zI x1), (2, zR x2), (5, zI v2), (6, zI v3)]) ⟨rfl, rfl, rfl, rfl, rfl, trivial⟩ (hk23 _ _)
            ·
              refine z_iload C (pc' := 67) dX1_chanceIfSaid_65 rfl rfl ?_
              refine z_i2l C (pc' := 68) dX1_chanceIfSaid_67 rfl ?_
              refine z_goto C (pc' := 77) dX1_chanceIfSaid_68 rfl ?_
              exact zlocs (lb := [(0, zR x0), (1, zI x1), (2, zR x2), (5, zI v2), (6, zI v3)]) ⟨rfl, rfl, rfl, rfl, rfl, trivial⟩ (hk23 _ _)
def fX1_chanceIfNot (x0 x1 : Int) (u0 : zMem) : zRs := zlp (fun _ _ _ _ => none) (fun k5 (v1 : Int) (v2 : Int) (v3 : Int) (u4 : zMem) => zgf 1 3 x0 u4 (fun v6 => if v3 ≥ v6 then (some (v1, u4)) else (if v2 ≥ 7 then (some (v1, u4)) else (zgf 1 1 x0 u4 (fun v7 => zald 24 v7 v3 u4 (fun v8 => zvc 6 v8 (fX6_by v8 u4) (fun v9 u10 => zjn (fun (v11 : Int) (v12 : Int) (u13 : zMem) => k5 v11 v12 (zw32 (v3 + 1)) u13) (fun k14 => if v9 < 0 then (k14 v1 v2 u10) else (zgf 1 1 x0 u10 (fun v15 => zald 24 v15 v3 u10 (fun v16 => zvc 6 v16 (fX6_placeOf v16 x1 u10) (fun v17 u18 => zjn (fun (v19 : Int) (u20 : zMem) => k14 (zw64 (v1 * v19)) (zw32 (v2 + 1)) u20) (fun k21 => if v17 < 0 then (k21 100 u18) else (k21 0 u18)))))))))))))) 1000000 1 0 0 u0
set_option maxRecDepth 100000 in
set_option maxHeartbeats 4000000 in
theorem rX1_chanceIfNot (l : Launch) (w : zW) (x0 x1 : Int) (u0 : zMem) : zSpc l w 2 yX1_chanceIfNot cX1_chanceIfNot 6 (some .long) 2 [zR x0, zI x1] u0 (fX1_chanceIfNot x0 x1 u0) := by
  refine zSpc_of (own := RX1) pnRX1 rfl (Nat.le_of_ble_eq_true rfl) (fun G p e R s m args below meth c C hini => ?_)
  unfold fX1_chanceIfNot
  refine zlocs (lb := [(0, zR x0), (1, zI x1)]) ⟨rfl, rfl, trivial⟩ ?_
  refine z_lconst C (pc' := 1) dX1_chanceIfNot_0 kl_1 rfl ?_
  refine z_lstore_n C (i := 2) (la' := [(2, zL 1), (0, zR x0), (1, zI x1)]) (pc' := 2) dX1_chanceIfNot_1 rfl (by decide) rfl rfl ?_
  refine z_iconst C (pc' := 3) dX1_chanceIfNot_2 kc_0 rfl ?_
  refine z_istore C (i := 4) (la' := [(4, zI 0), (2, zL 1), (0, zR x0), (1, zI x1)]) (pc' := 5) dX1_chanceIfNot_3 (by decide) rfl rfl ?_
  refine z_iconst C (pc' := 6) dX1_chanceIfNot_5 kc_0 rfl ?_
  refine z_istore C (i := 5) (la' := [(5, zI 0), (4, zI 0), (2, zL 1), (0, zR x0), (1, zI x1)]) (pc' := 8) dX1_chanceIfNot_6 (by decide) rfl rfl ?_
  refine zlocs (lb := [(0, zR x0), (1, zI x1), (2, zL 1), (4, zI 0), (5, zI 0)]) ⟨rfl, rfl, rfl, rfl, rfl, trivial⟩ ?_
  refine zlp_ind (fun (f : Int → Int → Int → zMem → zRs) => ∀ (v1 : Int) (v2 : Int) (v3 : Int) (u4 : zMem), zSim G p l e R s m args below meth c w 6 (znc u0) (zM w 2 (znc u0) below args s) 8 [(0, zR x0), (1, zI x1), (2, zL v1), (4, zI v2), (5, zI v3)] [] u4 (f v1 v2 v3 u4)) (fun _ _ _ _ => znone) (fun k5 hk5 v1 v2 v3 u4 => ?_) _ _ _ _ _
  refine z_iload C (pc' := 10) dX1_chanceIfNot_8 rfl rfl ?_
  refine z_aload_n C (i := 0) (pc' := 11) dX1_chanceIfNot_10 rfl rfl rfl ?_
  refine z_getf C (pc' := 14) flRX1_29 dX1_chanceIfNot_11 rfl (fun v6 => ?_)
  refine z_icmp_ge C (pc' := 70) (pf := 17) dX1_chanceIfNot_14 rfl rfl (fun _ => ?_) (fun _ => ?_)
  ·
    refine z_lload_n C (i := 2) (pc' := 71) dX1_chanceIfNot_70 rfl rfl rfl ?_
    exact z_lreturn C dX1_chanceIfNot_71
  ·
    refine z_iload C (pc' := 19) dX1_chanceIfNot_17 rfl rfl ?_
    refine z_bipush C (pc' := 21) dX1_chanceIfNot_19 kb_7 rfl ?_
    refine z_icmp_ge C (pc' := 70) (pf := 24) dX1_chanceIfNot_21 rfl rfl (fun _ => ?_) (fun _ => ?_)
    ·
      refine z_lload_n C (i := 2) (pc' := 71) dX1_chanceIfNot_70 rfl rfl rfl ?_
      exact z_lreturn C dX1_chanceIfNot_71
    ·
      refine z_aload_n C (i := 0) (pc' := 25) dX1_chanceIfNot_24 rfl rfl rfl ?_
      refine z_getfR C (pc' := 28) flRX1_13 dX1_chanceIfNot_25 rfl (fun v7 => ?_)
      refine z_iload C (pc' := 30) dX1_chanceIfNot_28 rfl rfl ?_
      refine z_aald C (pc' := 31) (by decide) dX1_chanceIfNot_30 rfl (fun v8 => ?_)
      refine z_callV1 C (pc' := 34) lvRX1_45 lc_X6_by rfl dX1_chanceIfNot_31 rfl (by decide) (rX6_by l w v8 u4) rfl (Nat.le_of_ble_eq_true rfl) (fun v9 u10 => ?_)
      refine zjoin (P := fun (f : Int → Int → zMem → zRs) => ∀ (v11 : Int) (v12 : Int) (u13 : zMem), zSim G p l e R s m args below meth c w 6 (znc u0) (zM w 2 (znc u0) below args s) 64 [(0, zR x0), (1, zI x1), (2, zL v11), (4, zI v12), (5, zI v3)] [] u13 (f v11 v12 u13)) (fun v11 v12 u13 => ?_) (fun k14 hk14 => ?_)
      ·
        refine z_iinc C (i := 5) (la' := [(5, zI (zw32 (v3 + 1))), (0, zR x0), (1, zI x1), (2, zL v11), (4, zI v12)]) (pc' := 67) dX1_chanceIfNot_64 rfl (by decide) rfl rfl ?_
        refine z_goto C (pc' := 8) dX1_chanceIfNot_67 rfl ?_
        exact zlocs (lb := [(0, zR x0), (1, zI x1), (2, zL v11), (4, zI v12), (5, zI (zw32 (v3 + 1)))]) ⟨rfl, rfl, rfl, rfl, rfl, trivial⟩ (hk5 _ _ _ _)
      ·
        refine z_if_lt C (pc' := 64) (pf := 37) dX1_chanceIfNot_34 rfl rfl (fun _ => ?_) (fun _ => ?_)
        ·
          exact zlocs (lb := [(0, zR x0), (1, zI x1), (2, zL v1), (4, zI v2), (5, zI v3)]) ⟨rfl, rfl, rfl, rfl, rfl, trivial⟩ (hk14 _ _ _)
        ·
          refine z_lload_n C (i := 2) (pc' := 38) dX1_chanceIfNot_37 rfl rfl rfl ?_
          refine z_aload_n C (i := 0) (pc' := 39) dX1_chanceIfNot_38 rfl rfl rfl ?_
          refine z_getfR C (pc' := 42) flRX1_13 dX1_chanceIfNot_39 rfl (fun v15 => ?_)
          refine z_iload C (pc' := 44) dX1_chanceIfNot_42 rfl rfl ?_
          refine z_aald C (pc' := 45) (by decide) dX1_chanceIfNot_44 rfl (fun v16 => ?_)
          refine z_iload_n C (i := 1) (pc' := 46) dX1_chanceIfNot_45 rfl rfl rfl ?_
          refine z_callV1 C (pc' := 49) lvRX1_41 lc_X6_placeOf rfl dX1_chanceIfNot_46 rfl (by decide) (rX6_placeOf l w v16 x1 u10) rfl (Nat.le_of_ble_eq_true rfl) (fun v17 u18 => ?_)
          refine zjoin (P := fun (f : Int → zMem → zRs) => ∀ (v19 : Int) (u20 : zMem), zSim G p l e R s m args below meth c w 6 (znc u0) (zM w 2 (znc u0) below args s) 59 [(0, zR x0), (1, zI x1), (4, zI v2), (5, zI v3)] [zL v19, zL v1] u20 (f v19 u20)) (fun v19 u20 => ?_) (fun k21 hk21 => ?_)
          ·
            refine z_lmul C (pc' := 60) dX1_chanceIfNot_59 rfl ?_
            refine z_lstore_n C (i := 2) (la' := [(2, zL (zw64 (v1 * v19))), (0, zR x0), (1, zI x1), (4, zI v2), (5, zI v3)]) (pc' := 61) dX1_chanceIfNot_60 rfl (by decide) rfl rfl ?_
            refine z_iinc C (i := 4) (la' := [(4, zI (zw32 (v2 + 1))), (2, zL (zw64 (v1 * v19))), (0, zR x0), (1, zI x1), (5, zI v3)]) (pc' := 64) dX1_chanceIfNot_61 rfl (by decide) rfl rfl ?_
            exact zlocs (lb := [(0, zR x0), (1, zI x1), (2, zL (zw64 (v1 * v19))), (4, zI (zw32 (v2 + 1))), (5, zI v3)]) ⟨rfl, rfl, rfl, rfl, rfl, trivial⟩ (hk14 _ _ _)
          ·
            refine z_if_lt C (pc' := 56) (pf := 52) dX1_chanceIfNot_49 rfl rfl (fun _ => ?_) (fun _ => ?_)
            ·
              refine z_ldc2 C (pc' := 59) dX1_chanceIfNot_56 wlRX1_91 kj_100 rfl ?_
              exact zlocs (lb := [(0, zR x0), (1, zI x1), (4, zI v2), (5, zI v3)]) ⟨rfl, rfl, rfl, rfl, trivial⟩ (hk21 _ _)
            ·
              refine z_lconst C (pc' := 53) dX1_chanceIfNot_52 kl_0 rfl ?_
              refine z_goto C (pc' := 59) dX1_chanceIfNot_53 rfl ?_
              exact zlocs (lb := [(0, zR x0), (1, zI x1), (4, zI v2), (5, zI v3)]) ⟨rfl, rfl, rfl, rfl, trivial⟩ (hk21 _ _)
def fX1_spanFrom (x0 x1 x2 : Int) (u0 : zMem) : zRs := zlp (fun _ _ _ => none) (fun k4 (v1 : Int) (v2 : Int) (u3 : zMem) => zgf 1 0 x0 u3 (fun v5 => zvc 5 v5 (fX5_size v5 u3) (fun v6 u7 => if v2 ≥ v6 then (some (v1, u7)) else (zvc 6 x1 (fX6_placeOf x1 v2 u7) (fun v8 u9 => if v8 ≥ 0 then (some (v1, u9)) else (zgf 1 0 x0 u9 (fun v10 => zvc 5 v10 (fX5_part v10 v2 3 u9) (fun v11 u12 => k4 (zw32 (v1 + v11)) (zw32 (v2 + 1)) u12)))))))) 1000000 0 x2 u0
set_option maxRecDepth 100000 in
set_option maxHeartbeats 4000000 in
theorem rX1_spanFrom (l : Launch) (w : zW) (x0 x1 x2 : Int) (u0 : zMem) : zSpc l w 2 yX1_spanFrom cX1_spanFrom 5 (some .int) 1 [zR x0, zR x1, zI x2] u0 (fX1_spanFrom x0 x1 x2 u0) := by
  refine zSpc_of (own := RX1) pnRX1 rfl (Nat.le_of_ble_eq_true rfl) (fun G p e R s m args below meth c C hini => ?_)
  unfold fX1_spanFrom
  refine zlocs (lb := [(0, zR x0), (1, zR x1), (2, zI x2)]) ⟨rfl, rfl, rfl, trivial⟩ ?_
  refine z_iconst C (pc' := 1) dX1_spanFrom_0 kc_0 rfl ?_
  refine z_istore_n C (i := 3) (la' := [(3, zI 0), (0, zR x0), (1, zR x1), (2, zI x2)]) (pc' := 2) dX1_spanFrom_1 rfl (by decide) rfl rfl ?_
  refine z_iload_n C (i := 2) (pc' := 3) dX1_spanFrom_2 rfl rfl rfl ?_
  refine z_istore C (i := 4) (la' := [(4, zI x2), (3, zI 0), (0, zR x0), (1, zR x1), (2, zI x2)]) (pc' := 5) dX1_spanFrom_3 (by decide) rfl rfl ?_
  refine zlocs (lb := [(0, zR x0), (1, zR x1), (3, zI 0), (4, zI x2)]) ⟨rfl, rfl, rfl, rfl, trivial⟩ ?_
  refine zlp_ind (fun (f : Int → Int → zMem → zRs) => ∀ (v1 : Int) (v2 : Int) (u3 : zMem), zSim G p l e R s m args below meth c w 5 (znc u0) (zM w 1 (znc u0) below args s) 5 [(0, zR x0), (1, zR x1), (3, zI v1), (4, zI v2)] [] u3 (f v1 v2 u3)) (fun _ _ _ => znone) (fun k4 hk4 v1 v2 u3 => ?_) _ _ _ _
  refine z_iload C (pc' := 7) dX1_spanFrom_5 rfl rfl ?_
  refine z_aload_n C (i := 0) (pc' := 8) dX1_spanFrom_7 rfl rfl rfl ?_
  refine z_getfR C (pc' := 11) flRX1_24 dX1_spanFrom_8 rfl (fun v5 => ?_)
  refine z_callV1 C (pc' := 14) lvRX1_54 lc_X5_size rfl dX1_spanFrom_11 rfl (by decide) (rX5_size l w v5 u3) rfl (Nat.le_of_ble_eq_true rfl) (fun v6 u7 => ?_)
  refine z_icmp_ge C (pc' := 45) (pf := 17) dX1_spanFrom_14 rfl rfl (fun _ => ?_) (fun _ => ?_)
  ·
    refine z_iload_n C (i := 3) (pc' := 46) dX1_spanFrom_45 rfl rfl rfl ?_
    exact z_ireturn C dX1_spanFrom_46
  ·
    refine z_aload_n C (i := 1) (pc' := 18) dX1_spanFrom_17 rfl rfl rfl ?_
    refine z_iload C (pc' := 20) dX1_spanFrom_18 rfl rfl ?_
    refine z_callV1 C (pc' := 23) lvRX1_41 lc_X6_placeOf rfl dX1_spanFrom_20 rfl (by decide) (rX6_placeOf l w x1 v2 u7) rfl (Nat.le_of_ble_eq_true rfl) (fun v8 u9 => ?_)
    refine z_if_ge C (pc' := 45) (pf := 26) dX1_spanFrom_23 rfl rfl (fun _ => ?_) (fun _ => ?_)
    ·
      refine z_iload_n C (i := 3) (pc' := 46) dX1_spanFrom_45 rfl rfl rfl ?_
      exact z_ireturn C dX1_spanFrom_46
    ·
      refine z_iload_n C (i := 3) (pc' := 27) dX1_spanFrom_26 rfl rfl rfl ?_
      refine z_aload_n C (i := 0) (pc' := 28) dX1_spanFrom_27 rfl rfl rfl ?_
      refine z_getfR C (pc' := 31) flRX1_24 dX1_spanFrom_28 rfl (fun v10 => ?_)
      refine z_iload C (pc' := 33) dX1_spanFrom_31 rfl rfl ?_
      refine z_iconst C (pc' := 34) dX1_spanFrom_33 kc_3 rfl ?_
      refine z_callV1 C (pc' := 37) lvRX1_97 lc_X5_part rfl dX1_spanFrom_34 rfl (by decide) (rX5_part l w v10 v2 3 u9) rfl (Nat.le_of_ble_eq_true rfl) (fun v11 u12 => ?_)
      refine z_iadd C (pc' := 38) dX1_spanFrom_37 rfl ?_
      refine z_istore_n C (i := 3) (la' := [(3, zI (zw32 (v1 + v11))), (0, zR x0), (1, zR x1), (4, zI v2)]) (pc' := 39) dX1_spanFrom_38 rfl (by decide) rfl rfl ?_
      refine z_iinc C (i := 4) (la' := [(4, zI (zw32 (v2 + 1))), (3, zI (zw32 (v1 + v11))), (0, zR x0), (1, zR x1)]) (pc' := 42) dX1_spanFrom_39 rfl (by decide) rfl rfl ?_
      refine z_goto C (pc' := 5) dX1_spanFrom_42 rfl ?_
      exact zlocs (lb := [(0, zR x0), (1, zR x1), (3, zI (zw32 (v1 + v11))), (4, zI (zw32 (v2 + 1)))]) ⟨rfl, rfl, rfl, rfl, trivial⟩ (hk4 _ _ _)
def fX1_longestGap (x0 x1 : Int) (u0 : zMem) : zRs := zlp (fun _ _ _ _ => none) (fun k5 (v1 : Int) (v2 : Int) (v3 : Int) (u4 : zMem) => zgf 1 0 x0 u4 (fun v6 => zvc 5 v6 (fX5_size v6 u4) (fun v7 u8 => if v3 ≥ v7 then (some (v1, u8)) else (zvc 1 x0 (fX1_spanFrom x0 x1 v3 u8) (fun v9 u10 => zjn (fun (v11 : Int) (v12 : Int) (u13 : zMem) => k5 v11 v12 (zw32 (v3 + 1)) u13) (fun k14 => if v9 ≤ v2 then (k14 v1 v2 u10) else (k14 v3 v9 u10))))))) 1000000 (-1) 0 0 u0
set_option maxRecDepth 100000 in
set_option maxHeartbeats 4000000 in
theorem rX1_longestGap (l : Launch) (w : zW) (x0 x1 : Int) (u0 : zMem) : zSpc l w 3 yX1_longestGap cX1_longestGap 6 (some .int) 1 [zR x0, zR x1] u0 (fX1_longestGap x0 x1 u0) := by
  refine zSpc_of (own := RX1) pnRX1 rfl (Nat.le_of_ble_eq_true rfl) (fun G p e R s m args below meth c C hini => ?_)
  unfold fX1_longestGap
  refine zlocs (lb := [(0, zR x0), (1, zR x1)]) ⟨rfl, rfl, trivial⟩ ?_
  refine z_iconst C (pc' := 1) dX1_longestGap_0 kc_m1 rfl ?_
  refine z_istore_n C (i := 2) (la' := [(2, zI (-1)), (0, zR x0), (1, zR x1)]) (pc' := 2) dX1_longestGap_1 rfl (by decide) rfl rfl ?_
  refine z_iconst C (pc' := 3) dX1_longestGap_2 kc_0 rfl ?_
  refine z_istore_n C (i := 3) (la' := [(3, zI 0), (2, zI (-1)), (0, zR x0), (1, zR x1)]) (pc' := 4) dX1_longestGap_3 rfl (by decide) rfl rfl ?_
  refine z_iconst C (pc' := 5) dX1_longestGap_4 kc_0 rfl ?_
  refine z_istore C (i := 4) (la' := [(4, zI 0), (3, zI 0), (2, zI (-1)), (0, zR x0), (1, zR x1)]) (pc' := 7) dX1_longestGap_5 (by decide) rfl rfl ?_
  refine zlocs (lb := [(0, zR x0), (1, zR x1), (2, zI (-1)), (3, zI 0), (4, zI 0)]) ⟨rfl, rfl, rfl, rfl, rfl, trivial⟩ ?_
  refine zlp_ind (fun (f : Int → Int → Int → zMem → zRs) => ∀ (v1 : Int) (v2 : Int) (v3 : Int) (u4 : zMem), zSim G p l e R s m args below meth c w 6 (znc u0) (zM w 1 (znc u0) below args s) 7 [(0, zR x0), (1, zR x1), (2, zI v1), (3, zI v2), (4, zI v3)] [] u4 (f v1 v2 v3 u4)) (fun _ _ _ _ => znone) (fun k5 hk5 v1 v2 v3 u4 => ?_) _ _ _ _ _
  refine z_iload C (pc' := 9) dX1_longestGap_7 rfl rfl ?_
  refine z_aload_n C (i := 0) (pc' := 10) dX1_longestGap_9 rfl rfl rfl ?_
  refine z_getfR C (pc' := 13) flRX1_24 dX1_longestGap_10 rfl (fun v6 => ?_)
  refine z_callV1 C (pc' := 16) lvRX1_54 lc_X5_size rfl dX1_longestGap_13 rfl (by decide) (rX5_size l w v6 u4) rfl (Nat.le_of_ble_eq_true rfl) (fun v7 u8 => ?_)
  refine z_icmp_ge C (pc' := 46) (pf := 19) dX1_longestGap_16 rfl rfl (fun _ => ?_) (fun _ => ?_)
  ·
    refine z_iload_n C (i := 2) (pc' := 47) dX1_longestGap_46 rfl rfl rfl ?_
    exact z_ireturn C dX1_longestGap_47
  ·
    refine z_aload_n C (i := 0) (pc' := 20) dX1_longestGap_19 rfl rfl rfl ?_
    refine z_aload_n C (i := 1) (pc' := 21) dX1_longestGap_20 rfl rfl rfl ?_
    refine z_iload C (pc' := 23) dX1_longestGap_21 rfl rfl ?_
    refine z_callV1 C (pc' := 26) lvRX1_93 lc_X1_spanFrom rfl dX1_longestGap_23 rfl (by decide) (rX1_spanFrom l w x0 x1 v3 u8) rfl (Nat.le_of_ble_eq_true rfl) (fun v9 u10 => ?_)
    refine z_istore C (i := 5) (la' := [(5, zI v9), (0, zR x0), (1, zR x1), (2, zI v1), (3, zI v2), (4, zI v3)]) (pc' := 28) dX1_longestGap_26 (by decide) rfl rfl ?_
    refine z_iload C (pc' := 30) dX1_longestGap_28 rfl rfl ?_
    refine z_iload_n C (i := 3) (pc' := 31) dX1_longestGap_30 rfl rfl rfl ?_
    refine zjoin (P := fun (f : Int → Int → zMem → zRs) => ∀ (v11 : Int) (v12 : Int) (u13 : zMem), zSim G p l e R s m args below meth c w 6 (znc u0) (zM w 1 (znc u0) below args s) 40 [(0, zR x0), (1, zR x1), (2, zI v11), (3, zI v12), (4, zI v3)] [] u13 (f v11 v12 u13)) (fun v11 v12 u13 => ?_) (fun k14 hk14 => ?_)
    ·
      refine z_iinc C (i := 4) (la' := [(4, zI (zw32 (v3 + 1))), (0, zR x0), (1, zR x1), (2, zI v11), (3, zI v12)]) (pc' := 43) dX1_longestGap_40 rfl (by decide) rfl rfl ?_
      refine z_goto C (pc' := 7) dX1_longestGap_43 rfl ?_
      exact zlocs (lb := [(0, zR x0), (1, zR x1), (2, zI v11), (3, zI v12), (4, zI (zw32 (v3 + 1)))]) ⟨rfl, rfl, rfl, rfl, rfl, trivial⟩ (hk5 _ _ _ _)
    ·
      refine z_icmp_le C (pc' := 40) (pf := 34) dX1_longestGap_31 rfl rfl (fun _ => ?_) (fun _ => ?_)
      ·
        exact zlocs (lb := [(0, zR x0), (1, zR x1), (2, zI v1), (3, zI v2), (4, zI v3)]) ⟨rfl, rfl, rfl, rfl, rfl, trivial⟩ (hk14 _ _ _)
      ·
        refine z_iload C (pc' := 36) dX1_longestGap_34 rfl rfl ?_
        refine z_istore_n C (i := 3) (la' := [(3, zI v9), (5, zI v9), (0, zR x0), (1, zR x1), (2, zI v1), (4, zI v3)]) (pc' := 37) dX1_longestGap_36 rfl (by decide) rfl rfl ?_
        refine z_iload C (pc' := 39) dX1_longestGap_37 rfl rfl ?_
        refine z_istore_n C (i := 2) (la' := [(2, zI v3), (3, zI v9), (5, zI v9), (0, zR x0), (1, zR x1), (4, zI v3)]) (pc' := 40) dX1_longestGap_39 rfl (by decide) rfl rfl ?_
        exact zlocs (lb := [(0, zR x0), (1, zR x1), (2, zI v3), (3, zI v9), (4, zI v3)]) ⟨rfl, rfl, rfl, rfl, rfl, trivial⟩ (hk14 _ _ _)
def fX3_init (x0 x1 : Int) (u0 : zMem) : zRs := if 0 ≤ x0 then (znar 25 4 u0 (fun v1 u2 => zpf 3 2 x0 v1 u2 (fun u3 => zpf 3 0 x0 x1 u3 (fun u4 => znew 7 u4 (fun v5 u6 => zic v5 (fX7_init v5 x1 u6) (fun _ u7 => zpf 3 1 x0 v5 u7 (fun u8 => zlp (fun _ _ => none) (fun k11 (v9 : Int) (u10 : zMem) => if v9 ≥ 4 then (some (0, u10)) else (zgf 3 2 x0 u10 (fun v12 => znew 4 u10 (fun v13 u14 => zic v13 (fX4_init v13 u14) (fun _ u15 => zasr 25 4 v12 v9 v13 u15 (fun u16 => k11 (zw32 (v9 + 1)) u16)))))) 1000000 0 u8))))))) else none
set_option maxRecDepth 100000 in
set_option maxHeartbeats 4000000 in
theorem rX3_init (l : Launch) (w : zW) (x0 x1 : Int) (u0 : zMem) : zSpc l w 2 yX3_init cX3_init 3 none 0 [zR x0, zR x1] u0 (fX3_init x0 x1 u0) := by
  refine zSpc_of (own := RX3) pnRX3 rfl (Nat.le_of_ble_eq_true rfl) (fun G p e R s m args below meth c C hini => ?_)
  unfold fX3_init
  refine zlocs (lb := [(0, zR x0), (1, zR x1)]) ⟨rfl, rfl, trivial⟩ ?_
  refine z_aload_n C (i := 0) (pc' := 1) dX3_init_0 rfl rfl rfl ?_
  refine z_objinit C (pc' := 4) woRX3_3 woi woc dX3_init_1 rfl (by decide) (Nat.le_of_ble_eq_true rfl) ?_
  refine z_aload_n C (i := 0) (pc' := 5) dX3_init_4 rfl rfl rfl ?_
  refine z_iconst C (pc' := 6) dX3_init_5 kc_4 rfl ?_
  refine z_anewarr C (kd := 25) (C' := RX4) (pc' := 9) (by decide) rfl wkRX3_11 (by decide +kernel) dX3_init_6 rfl (fun v1 u2 => ?_)
  refine z_putfRi C (pc' := 12) flRX3_13 hini rfl fb3_2 dX3_init_9 rfl (fun u3 => ?_)
  refine z_aload_n C (i := 0) (pc' := 13) dX3_init_12 rfl rfl rfl ?_
  refine z_aload_n C (i := 1) (pc' := 14) dX3_init_13 rfl rfl rfl ?_
  refine z_putfRi C (pc' := 17) flRX3_17 hini rfl fb3_0 dX3_init_14 rfl (fun u4 => ?_)
  refine z_aload_n C (i := 0) (pc' := 18) dX3_init_17 rfl rfl rfl ?_
  refine znew_core C (ci := 7) (pc' := 21) rfl wkRX3_21 wi7 wn7 dX3_init_18 rfl (fun v5 u6 => ?_)
  refine z_dup C (pc' := 22) dX3_init_21 rfl rfl ?_
  refine z_aload_n C (i := 1) (pc' := 23) dX3_init_22 rfl rfl rfl ?_
  refine z_callI C (pc' := 26) liRX3_23 lc_X7_init rfl dX3_init_23 rfl (by decide) (rX7_init l w v5 x1 u6) rfl (Nat.le_of_ble_eq_true rfl) (fun _ u7 => ?_)
  refine z_putfRi C (pc' := 29) flRX3_26 hini rfl fb3_1 dX3_init_26 rfl (fun u8 => ?_)
  refine z_iconst C (pc' := 30) dX3_init_29 kc_0 rfl ?_
  refine z_istore_n C (i := 2) (la' := [(2, zI 0), (0, zR x0), (1, zR x1)]) (pc' := 31) dX3_init_30 rfl (by decide) rfl rfl ?_
  refine zlocs (lb := [(0, zR x0), (2, zI 0)]) ⟨rfl, rfl, trivial⟩ ?_
  refine zlp_ind (fun (f : Int → zMem → zRs) => ∀ (v9 : Int) (u10 : zMem), zSim G p l e R s m args below meth c w 3 (znc u0) (zM w 0 (znc u0) below args s) 31 [(0, zR x0), (2, zI v9)] [] u10 (f v9 u10)) (fun _ _ => znone) (fun k11 hk11 v9 u10 => ?_) _ _ _
  refine z_iload_n C (i := 2) (pc' := 32) dX3_init_31 rfl rfl rfl ?_
  refine z_iconst C (pc' := 33) dX3_init_32 kc_4 rfl ?_
  refine z_icmp_ge C (pc' := 55) (pf := 36) dX3_init_33 rfl rfl (fun _ => ?_) (fun _ => ?_)
  ·
    exact z_return C dX3_init_55
  ·
    refine z_aload_n C (i := 0) (pc' := 37) dX3_init_36 rfl rfl rfl ?_
    refine z_getfR C (pc' := 40) flRX3_13 dX3_init_37 rfl (fun v12 => ?_)
    refine z_iload_n C (i := 2) (pc' := 41) dX3_init_40 rfl rfl rfl ?_
    refine znew_core C (ci := 4) (pc' := 44) rfl wkRX3_11 wi4 wn4 dX3_init_41 rfl (fun v13 u14 => ?_)
    refine z_dup C (pc' := 45) dX3_init_44 rfl rfl ?_
    refine z_callN C (pc' := 48) lnRX3_30 lc_X4_init rfl dX3_init_45 rfl (by decide) (rX4_init l w v13 u14) rfl (Nat.le_of_ble_eq_true rfl) (fun _ u15 => ?_)
    refine z_aast C (ci := 4) (pc' := 49) (by decide) rfl rfl dX3_init_48 rfl (fun u16 => ?_)
    refine z_iinc C (i := 2) (la' := [(2, zI (zw32 (v9 + 1))), (0, zR x0)]) (pc' := 52) dX3_init_49 rfl (by decide) rfl rfl ?_
    refine z_goto C (pc' := 31) dX3_init_52 rfl ?_
    exact zlocs (lb := [(0, zR x0), (2, zI (zw32 (v9 + 1)))]) ⟨rfl, rfl, trivial⟩ (hk11 _ _)
def fX3_size (x0 : Int) (u0 : zMem) : zRs := zgf 3 3 x0 u0 (fun v1 => some (v1, u0))
set_option maxRecDepth 100000 in
set_option maxHeartbeats 4000000 in
theorem rX3_size (l : Launch) (w : zW) (x0 : Int) (u0 : zMem) : zSpc l w 1 yX3_size cX3_size 1 (some .int) 1 [zR x0] u0 (fX3_size x0 u0) := by
  refine zSpc_of (own := RX3) pnRX3 rfl (Nat.le_of_ble_eq_true rfl) (fun G p e R s m args below meth c C hini => ?_)
  unfold fX3_size
  refine zlocs (lb := [(0, zR x0)]) ⟨rfl, trivial⟩ ?_
  refine z_aload_n C (i := 0) (pc' := 1) dX3_size_0 rfl rfl rfl ?_
  refine z_getf C (pc' := 4) flRX3_31 dX3_size_1 rfl (fun v1 => ?_)
  exact z_ireturn C dX3_size_4
def fX3_isEmpty (x0 : Int) (u0 : zMem) : zRs := zgf 3 3 x0 u0 (fun v1 => if v1 ≠ 0 then (zbl 0 (some (0, u0))) else (zbl 1 (some (1, u0))))
set_option maxRecDepth 100000 in
set_option maxHeartbeats 4000000 in
theorem rX3_isEmpty (l : Launch) (w : zW) (x0 : Int) (u0 : zMem) : zSpc l w 1 yX3_isEmpty cX3_isEmpty 1 (some .boolean) 1 [zR x0] u0 (fX3_isEmpty x0 u0) := by
  refine zSpc_of (own := RX3) pnRX3 rfl (Nat.le_of_ble_eq_true rfl) (fun G p e R s m args below meth c C hini => ?_)
  unfold fX3_isEmpty
  refine zlocs (lb := [(0, zR x0)]) ⟨rfl, trivial⟩ ?_
  refine z_aload_n C (i := 0) (pc' := 1) dX3_isEmpty_0 rfl rfl rfl ?_
  refine z_getf C (pc' := 4) flRX3_31 dX3_isEmpty_1 rfl (fun v1 => ?_)
  refine z_if_ne C (pc' := 11) (pf := 7) dX3_isEmpty_4 rfl rfl (fun _ => ?_) (fun _ => ?_)
  ·
    refine z_iconst C (pc' := 12) dX3_isEmpty_11 kc_0 rfl ?_
    exact z_zreturn C dX3_isEmpty_12
  ·
    refine z_iconst C (pc' := 8) dX3_isEmpty_7 kc_1 rfl ?_
    refine z_goto C (pc' := 12) dX3_isEmpty_8 rfl ?_
    exact z_zreturn C dX3_isEmpty_12
def fX3_isFull (x0 : Int) (u0 : zMem) : zRs := zgf 3 3 x0 u0 (fun v1 => if v1 < 4 then (zbl 0 (some (0, u0))) else (zbl 1 (some (1, u0))))
set_option maxRecDepth 100000 in
set_option maxHeartbeats 4000000 in
theorem rX3_isFull (l : Launch) (w : zW) (x0 : Int) (u0 : zMem) : zSpc l w 1 yX3_isFull cX3_isFull 1 (some .boolean) 1 [zR x0] u0 (fX3_isFull x0 u0) := by
  refine zSpc_of (own := RX3) pnRX3 rfl (Nat.le_of_ble_eq_true rfl) (fun G p e R s m args below meth c C hini => ?_)
  unfold fX3_isFull
  refine zlocs (lb := [(0, zR x0)]) ⟨rfl, trivial⟩ ?_
  refine z_aload_n C (i := 0) (pc' := 1) dX3_isFull_0 rfl rfl rfl ?_
  refine z_getf C (pc' := 4) flRX3_31 dX3_isFull_1 rfl (fun v1 => ?_)
  refine z_iconst C (pc' := 5) dX3_isFull_4 kc_4 rfl ?_
  refine z_icmp_lt C (pc' := 12) (pf := 8) dX3_isFull_5 rfl rfl (fun _ => ?_) (fun _ => ?_)
  ·
    refine z_iconst C (pc' := 13) dX3_isFull_12 kc_0 rfl ?_
    exact z_zreturn C dX3_isFull_13
  ·
    refine z_iconst C (pc' := 9) dX3_isFull_8 kc_1 rfl ?_
    refine z_goto C (pc' := 13) dX3_isFull_9 rfl ?_
    exact z_zreturn C dX3_isFull_13
def fX3_admit (x0 x1 x2 x3 : Int) (u0 : zMem) : zRs := zvc 3 x0 (fX3_isFull x0 u0) (fun v1 u2 => if v1 = 0 then (zgf 3 2 x0 u2 (fun v3 => zgf 3 3 x0 u2 (fun v4 => zald 25 v3 v4 u2 (fun v5 => zvc 4 v5 (fX4_become v5 x1 x2 x3 u2) (fun _ u6 => zgf 3 3 x0 u6 (fun v7 => zpf 3 3 x0 (zw32 (v7 + 1)) u6 (fun u8 => zgf 3 3 x0 u8 (fun v9 => some ((zw32 (v9 - 1)), u8))))))))) else (some ((-3), u2)))
set_option maxRecDepth 100000 in
set_option maxHeartbeats 4000000 in
theorem rX3_admit (l : Launch) (w : zW) (x0 x1 x2 x3 : Int) (u0 : zMem) : zSpc l w 3 yX3_admit cX3_admit 4 (some .int) 1 [zR x0, zR x1, zI x2, zI x3] u0 (fX3_admit x0 x1 x2 x3 u0) := by
  refine zSpc_of (own := RX3) pnRX3 rfl (Nat.le_of_ble_eq_true rfl) (fun G p e R s m args below meth c C hini => ?_)
  unfold fX3_admit
  refine zlocs (lb := [(0, zR x0), (1, zR x1), (2, zI x2), (3, zI x3)]) ⟨rfl, rfl, rfl, rfl, trivial⟩ ?_
  refine z_aload_n C (i := 0) (pc' := 1) dX3_admit_0 rfl rfl rfl ?_
  refine z_callV1 C (pc' := 4) lvRX3_35 lc_X3_isFull rfl dX3_admit_1 rfl (by decide) (rX3_isFull l w x0 u0) rfl (Nat.le_of_ble_eq_true rfl) (fun v1 u2 => ?_)
  refine z_if_eq C (pc' := 10) (pf := 7) dX3_admit_4 rfl rfl (fun _ => ?_) (fun _ => ?_)
  ·
    refine z_aload_n C (i := 0) (pc' := 11) dX3_admit_10 rfl rfl rfl ?_
    refine z_getfR C (pc' := 14) flRX3_13 dX3_admit_11 rfl (fun v3 => ?_)
    refine z_aload_n C (i := 0) (pc' := 15) dX3_admit_14 rfl rfl rfl ?_
    refine z_getf C (pc' := 18) flRX3_31 dX3_admit_15 rfl (fun v4 => ?_)
    refine z_aald C (pc' := 19) (by decide) dX3_admit_18 rfl (fun v5 => ?_)
    refine z_aload_n C (i := 1) (pc' := 20) dX3_admit_19 rfl rfl rfl ?_
    refine z_iload_n C (i := 2) (pc' := 21) dX3_admit_20 rfl rfl rfl ?_
    refine z_iload_n C (i := 3) (pc' := 22) dX3_admit_21 rfl rfl rfl ?_
    refine z_callV0 C (pc' := 25) lvRX3_39 lc_X4_become rfl dX3_admit_22 rfl (by decide) (rX4_become l w v5 x1 x2 x3 u2) rfl (Nat.le_of_ble_eq_true rfl) (fun _ u6 => ?_)
    refine z_aload_n C (i := 0) (pc' := 26) dX3_admit_25 rfl rfl rfl ?_
    refine z_dup C (pc' := 27) dX3_admit_26 rfl rfl ?_
    refine z_getf C (pc' := 30) flRX3_31 dX3_admit_27 rfl (fun v7 => ?_)
    refine z_iconst C (pc' := 31) dX3_admit_30 kc_1 rfl ?_
    refine z_iadd C (pc' := 32) dX3_admit_31 rfl ?_
    refine z_putf C (pc' := 35) flRX3_31 fn3_3 fb3_3 dX3_admit_32 rfl (fun u8 => ?_)
    refine z_aload_n C (i := 0) (pc' := 36) dX3_admit_35 rfl rfl rfl ?_
    refine z_getf C (pc' := 39) flRX3_31 dX3_admit_36 rfl (fun v9 => ?_)
    refine z_iconst C (pc' := 40) dX3_admit_39 kc_1 rfl ?_
    refine z_isub C (pc' := 41) dX3_admit_40 rfl ?_
    exact z_ireturn C dX3_admit_41
  ·
    refine z_bipush C (pc' := 9) dX3_admit_7 kb_m3 rfl ?_
    exact z_ireturn C dX3_admit_9
def fX3_takeDown (x0 x1 x2 x3 : Int) (u0 : zMem) : zRs := zvc 3 x0 (fX3_has x0 x1 u0) (fun v1 u2 => if v1 ≠ 0 then (zgf 3 2 x0 u2 (fun v3 => zald 25 v3 x1 u2 (fun v4 => zlp (fun _ _ _ => none) (fun k8 (v5 : Int) (v6 : Int) (u7 : zMem) => zgf 3 0 x0 u7 (fun v9 => zvc 5 v9 (fX5_size v9 u7) (fun v10 u11 => if v6 ≥ v10 then (zgf 3 0 x0 u11 (fun v12 => zvc 6 x3 (fX6_follow x3 v4 v12 u11) (fun _ u13 => some (0, u13)))) else (znz 100 (zvc 3 x0 (fX3_heedOf x0 x1 v6 u11) (fun v14 u15 => zjn (fun (u16 : zMem) => k8 (zw32 ((zw32 (v5 * 1103515245)) + 12345)) (zw32 (v6 + 1)) u16) (fun k17 => if (Int.tmod (zushr (zw32 ((zw32 (v5 * 1103515245)) + 12345)) 8) 100) ≥ v14 then (k17 u15) else (zgf 3 0 x0 u15 (fun v18 => zvc 5 v18 (fX5_part v18 v6 3 u15) (fun v19 u20 => zgf 3 0 x0 u20 (fun v21 => zvc 5 v21 (fX5_part v21 v6 0 u20) (fun v22 u23 => zvc 4 v4 (fX4_isSelf v4 v22 u23) (fun v24 u25 => zgf 3 0 x0 u25 (fun v26 => zvc 5 v26 (fX5_part v26 v6 1 u25) (fun v27 u28 => zjn (fun (v29 : Int) (u30 : zMem) => zvc 6 x3 (fX6_append x3 v6 v27 v29 u30) (fun v32 u33 => k17 u33)) (fun k31 => if v24 = 0 then (k31 v19 u28) else (k31 (zw32 (2 * v19)) u28))))))))))))))))) 1000000 x2 0 u2))) else (some (0, u2)))
set_option maxRecDepth 100000 in
set_option maxHeartbeats 4000000 in
theorem rX3_takeDown (l : Launch) (w : zW) (x0 x1 x2 x3 : Int) (u0 : zMem) : zSpc l w 6 yX3_takeDown cX3_takeDown 9 none 0 [zR x0, zI x1, zI x2, zR x3] u0 (fX3_takeDown x0 x1 x2 x3 u0) := by
  refine zSpc_of (own := RX3) pnRX3 rfl (Nat.le_of_ble_eq_true rfl) (fun G p e R s m args below meth c C hini => ?_)
  unfold fX3_takeDown
  refine zlocs (lb := [(0, zR x0), (1, zI x1), (2, zI x2), (3, zR x3)]) ⟨rfl, rfl, rfl, rfl, trivial⟩ ?_
  refine z_aload_n C (i := 0) (pc' := 1) dX3_takeDown_0 rfl rfl rfl ?_
  refine z_iload_n C (i := 1) (pc' := 2) dX3_takeDown_1 rfl rfl rfl ?_
  refine z_callV1 C (pc' := 5) lvRX3_43 lc_X3_has rfl dX3_takeDown_2 rfl (by decide) (rX3_has l w x0 x1 u0) rfl (Nat.le_of_ble_eq_true rfl) (fun v1 u2 => ?_)
  refine z_if_ne C (pc' := 9) (pf := 8) dX3_takeDown_5 rfl rfl (fun _ => ?_) (fun _ => ?_)
  ·
    refine z_aload_n C (i := 0) (pc' := 10) dX3_takeDown_9 rfl rfl rfl ?_
    refine z_getfR C (pc' := 13) flRX3_13 dX3_takeDown_10 rfl (fun v3 => ?_)
    refine z_iload_n C (i := 1) (pc' := 14) dX3_takeDown_13 rfl rfl rfl ?_
    refine z_aald C (pc' := 15) (by decide) dX3_takeDown_14 rfl (fun v4 => ?_)
    refine z_astore C (i := 4) (la' := [(4, zR v4), (0, zR x0), (1, zI x1), (2, zI x2), (3, zR x3)]) (pc' := 17) dX3_takeDown_15 (by decide) rfl rfl ?_
    refine z_iload_n C (i := 2) (pc' := 18) dX3_takeDown_17 rfl rfl rfl ?_
    refine z_istore C (i := 5) (la' := [(5, zI x2), (4, zR v4), (0, zR x0), (1, zI x1), (2, zI x2), (3, zR x3)]) (pc' := 20) dX3_takeDown_18 (by decide) rfl rfl ?_
    refine z_iconst C (pc' := 21) dX3_takeDown_20 kc_0 rfl ?_
    refine z_istore C (i := 6) (la' := [(6, zI 0), (5, zI x2), (4, zR v4), (0, zR x0), (1, zI x1), (2, zI x2), (3, zR x3)]) (pc' := 23) dX3_takeDown_21 (by decide) rfl rfl ?_
    refine zlocs (lb := [(0, zR x0), (1, zI x1), (3, zR x3), (4, zR v4), (5, zI x2), (6, zI 0)]) ⟨rfl, rfl, rfl, rfl, rfl, rfl, trivial⟩ ?_
    refine zlp_ind (fun (f : Int → Int → zMem → zRs) => ∀ (v5 : Int) (v6 : Int) (u7 : zMem), zSim G p l e R s m args below meth c w 9 (znc u0) (zM w 0 (znc u0) below args s) 23 [(0, zR x0), (1, zI x1), (3, zR x3), (4, zR v4), (5, zI v5), (6, zI v6)] [] u7 (f v5 v6 u7)) (fun _ _ _ => znone) (fun k8 hk8 v5 v6 u7 => ?_) _ _ _ _
    refine z_iload C (pc' := 25) dX3_takeDown_23 rfl rfl ?_
    refine z_aload_n C (i := 0) (pc' := 26) dX3_takeDown_25 rfl rfl rfl ?_
    refine z_getfR C (pc' := 29) flRX3_17 dX3_takeDown_26 rfl (fun v9 => ?_)
    refine z_callV1 C (pc' := 32) lvRX3_60 lc_X5_size rfl dX3_takeDown_29 rfl (by decide) (rX5_size l w v9 u7) rfl (Nat.le_of_ble_eq_true rfl) (fun v10 u11 => ?_)
    refine z_icmp_ge C (pc' := 130) (pf := 35) dX3_takeDown_32 rfl rfl (fun _ => ?_) (fun _ => ?_)
    ·
      refine z_aload_n C (i := 3) (pc' := 131) dX3_takeDown_130 rfl rfl rfl ?_
      refine z_aload C (pc' := 133) dX3_takeDown_131 rfl rfl ?_
      refine z_aload_n C (i := 0) (pc' := 134) dX3_takeDown_133 rfl rfl rfl ?_
      refine z_getfR C (pc' := 137) flRX3_17 dX3_takeDown_134 rfl (fun v12 => ?_)
      refine z_callV0 C (pc' := 140) lvRX3_81 lc_X6_follow rfl dX3_takeDown_137 rfl (by decide) (rX6_follow l w x3 v4 v12 u11) rfl (Nat.le_of_ble_eq_true rfl) (fun _ u13 => ?_)
      exact z_return C dX3_takeDown_140
    ·
      refine z_iload C (pc' := 37) dX3_takeDown_35 rfl rfl ?_
      refine z_ldc C (pc' := 39) dX3_takeDown_37 wcRX3_65 ki_1103515245 rfl ?_
      refine z_imul C (pc' := 40) dX3_takeDown_39 rfl ?_
      refine z_sipush C (pc' := 43) dX3_takeDown_40 ks_12345 rfl ?_
      refine z_iadd C (pc' := 44) dX3_takeDown_43 rfl ?_
      refine z_istore C (i := 5) (la' := [(5, zI (zw32 ((zw32 (v5 * 1103515245)) + 12345))), (0, zR x0), (1, zI x1), (3, zR x3), (4, zR v4), (6, zI v6)]) (pc' := 46) dX3_takeDown_44 (by decide) rfl rfl ?_
      refine z_iload C (pc' := 48) dX3_takeDown_46 rfl rfl ?_
      refine z_bipush C (pc' := 50) dX3_takeDown_48 kb_8 rfl ?_
      refine z_iushr C (pc' := 51) dX3_takeDown_50 rfl ?_
      refine z_bipush C (pc' := 53) dX3_takeDown_51 kb_100 rfl ?_
      refine z_irem C (pc' := 54) dX3_takeDown_53 rfl (fun _ => ?_)
      refine z_aload_n C (i := 0) (pc' := 55) dX3_takeDown_54 rfl rfl rfl ?_
      refine z_iload_n C (i := 1) (pc' := 56) dX3_takeDown_55 rfl rfl rfl ?_
      refine z_iload C (pc' := 58) dX3_takeDown_56 rfl rfl ?_
      refine z_callV1 C (pc' := 61) lvRX3_66 lc_X3_heedOf rfl dX3_takeDown_58 rfl (by decide) (rX3_heedOf l w x0 x1 v6 u11) rfl (Nat.le_of_ble_eq_true rfl) (fun v14 u15 => ?_)
      refine zjoin (P := fun (f : zMem → zRs) => ∀ (u16 : zMem), zSim G p l e R s m args below meth c w 9 (znc u0) (zM w 0 (znc u0) below args s) 124 [(0, zR x0), (1, zI x1), (3, zR x3), (4, zR v4), (5, zI (zw32 ((zw32 (v5 * 1103515245)) + 12345))), (6, zI v6)] [] u16 (f u16)) (fun u16 => ?_) (fun k17 hk17 => ?_)
      ·
        refine z_iinc C (i := 6) (la' := [(6, zI (zw32 (v6 + 1))), (0, zR x0), (1, zI x1), (3, zR x3), (4, zR v4), (5, zI (zw32 ((zw32 (v5 * 1103515245)) + 12345)))]) (pc' := 127) dX3_takeDown_124 rfl (by decide) rfl rfl ?_
        refine z_goto C (pc' := 23) dX3_takeDown_127 rfl ?_
        exact zlocs (lb := [(0, zR x0), (1, zI x1), (3, zR x3), (4, zR v4), (5, zI (zw32 ((zw32 (v5 * 1103515245)) + 12345))), (6, zI (zw32 (v6 + 1)))]) ⟨rfl, rfl, rfl, rfl, rfl, rfl, trivial⟩ (hk8 _ _ _)
      ·
        refine z_icmp_ge C (pc' := 124) (pf := 64) dX3_takeDown_61 rfl rfl (fun _ => ?_) (fun _ => ?_)
        ·
          exact zlocs (lb := [(0, zR x0), (1, zI x1), (3, zR x3), (4, zR v4), (5, zI (zw32 ((zw32 (v5 * 1103515245)) + 12345))), (6, zI v6)]) ⟨rfl, rfl, rfl, rfl, rfl, rfl, trivial⟩ (hk17 _)
        ·
          refine z_aload_n C (i := 0) (pc' := 65) dX3_takeDown_64 rfl rfl rfl ?_
          refine z_getfR C (pc' := 68) flRX3_17 dX3_takeDown_65 rfl (fun v18 => ?_)
          refine z_iload C (pc' := 70) dX3_takeDown_68 rfl rfl ?_
          refine z_iconst C (pc' := 71) dX3_takeDown_70 kc_3 rfl ?_
          refine z_callV1 C (pc' := 74) lvRX3_69 lc_X5_part rfl dX3_takeDown_71 rfl (by decide) (rX5_part l w v18 v6 3 u15) rfl (Nat.le_of_ble_eq_true rfl) (fun v19 u20 => ?_)
          refine z_istore C (i := 7) (la' := [(7, zI v19), (5, zI (zw32 ((zw32 (v5 * 1103515245)) + 12345))), (0, zR x0), (1, zI x1), (3, zR x3), (4, zR v4), (6, zI v6)]) (pc' := 76) dX3_takeDown_74 (by decide) rfl rfl ?_
          refine z_aload C (pc' := 78) dX3_takeDown_76 rfl rfl ?_
          refine z_aload_n C (i := 0) (pc' := 79) dX3_takeDown_78 rfl rfl rfl ?_
          refine z_getfR C (pc' := 82) flRX3_17 dX3_takeDown_79 rfl (fun v21 => ?_)
          refine z_iload C (pc' := 84) dX3_takeDown_82 rfl rfl ?_
          refine z_iconst C (pc' := 85) dX3_takeDown_84 kc_0 rfl ?_
          refine z_callV1 C (pc' := 88) lvRX3_69 lc_X5_part rfl dX3_takeDown_85 rfl (by decide) (rX5_part l w v21 v6 0 u20) rfl (Nat.le_of_ble_eq_true rfl) (fun v22 u23 => ?_)
          refine z_callV1 C (pc' := 91) lvRX3_72 lc_X4_isSelf rfl dX3_takeDown_88 rfl (by decide) (rX4_isSelf l w v4 v22 u23) rfl (Nat.le_of_ble_eq_true rfl) (fun v24 u25 => ?_)
          refine z_istore C (i := 8) (la' := [(8, zI v24), (7, zI v19), (5, zI (zw32 ((zw32 (v5 * 1103515245)) + 12345))), (0, zR x0), (1, zI x1), (3, zR x3), (4, zR v4), (6, zI v6)]) (pc' := 93) dX3_takeDown_91 (by decide) rfl rfl ?_
          refine z_aload_n C (i := 3) (pc' := 94) dX3_takeDown_93 rfl rfl rfl ?_
          refine z_iload C (pc' := 96) dX3_takeDown_94 rfl rfl ?_
          refine z_aload_n C (i := 0) (pc' := 97) dX3_takeDown_96 rfl rfl rfl ?_
          refine z_getfR C (pc' := 100) flRX3_17 dX3_takeDown_97 rfl (fun v26 => ?_)
          refine z_iload C (pc' := 102) dX3_takeDown_100 rfl rfl ?_
          refine z_iconst C (pc' := 103) dX3_takeDown_102 kc_1 rfl ?_
          refine z_callV1 C (pc' := 106) lvRX3_69 lc_X5_part rfl dX3_takeDown_103 rfl (by decide) (rX5_part l w v26 v6 1 u25) rfl (Nat.le_of_ble_eq_true rfl) (fun v27 u28 => ?_)
          refine z_iload C (pc' := 108) dX3_takeDown_106 rfl rfl ?_
          refine zjoin (P := fun (f : Int → zMem → zRs) => ∀ (v29 : Int) (u30 : zMem), zSim G p l e R s m args below meth c w 9 (znc u0) (zM w 0 (znc u0) below args s) 120 [(0, zR x0), (1, zI x1), (3, zR x3), (4, zR v4), (5, zI (zw32 ((zw32 (v5 * 1103515245)) + 12345))), (6, zI v6)] [zI v29, zI v27, zI v6, zR x3] u30 (f v29 u30)) (fun v29 u30 => ?_) (fun k31 hk31 => ?_)
          ·
            refine z_callV1 C (pc' := 123) lvRX3_75 lc_X6_append rfl dX3_takeDown_120 rfl (by decide) (rX6_append l w x3 v6 v27 v29 u30) rfl (Nat.le_of_ble_eq_true rfl) (fun v32 u33 => ?_)
            refine z_pop C (pc' := 124) dX3_takeDown_123 rfl rfl ?_
            exact zlocs (lb := [(0, zR x0), (1, zI x1), (3, zR x3), (4, zR v4), (5, zI (zw32 ((zw32 (v5 * 1103515245)) + 12345))), (6, zI v6)]) ⟨rfl, rfl, rfl, rfl, rfl, rfl, trivial⟩ (hk17 _)
          ·
            refine z_if_eq C (pc' := 118) (pf := 111) dX3_takeDown_108 rfl rfl (fun _ => ?_) (fun _ => ?_)
            ·
              refine z_iload C (pc' := 120) dX3_takeDown_118 rfl rfl ?_
              exact zlocs (lb := [(0, zR x0), (1, zI x1), (3, zR x3), (4, zR v4), (5, zI (zw32 ((zw32 (v5 * 1103515245)) + 12345))), (6, zI v6)]) ⟨rfl, rfl, rfl, rfl, rfl, rfl, trivial⟩ (hk31 _ _)
            ·
              refine z_iconst C (pc' := 112) dX3_takeDown_111 kc_2 rfl ?_
              refine z_iload C (pc' := 114) dX3_takeDown_112 rfl rfl ?_
              refine z_imul C (pc' := 115) dX3_takeDown_114 rfl ?_
              refine z_goto C (pc' := 120) dX3_takeDown_115 rfl ?_
              exact zlocs (lb := [(0, zR x0), (1, zI x1), (3, zR x3), (4, zR v4), (5, zI (zw32 ((zw32 (v5 * 1103515245)) + 12345))), (6, zI v6)]) ⟨rfl, rfl, rfl, rfl, rfl, rfl, trivial⟩ (hk31 _ _)
  ·
    exact z_return C dX3_takeDown_8
def fX3_chanceOf (x0 x1 x2 : Int) (u0 : zMem) : zRs := zlp (fun _ _ _ => none) (fun k4 (v1 : Int) (v2 : Int) (u3 : zMem) => zgf 3 0 x0 u3 (fun v5 => zvc 5 v5 (fX5_size v5 u3) (fun v6 u7 => if v2 ≥ v6 then (some (v1, u7)) else (zvc 3 x0 (fX3_heedOf x0 x1 v2 u7) (fun v8 u9 => zvc 6 x2 (fX6_placeOf x2 v2 u9) (fun v10 u11 => zjn (fun (v12 : Int) (u13 : zMem) => znz 100 (k4 (zw64 (Int.tdiv (zw64 (v1 * v12)) 100)) (zw32 (v2 + 1)) u13)) (fun k14 => if v10 < 0 then (k14 (zw32 (100 - v8)) u11) else (k14 v8 u11)))))))) 1000000 1000000000 0 u0
set_option maxRecDepth 100000 in
set_option maxHeartbeats 4000000 in
theorem rX3_chanceOf (l : Launch) (w : zW) (x0 x1 x2 : Int) (u0 : zMem) : zSpc l w 5 yX3_chanceOf cX3_chanceOf 7 (some .long) 2 [zR x0, zI x1, zR x2] u0 (fX3_chanceOf x0 x1 x2 u0) := by
  refine zSpc_of (own := RX3) pnRX3 rfl (Nat.le_of_ble_eq_true rfl) (fun G p e R s m args below meth c C hini => ?_)
  unfold fX3_chanceOf
  refine zlocs (lb := [(0, zR x0), (1, zI x1), (2, zR x2)]) ⟨rfl, rfl, rfl, trivial⟩ ?_
  refine z_ldc2 C (pc' := 3) dX3_chanceOf_0 wlRX3_89 kj_1000000000 rfl ?_
  refine z_lstore_n C (i := 3) (la' := [(3, zL 1000000000), (0, zR x0), (1, zI x1), (2, zR x2)]) (pc' := 4) dX3_chanceOf_3 rfl (by decide) rfl rfl ?_
  refine z_iconst C (pc' := 5) dX3_chanceOf_4 kc_0 rfl ?_
  refine z_istore C (i := 5) (la' := [(5, zI 0), (3, zL 1000000000), (0, zR x0), (1, zI x1), (2, zR x2)]) (pc' := 7) dX3_chanceOf_5 (by decide) rfl rfl ?_
  refine zlocs (lb := [(0, zR x0), (1, zI x1), (2, zR x2), (3, zL 1000000000), (5, zI 0)]) ⟨rfl, rfl, rfl, rfl, rfl, trivial⟩ ?_
  refine zlp_ind (fun (f : Int → Int → zMem → zRs) => ∀ (v1 : Int) (v2 : Int) (u3 : zMem), zSim G p l e R s m args below meth c w 7 (znc u0) (zM w 2 (znc u0) below args s) 7 [(0, zR x0), (1, zI x1), (2, zR x2), (3, zL v1), (5, zI v2)] [] u3 (f v1 v2 u3)) (fun _ _ _ => znone) (fun k4 hk4 v1 v2 u3 => ?_) _ _ _ _
  refine z_iload C (pc' := 9) dX3_chanceOf_7 rfl rfl ?_
  refine z_aload_n C (i := 0) (pc' := 10) dX3_chanceOf_9 rfl rfl rfl ?_
  refine z_getfR C (pc' := 13) flRX3_17 dX3_chanceOf_10 rfl (fun v5 => ?_)
  refine z_callV1 C (pc' := 16) lvRX3_60 lc_X5_size rfl dX3_chanceOf_13 rfl (by decide) (rX5_size l w v5 u3) rfl (Nat.le_of_ble_eq_true rfl) (fun v6 u7 => ?_)
  refine z_icmp_ge C (pc' := 61) (pf := 19) dX3_chanceOf_16 rfl rfl (fun _ => ?_) (fun _ => ?_)
  ·
    refine z_lload_n C (i := 3) (pc' := 62) dX3_chanceOf_61 rfl rfl rfl ?_
    exact z_lreturn C dX3_chanceOf_62
  ·
    refine z_aload_n C (i := 0) (pc' := 20) dX3_chanceOf_19 rfl rfl rfl ?_
    refine z_iload_n C (i := 1) (pc' := 21) dX3_chanceOf_20 rfl rfl rfl ?_
    refine z_iload C (pc' := 23) dX3_chanceOf_21 rfl rfl ?_
    refine z_callV1 C (pc' := 26) lvRX3_66 lc_X3_heedOf rfl dX3_chanceOf_23 rfl (by decide) (rX3_heedOf l w x0 x1 v2 u7) rfl (Nat.le_of_ble_eq_true rfl) (fun v8 u9 => ?_)
    refine z_istore C (i := 6) (la' := [(6, zI v8), (0, zR x0), (1, zI x1), (2, zR x2), (3, zL v1), (5, zI v2)]) (pc' := 28) dX3_chanceOf_26 (by decide) rfl rfl ?_
    refine z_lload_n C (i := 3) (pc' := 29) dX3_chanceOf_28 rfl rfl rfl ?_
    refine z_aload_n C (i := 2) (pc' := 30) dX3_chanceOf_29 rfl rfl rfl ?_
    refine z_iload C (pc' := 32) dX3_chanceOf_30 rfl rfl ?_
    refine z_callV1 C (pc' := 35) lvRX3_91 lc_X6_placeOf rfl dX3_chanceOf_32 rfl (by decide) (rX6_placeOf l w x2 v2 u9) rfl (Nat.le_of_ble_eq_true rfl) (fun v10 u11 => ?_)
    refine zjoin (P := fun (f : Int → zMem → zRs) => ∀ (v12 : Int) (u13 : zMem), zSim G p l e R s m args below meth c w 7 (znc u0) (zM w 2 (znc u0) below args s) 48 [(0, zR x0), (1, zI x1), (2, zR x2), (5, zI v2)] [zI v12, zL v1] u13 (f v12 u13)) (fun v12 u13 => ?_) (fun k14 hk14 => ?_)
    ·
      refine z_i2l C (pc' := 49) dX3_chanceOf_48 rfl ?_
      refine z_lmul C (pc' := 50) dX3_chanceOf_49 rfl ?_
      refine z_ldc2 C (pc' := 53) dX3_chanceOf_50 wlRX3_95 kj_100 rfl ?_
      refine z_ldiv C (pc' := 54) dX3_chanceOf_53 rfl (fun _ => ?_)
      refine z_lstore_n C (i := 3) (la' := [(3, zL (zw64 (Int.tdiv (zw64 (v1 * v12)) 100))), (0, zR x0), (1, zI x1), (2, zR x2), (5, zI v2)]) (pc' := 55) dX3_chanceOf_54 rfl (by decide) rfl rfl ?_
      refine z_iinc C (i := 5) (la' := [(5, zI (zw32 (v2 + 1))), (3, zL (zw64 (Int.tdiv (zw64 (v1 * v12)) 100))), (0, zR x0), (1, zI x1), (2, zR x2)]) (pc' := 58) dX3_chanceOf_55 rfl (by decide) rfl rfl ?_
      refine z_goto C (pc' := 7) dX3_chanceOf_58 rfl ?_
      exact zlocs (lb := [(0, zR x0), (1, zI x1), (2, zR x2), (3, zL (zw64 (Int.tdiv (zw64 (v1 * v12)) 100))), (5, zI (zw32 (v2 + 1)))]) ⟨rfl, rfl, rfl, rfl, rfl, trivial⟩ (hk4 _ _ _)
    ·
      refine z_if_lt C (pc' := 43) (pf := 38) dX3_chanceOf_35 rfl rfl (fun _ => ?_) (fun _ => ?_)
      ·
        refine z_bipush C (pc' := 45) dX3_chanceOf_43 kb_100 rfl ?_
        refine z_iload C (pc' := 47) dX3_chanceOf_45 rfl rfl ?_
        refine z_isub C (pc' := 48) dX3_chanceOf_47 rfl ?_
        exact zlocs (lb := [(0, zR x0), (1, zI x1), (2, zR x2), (5, zI v2)]) ⟨rfl, rfl, rfl, rfl, trivial⟩ (hk14 _ _)
      ·
        refine z_iload C (pc' := 40) dX3_chanceOf_38 rfl rfl ?_
        refine z_goto C (pc' := 48) dX3_chanceOf_40 rfl ?_
        exact zlocs (lb := [(0, zR x0), (1, zI x1), (2, zR x2), (5, zI v2)]) ⟨rfl, rfl, rfl, rfl, trivial⟩ (hk14 _ _)
def fX3_likeliest (x0 x1 : Int) (u0 : zMem) : zRs := zlp (fun _ _ _ _ => none) (fun k5 (v1 : Int) (v2 : Int) (v3 : Int) (u4 : zMem) => zgf 3 3 x0 u4 (fun v6 => if v3 ≥ v6 then (some (v1, u4)) else (zvc 3 x0 (fX3_chanceOf x0 v3 x1 u4) (fun v7 u8 => zjn (fun (v9 : Int) (v10 : Int) (u11 : zMem) => k5 v9 v10 (zw32 (v3 + 1)) u11) (fun k12 => if (zcmp v7 v2) ≤ 0 then (k12 v1 v2 u8) else (k12 v3 v7 u8)))))) 1000000 (-2) 0 0 u0
set_option maxRecDepth 100000 in
set_option maxHeartbeats 4000000 in
theorem rX3_likeliest (l : Launch) (w : zW) (x0 x1 : Int) (u0 : zMem) : zSpc l w 6 yX3_likeliest cX3_likeliest 8 (some .int) 1 [zR x0, zR x1] u0 (fX3_likeliest x0 x1 u0) := by
  refine zSpc_of (own := RX3) pnRX3 rfl (Nat.le_of_ble_eq_true rfl) (fun G p e R s m args below meth c C hini => ?_)
  unfold fX3_likeliest
  refine zlocs (lb := [(0, zR x0), (1, zR x1)]) ⟨rfl, rfl, trivial⟩ ?_
  refine z_bipush C (pc' := 2) dX3_likeliest_0 kb_m2 rfl ?_
  refine z_istore_n C (i := 2) (la' := [(2, zI (-2)), (0, zR x0), (1, zR x1)]) (pc' := 3) dX3_likeliest_2 rfl (by decide) rfl rfl ?_
  refine z_lconst C (pc' := 4) dX3_likeliest_3 kl_0 rfl ?_
  refine z_lstore_n C (i := 3) (la' := [(3, zL 0), (2, zI (-2)), (0, zR x0), (1, zR x1)]) (pc' := 5) dX3_likeliest_4 rfl (by decide) rfl rfl ?_
  refine z_iconst C (pc' := 6) dX3_likeliest_5 kc_0 rfl ?_
  refine z_istore C (i := 5) (la' := [(5, zI 0), (3, zL 0), (2, zI (-2)), (0, zR x0), (1, zR x1)]) (pc' := 8) dX3_likeliest_6 (by decide) rfl rfl ?_
  refine zlocs (lb := [(0, zR x0), (1, zR x1), (2, zI (-2)), (3, zL 0), (5, zI 0)]) ⟨rfl, rfl, rfl, rfl, rfl, trivial⟩ ?_
  refine zlp_ind (fun (f : Int → Int → Int → zMem → zRs) => ∀ (v1 : Int) (v2 : Int) (v3 : Int) (u4 : zMem), zSim G p l e R s m args below meth c w 8 (znc u0) (zM w 1 (znc u0) below args s) 8 [(0, zR x0), (1, zR x1), (2, zI v1), (3, zL v2), (5, zI v3)] [] u4 (f v1 v2 v3 u4)) (fun _ _ _ _ => znone) (fun k5 hk5 v1 v2 v3 u4 => ?_) _ _ _ _ _
  refine z_iload C (pc' := 10) dX3_likeliest_8 rfl rfl ?_
  refine z_aload_n C (i := 0) (pc' := 11) dX3_likeliest_10 rfl rfl rfl ?_
  refine z_getf C (pc' := 14) flRX3_31 dX3_likeliest_11 rfl (fun v6 => ?_)
  refine z_icmp_ge C (pc' := 45) (pf := 17) dX3_likeliest_14 rfl rfl (fun _ => ?_) (fun _ => ?_)
  ·
    refine z_iload_n C (i := 2) (pc' := 46) dX3_likeliest_45 rfl rfl rfl ?_
    exact z_ireturn C dX3_likeliest_46
  ·
    refine z_aload_n C (i := 0) (pc' := 18) dX3_likeliest_17 rfl rfl rfl ?_
    refine z_iload C (pc' := 20) dX3_likeliest_18 rfl rfl ?_
    refine z_aload_n C (i := 1) (pc' := 21) dX3_likeliest_20 rfl rfl rfl ?_
    refine z_callV2 C (pc' := 24) lvRX3_85 lc_X3_chanceOf rfl dX3_likeliest_21 rfl (by decide) (rX3_chanceOf l w x0 v3 x1 u4) rfl (Nat.le_of_ble_eq_true rfl) (fun v7 u8 => ?_)
    refine z_lstore C (i := 6) (la' := [(6, zL v7), (0, zR x0), (1, zR x1), (2, zI v1), (3, zL v2), (5, zI v3)]) (pc' := 26) dX3_likeliest_24 (by decide) rfl rfl ?_
    refine z_lload C (pc' := 28) dX3_likeliest_26 rfl rfl ?_
    refine z_lload_n C (i := 3) (pc' := 29) dX3_likeliest_28 rfl rfl rfl ?_
    refine z_lcmp C (pc' := 30) dX3_likeliest_29 rfl ?_
    refine zjoin (P := fun (f : Int → Int → zMem → zRs) => ∀ (v9 : Int) (v10 : Int) (u11 : zMem), zSim G p l e R s m args below meth c w 8 (znc u0) (zM w 1 (znc u0) below args s) 39 [(0, zR x0), (1, zR x1), (2, zI v9), (3, zL v10), (5, zI v3)] [] u11 (f v9 v10 u11)) (fun v9 v10 u11 => ?_) (fun k12 hk12 => ?_)
    ·
      refine z_iinc C (i := 5) (la' := [(5, zI (zw32 (v3 + 1))), (0, zR x0), (1, zR x1), (2, zI v9), (3, zL v10)]) (pc' := 42) dX3_likeliest_39 rfl (by decide) rfl rfl ?_
      refine z_goto C (pc' := 8) dX3_likeliest_42 rfl ?_
      exact zlocs (lb := [(0, zR x0), (1, zR x1), (2, zI v9), (3, zL v10), (5, zI (zw32 (v3 + 1)))]) ⟨rfl, rfl, rfl, rfl, rfl, trivial⟩ (hk5 _ _ _ _)
    ·
      refine z_if_le C (pc' := 39) (pf := 33) dX3_likeliest_30 rfl rfl (fun _ => ?_) (fun _ => ?_)
      ·
        exact zlocs (lb := [(0, zR x0), (1, zR x1), (2, zI v1), (3, zL v2), (5, zI v3)]) ⟨rfl, rfl, rfl, rfl, rfl, trivial⟩ (hk12 _ _ _)
      ·
        refine z_lload C (pc' := 35) dX3_likeliest_33 rfl rfl ?_
        refine z_lstore_n C (i := 3) (la' := [(3, zL v7), (6, zL v7), (0, zR x0), (1, zR x1), (2, zI v1), (5, zI v3)]) (pc' := 36) dX3_likeliest_35 rfl (by decide) rfl rfl ?_
        refine z_iload C (pc' := 38) dX3_likeliest_36 rfl rfl ?_
        refine z_istore_n C (i := 2) (la' := [(2, zI v3), (3, zL v7), (6, zL v7), (0, zR x0), (1, zR x1), (5, zI v3)]) (pc' := 39) dX3_likeliest_38 rfl (by decide) rfl rfl ?_
        exact zlocs (lb := [(0, zR x0), (1, zR x1), (2, zI v3), (3, zL v7), (5, zI v3)]) ⟨rfl, rfl, rfl, rfl, rfl, trivial⟩ (hk12 _ _ _)
def fX3_offOf (x0 x1 x2 x3 : Int) (u0 : zMem) : zRs := zcall (fJ6_bitCount_0f7a4 x2 u0) (fun v1 u2 => zlp (fun _ _ _ => none) (fun k6 (v3 : Int) (v4 : Int) (u5 : zMem) => zgf 3 0 x0 u5 (fun v7 => zvc 5 v7 (fX5_size v7 u5) (fun v8 u9 => if v4 ≥ v8 then (some (v3, u9)) else (zvc 3 x0 (fX3_heedOf x0 x1 v4 u9) (fun v10 u11 => zvc 1 x3 (fX1_papersWith_ x3 v4 x2 u11) (fun v12 u13 => k6 (zw32 (v3 + (zab (zw32 ((zw32 (v10 * v1)) - (zw32 (100 * v12))))))) (zw32 (v4 + 1)) u13)))))) 1000000 0 0 u2)
set_option maxRecDepth 100000 in
set_option maxHeartbeats 4000000 in
theorem rX3_offOf (l : Launch) (w : zW) (x0 x1 x2 x3 : Int) (u0 : zMem) : zSpc l w 5 yX3_offOf cX3_offOf 7 (some .int) 1 [zR x0, zI x1, zI x2, zR x3] u0 (fX3_offOf x0 x1 x2 x3 u0) := by
  refine zSpc_of (own := RX3) pnRX3 rfl (Nat.le_of_ble_eq_true rfl) (fun G p e R s m args below meth c C hini => ?_)
  unfold fX3_offOf
  refine zlocs (lb := [(0, zR x0), (1, zI x1), (2, zI x2), (3, zR x3)]) ⟨rfl, rfl, rfl, rfl, trivial⟩ ?_
  refine z_iload_n C (i := 2) (pc' := 1) dX3_offOf_0 rfl rfl rfl ?_
  refine z_callS1 C (pc' := 4) lsRX3_101 lc_J6_bitCount_0f7a4 rfl dX3_offOf_1 rfl (by decide) (rJ6_bitCount_0f7a4 l w x2 u0) rfl (Nat.le_of_ble_eq_true rfl) (fun v1 u2 => ?_)
  refine z_istore C (i := 4) (la' := [(4, zI v1), (0, zR x0), (1, zI x1), (2, zI x2), (3, zR x3)]) (pc' := 6) dX3_offOf_4 (by decide) rfl rfl ?_
  refine z_iconst C (pc' := 7) dX3_offOf_6 kc_0 rfl ?_
  refine z_istore C (i := 5) (la' := [(5, zI 0), (4, zI v1), (0, zR x0), (1, zI x1), (2, zI x2), (3, zR x3)]) (pc' := 9) dX3_offOf_7 (by decide) rfl rfl ?_
  refine z_iconst C (pc' := 10) dX3_offOf_9 kc_0 rfl ?_
  refine z_istore C (i := 6) (la' := [(6, zI 0), (5, zI 0), (4, zI v1), (0, zR x0), (1, zI x1), (2, zI x2), (3, zR x3)]) (pc' := 12) dX3_offOf_10 (by decide) rfl rfl ?_
  refine zlocs (lb := [(0, zR x0), (1, zI x1), (2, zI x2), (3, zR x3), (4, zI v1), (5, zI 0), (6, zI 0)]) ⟨rfl, rfl, rfl, rfl, rfl, rfl, rfl, trivial⟩ ?_
  refine zlp_ind (fun (f : Int → Int → zMem → zRs) => ∀ (v3 : Int) (v4 : Int) (u5 : zMem), zSim G p l e R s m args below meth c w 7 (znc u0) (zM w 1 (znc u0) below args s) 12 [(0, zR x0), (1, zI x1), (2, zI x2), (3, zR x3), (4, zI v1), (5, zI v3), (6, zI v4)] [] u5 (f v3 v4 u5)) (fun _ _ _ => znone) (fun k6 hk6 v3 v4 u5 => ?_) _ _ _ _
  refine z_iload C (pc' := 14) dX3_offOf_12 rfl rfl ?_
  refine z_aload_n C (i := 0) (pc' := 15) dX3_offOf_14 rfl rfl rfl ?_
  refine z_getfR C (pc' := 18) flRX3_17 dX3_offOf_15 rfl (fun v7 => ?_)
  refine z_callV1 C (pc' := 21) lvRX3_60 lc_X5_size rfl dX3_offOf_18 rfl (by decide) (rX5_size l w v7 u5) rfl (Nat.le_of_ble_eq_true rfl) (fun v8 u9 => ?_)
  refine z_icmp_ge C (pc' := 59) (pf := 24) dX3_offOf_21 rfl rfl (fun _ => ?_) (fun _ => ?_)
  ·
    refine z_iload C (pc' := 61) dX3_offOf_59 rfl rfl ?_
    exact z_ireturn C dX3_offOf_61
  ·
    refine z_iload C (pc' := 26) dX3_offOf_24 rfl rfl ?_
    refine z_aload_n C (i := 0) (pc' := 27) dX3_offOf_26 rfl rfl rfl ?_
    refine z_iload_n C (i := 1) (pc' := 28) dX3_offOf_27 rfl rfl rfl ?_
    refine z_iload C (pc' := 30) dX3_offOf_28 rfl rfl ?_
    refine z_callV1 C (pc' := 33) lvRX3_66 lc_X3_heedOf rfl dX3_offOf_30 rfl (by decide) (rX3_heedOf l w x0 x1 v4 u9) rfl (Nat.le_of_ble_eq_true rfl) (fun v10 u11 => ?_)
    refine z_iload C (pc' := 35) dX3_offOf_33 rfl rfl ?_
    refine z_imul C (pc' := 36) dX3_offOf_35 rfl ?_
    refine z_bipush C (pc' := 38) dX3_offOf_36 kb_100 rfl ?_
    refine z_aload_n C (i := 3) (pc' := 39) dX3_offOf_38 rfl rfl rfl ?_
    refine z_iload C (pc' := 41) dX3_offOf_39 rfl rfl ?_
    refine z_iload_n C (i := 2) (pc' := 42) dX3_offOf_41 rfl rfl rfl ?_
    refine z_callV1 C (pc' := 45) lvRX3_106 lc_X1_papersWith_ rfl dX3_offOf_42 rfl (by decide) (rX1_papersWith_ l w x3 v4 x2 u11) rfl (Nat.le_of_ble_eq_true rfl) (fun v12 u13 => ?_)
    refine z_imul C (pc' := 46) dX3_offOf_45 rfl ?_
    refine z_isub C (pc' := 47) dX3_offOf_46 rfl ?_
    refine z_mabs C (pc' := 50) wmRX3_111 wms_abs wmi wmc_abs dX3_offOf_47 rfl (by decide) (Nat.le_of_ble_eq_true rfl) ?_
    refine z_iadd C (pc' := 51) dX3_offOf_50 rfl ?_
    refine z_istore C (i := 5) (la' := [(5, zI (zw32 (v3 + (zab (zw32 ((zw32 (v10 * v1)) - (zw32 (100 * v12)))))))), (0, zR x0), (1, zI x1), (2, zI x2), (3, zR x3), (4, zI v1), (6, zI v4)]) (pc' := 53) dX3_offOf_51 (by decide) rfl rfl ?_
    refine z_iinc C (i := 6) (la' := [(6, zI (zw32 (v4 + 1))), (5, zI (zw32 (v3 + (zab (zw32 ((zw32 (v10 * v1)) - (zw32 (100 * v12)))))))), (0, zR x0), (1, zI x1), (2, zI x2), (3, zR x3), (4, zI v1)]) (pc' := 56) dX3_offOf_53 rfl (by decide) rfl rfl ?_
    refine z_goto C (pc' := 12) dX3_offOf_56 rfl ?_
    exact zlocs (lb := [(0, zR x0), (1, zI x1), (2, zI x2), (3, zR x3), (4, zI v1), (5, zI (zw32 (v3 + (zab (zw32 ((zw32 (v10 * v1)) - (zw32 (100 * v12)))))))), (6, zI (zw32 (v4 + 1)))]) ⟨rfl, rfl, rfl, rfl, rfl, rfl, rfl, trivial⟩ (hk6 _ _ _)
def fX3_leastOff (x0 x1 x2 : Int) (u0 : zMem) : zRs := zvc 3 x0 (fX3_offOf x0 0 x1 x2 u0) (fun v1 u2 => zlp (fun _ _ _ _ => none) (fun k7 (v3 : Int) (v4 : Int) (v5 : Int) (u6 : zMem) => zgf 3 3 x0 u6 (fun v8 => if v5 ≥ v8 then (some (v3, u6)) else (zvc 3 x0 (fX3_offOf x0 v5 x1 x2 u6) (fun v9 u10 => zjn (fun (v11 : Int) (v12 : Int) (u13 : zMem) => k7 v11 v12 (zw32 (v5 + 1)) u13) (fun k14 => if v9 ≥ v4 then (k14 v3 v4 u10) else (k14 v5 v9 u10)))))) 1000000 0 v1 1 u2)
set_option maxRecDepth 100000 in
set_option maxHeartbeats 4000000 in
theorem rX3_leastOff (l : Launch) (w : zW) (x0 x1 x2 : Int) (u0 : zMem) : zSpc l w 6 yX3_leastOff cX3_leastOff 7 (some .int) 1 [zR x0, zI x1, zR x2] u0 (fX3_leastOff x0 x1 x2 u0) := by
  refine zSpc_of (own := RX3) pnRX3 rfl (Nat.le_of_ble_eq_true rfl) (fun G p e R s m args below meth c C hini => ?_)
  unfold fX3_leastOff
  refine zlocs (lb := [(0, zR x0), (1, zI x1), (2, zR x2)]) ⟨rfl, rfl, rfl, trivial⟩ ?_
  refine z_iconst C (pc' := 1) dX3_leastOff_0 kc_0 rfl ?_
  refine z_istore_n C (i := 3) (la' := [(3, zI 0), (0, zR x0), (1, zI x1), (2, zR x2)]) (pc' := 2) dX3_leastOff_1 rfl (by decide) rfl rfl ?_
  refine z_aload_n C (i := 0) (pc' := 3) dX3_leastOff_2 rfl rfl rfl ?_
  refine z_iconst C (pc' := 4) dX3_leastOff_3 kc_0 rfl ?_
  refine z_iload_n C (i := 1) (pc' := 5) dX3_leastOff_4 rfl rfl rfl ?_
  refine z_aload_n C (i := 2) (pc' := 6) dX3_leastOff_5 rfl rfl rfl ?_
  refine z_callV1 C (pc' := 9) lvRX3_97 lc_X3_offOf rfl dX3_leastOff_6 rfl (by decide) (rX3_offOf l w x0 0 x1 x2 u0) rfl (Nat.le_of_ble_eq_true rfl) (fun v1 u2 => ?_)
  refine z_istore C (i := 4) (la' := [(4, zI v1), (3, zI 0), (0, zR x0), (1, zI x1), (2, zR x2)]) (pc' := 11) dX3_leastOff_9 (by decide) rfl rfl ?_
  refine z_iconst C (pc' := 12) dX3_leastOff_11 kc_1 rfl ?_
  refine z_istore C (i := 5) (la' := [(5, zI 1), (4, zI v1), (3, zI 0), (0, zR x0), (1, zI x1), (2, zR x2)]) (pc' := 14) dX3_leastOff_12 (by decide) rfl rfl ?_
  refine zlocs (lb := [(0, zR x0), (1, zI x1), (2, zR x2), (3, zI 0), (4, zI v1), (5, zI 1)]) ⟨rfl, rfl, rfl, rfl, rfl, rfl, trivial⟩ ?_
  refine zlp_ind (fun (f : Int → Int → Int → zMem → zRs) => ∀ (v3 : Int) (v4 : Int) (v5 : Int) (u6 : zMem), zSim G p l e R s m args below meth c w 7 (znc u0) (zM w 1 (znc u0) below args s) 14 [(0, zR x0), (1, zI x1), (2, zR x2), (3, zI v3), (4, zI v4), (5, zI v5)] [] u6 (f v3 v4 v5 u6)) (fun _ _ _ _ => znone) (fun k7 hk7 v3 v4 v5 u6 => ?_) _ _ _ _ _
  refine z_iload C (pc' := 16) dX3_leastOff_14 rfl rfl ?_
  refine z_aload_n C (i := 0) (pc' := 17) dX3_leastOff_16 rfl rfl rfl ?_
  refine z_getf C (pc' := 20) flRX3_31 dX3_leastOff_17 rfl (fun v8 => ?_)
  refine z_icmp_ge C (pc' := 53) (pf := 23) dX3_leastOff_20 rfl rfl (fun _ => ?_) (fun _ => ?_)
  ·
    refine z_iload_n C (i := 3) (pc' := 54) dX3_leastOff_53 rfl rfl rfl ?_
    exact z_ireturn C dX3_leastOff_54
  ·
    refine z_aload_n C (i := 0) (pc' := 24) dX3_leastOff_23 rfl rfl rfl ?_
    refine z_iload C (pc' := 26) dX3_leastOff_24 rfl rfl ?_
    refine z_iload_n C (i := 1) (pc' := 27) dX3_leastOff_26 rfl rfl rfl ?_
    refine z_aload_n C (i := 2) (pc' := 28) dX3_leastOff_27 rfl rfl rfl ?_
    refine z_callV1 C (pc' := 31) lvRX3_97 lc_X3_offOf rfl dX3_leastOff_28 rfl (by decide) (rX3_offOf l w x0 v5 x1 x2 u6) rfl (Nat.le_of_ble_eq_true rfl) (fun v9 u10 => ?_)
    refine z_istore C (i := 6) (la' := [(6, zI v9), (0, zR x0), (1, zI x1), (2, zR x2), (3, zI v3), (4, zI v4), (5, zI v5)]) (pc' := 33) dX3_leastOff_31 (by decide) rfl rfl ?_
    refine z_iload C (pc' := 35) dX3_leastOff_33 rfl rfl ?_
    refine z_iload C (pc' := 37) dX3_leastOff_35 rfl rfl ?_
    refine zjoin (P := fun (f : Int → Int → zMem → zRs) => ∀ (v11 : Int) (v12 : Int) (u13 : zMem), zSim G p l e R s m args below meth c w 7 (znc u0) (zM w 1 (znc u0) below args s) 47 [(0, zR x0), (1, zI x1), (2, zR x2), (3, zI v11), (4, zI v12), (5, zI v5)] [] u13 (f v11 v12 u13)) (fun v11 v12 u13 => ?_) (fun k14 hk14 => ?_)
    ·
      refine z_iinc C (i := 5) (la' := [(5, zI (zw32 (v5 + 1))), (0, zR x0), (1, zI x1), (2, zR x2), (3, zI v11), (4, zI v12)]) (pc' := 50) dX3_leastOff_47 rfl (by decide) rfl rfl ?_
      refine z_goto C (pc' := 14) dX3_leastOff_50 rfl ?_
      exact zlocs (lb := [(0, zR x0), (1, zI x1), (2, zR x2), (3, zI v11), (4, zI v12), (5, zI (zw32 (v5 + 1)))]) ⟨rfl, rfl, rfl, rfl, rfl, rfl, trivial⟩ (hk7 _ _ _ _)
    ·
      refine z_icmp_ge C (pc' := 47) (pf := 40) dX3_leastOff_37 rfl rfl (fun _ => ?_) (fun _ => ?_)
      ·
        exact zlocs (lb := [(0, zR x0), (1, zI x1), (2, zR x2), (3, zI v3), (4, zI v4), (5, zI v5)]) ⟨rfl, rfl, rfl, rfl, rfl, rfl, trivial⟩ (hk14 _ _ _)
      ·
        refine z_iload C (pc' := 42) dX3_leastOff_40 rfl rfl ?_
        refine z_istore C (i := 4) (la' := [(4, zI v9), (6, zI v9), (0, zR x0), (1, zI x1), (2, zR x2), (3, zI v3), (5, zI v5)]) (pc' := 44) dX3_leastOff_42 (by decide) rfl rfl ?_
        refine z_iload C (pc' := 46) dX3_leastOff_44 rfl rfl ?_
        refine z_istore_n C (i := 3) (la' := [(3, zI v5), (4, zI v9), (6, zI v9), (0, zR x0), (1, zI x1), (2, zR x2), (5, zI v5)]) (pc' := 47) dX3_leastOff_46 rfl (by decide) rfl rfl ?_
        exact zlocs (lb := [(0, zR x0), (1, zI x1), (2, zR x2), (3, zI v5), (4, zI v9), (5, zI v5)]) ⟨rfl, rfl, rfl, rfl, rfl, rfl, trivial⟩ (hk14 _ _ _)
def fX3_pairChance (x0 x1 x2 : Int) (u0 : zMem) : zRs := zlp (fun _ _ _ => none) (fun k4 (v1 : Int) (v2 : Int) (u3 : zMem) => zgf 3 0 x0 u3 (fun v5 => zvc 5 v5 (fX5_size v5 u3) (fun v6 u7 => if v2 ≥ v6 then (some (v1, u7)) else (zvc 3 x0 (fX3_heedOf x0 x1 v2 u7) (fun v8 u9 => zvc 3 x0 (fX3_heedOf x0 x2 v2 u9) (fun v10 u11 => k4 (zw32 (v1 + (zw32 (10000 - (zw32 ((zw32 (100 - v8)) * (zw32 (100 - v10)))))))) (zw32 (v2 + 1)) u11)))))) 1000000 0 0 u0
set_option maxRecDepth 100000 in
set_option maxHeartbeats 4000000 in
theorem rX3_pairChance (l : Launch) (w : zW) (x0 x1 x2 : Int) (u0 : zMem) : zSpc l w 5 yX3_pairChance cX3_pairChance 5 (some .int) 1 [zR x0, zI x1, zI x2] u0 (fX3_pairChance x0 x1 x2 u0) := by
  refine zSpc_of (own := RX3) pnRX3 rfl (Nat.le_of_ble_eq_true rfl) (fun G p e R s m args below meth c C hini => ?_)
  unfold fX3_pairChance
  refine zlocs (lb := [(0, zR x0), (1, zI x1), (2, zI x2)]) ⟨rfl, rfl, rfl, trivial⟩ ?_
  refine z_iconst C (pc' := 1) dX3_pairChance_0 kc_0 rfl ?_
  refine z_istore_n C (i := 3) (la' := [(3, zI 0), (0, zR x0), (1, zI x1), (2, zI x2)]) (pc' := 2) dX3_pairChance_1 rfl (by decide) rfl rfl ?_
  refine z_iconst C (pc' := 3) dX3_pairChance_2 kc_0 rfl ?_
  refine z_istore C (i := 4) (la' := [(4, zI 0), (3, zI 0), (0, zR x0), (1, zI x1), (2, zI x2)]) (pc' := 5) dX3_pairChance_3 (by decide) rfl rfl ?_
  refine zlocs (lb := [(0, zR x0), (1, zI x1), (2, zI x2), (3, zI 0), (4, zI 0)]) ⟨rfl, rfl, rfl, rfl, rfl, trivial⟩ ?_
  refine zlp_ind (fun (f : Int → Int → zMem → zRs) => ∀ (v1 : Int) (v2 : Int) (u3 : zMem), zSim G p l e R s m args below meth c w 5 (znc u0) (zM w 1 (znc u0) below args s) 5 [(0, zR x0), (1, zI x1), (2, zI x2), (3, zI v1), (4, zI v2)] [] u3 (f v1 v2 u3)) (fun _ _ _ => znone) (fun k4 hk4 v1 v2 u3 => ?_) _ _ _ _
  refine z_iload C (pc' := 7) dX3_pairChance_5 rfl rfl ?_
  refine z_aload_n C (i := 0) (pc' := 8) dX3_pairChance_7 rfl rfl rfl ?_
  refine z_getfR C (pc' := 11) flRX3_17 dX3_pairChance_8 rfl (fun v5 => ?_)
  refine z_callV1 C (pc' := 14) lvRX3_60 lc_X5_size rfl dX3_pairChance_11 rfl (by decide) (rX5_size l w v5 u3) rfl (Nat.le_of_ble_eq_true rfl) (fun v6 u7 => ?_)
  refine z_icmp_ge C (pc' := 51) (pf := 17) dX3_pairChance_14 rfl rfl (fun _ => ?_) (fun _ => ?_)
  ·
    refine z_iload_n C (i := 3) (pc' := 52) dX3_pairChance_51 rfl rfl rfl ?_
    exact z_ireturn C dX3_pairChance_52
  ·
    refine z_iload_n C (i := 3) (pc' := 18) dX3_pairChance_17 rfl rfl rfl ?_
    refine z_sipush C (pc' := 21) dX3_pairChance_18 ks_10000 rfl ?_
    refine z_bipush C (pc' := 23) dX3_pairChance_21 kb_100 rfl ?_
    refine z_aload_n C (i := 0) (pc' := 24) dX3_pairChance_23 rfl rfl rfl ?_
    refine z_iload_n C (i := 1) (pc' := 25) dX3_pairChance_24 rfl rfl rfl ?_
    refine z_iload C (pc' := 27) dX3_pairChance_25 rfl rfl ?_
    refine z_callV1 C (pc' := 30) lvRX3_66 lc_X3_heedOf rfl dX3_pairChance_27 rfl (by decide) (rX3_heedOf l w x0 x1 v2 u7) rfl (Nat.le_of_ble_eq_true rfl) (fun v8 u9 => ?_)
    refine z_isub C (pc' := 31) dX3_pairChance_30 rfl ?_
    refine z_bipush C (pc' := 33) dX3_pairChance_31 kb_100 rfl ?_
    refine z_aload_n C (i := 0) (pc' := 34) dX3_pairChance_33 rfl rfl rfl ?_
    refine z_iload_n C (i := 2) (pc' := 35) dX3_pairChance_34 rfl rfl rfl ?_
    refine z_iload C (pc' := 37) dX3_pairChance_35 rfl rfl ?_
    refine z_callV1 C (pc' := 40) lvRX3_66 lc_X3_heedOf rfl dX3_pairChance_37 rfl (by decide) (rX3_heedOf l w x0 x2 v2 u9) rfl (Nat.le_of_ble_eq_true rfl) (fun v10 u11 => ?_)
    refine z_isub C (pc' := 41) dX3_pairChance_40 rfl ?_
    refine z_imul C (pc' := 42) dX3_pairChance_41 rfl ?_
    refine z_isub C (pc' := 43) dX3_pairChance_42 rfl ?_
    refine z_iadd C (pc' := 44) dX3_pairChance_43 rfl ?_
    refine z_istore_n C (i := 3) (la' := [(3, zI (zw32 (v1 + (zw32 (10000 - (zw32 ((zw32 (100 - v8)) * (zw32 (100 - v10))))))))), (0, zR x0), (1, zI x1), (2, zI x2), (4, zI v2)]) (pc' := 45) dX3_pairChance_44 rfl (by decide) rfl rfl ?_
    refine z_iinc C (i := 4) (la' := [(4, zI (zw32 (v2 + 1))), (3, zI (zw32 (v1 + (zw32 (10000 - (zw32 ((zw32 (100 - v8)) * (zw32 (100 - v10))))))))), (0, zR x0), (1, zI x1), (2, zI x2)]) (pc' := 48) dX3_pairChance_45 rfl (by decide) rfl rfl ?_
    refine z_goto C (pc' := 5) dX3_pairChance_48 rfl ?_
    exact zlocs (lb := [(0, zR x0), (1, zI x1), (2, zI x2), (3, zI (zw32 (v1 + (zw32 (10000 - (zw32 ((zw32 (100 - v8)) * (zw32 (100 - v10))))))))), (4, zI (zw32 (v2 + 1)))]) ⟨rfl, rfl, rfl, rfl, rfl, trivial⟩ (hk4 _ _ _)
def fX3_bestPair (x0 : Int) (u0 : zMem) : zRs := zlp (fun _ _ _ _ => none) (fun k5 (v1 : Int) (v2 : Int) (v3 : Int) (u4 : zMem) => zgf 3 3 x0 u4 (fun v6 => if v3 ≥ v6 then (some (v1, u4)) else (zlp (fun _ _ _ _ => none) (fun k11 (v7 : Int) (v8 : Int) (v9 : Int) (u10 : zMem) => zgf 3 3 x0 u10 (fun v12 => if v9 ≥ v12 then (k5 v7 v8 (zw32 (v3 + 1)) u10) else (zvc 3 x0 (fX3_pairChance x0 v3 v9 u10) (fun v13 u14 => zjn (fun (v15 : Int) (v16 : Int) (u17 : zMem) => k11 v15 v16 (zw32 (v9 + 1)) u17) (fun k18 => if v13 ≤ v8 then (k18 v7 v8 u14) else (k18 (zw32 ((zw32 (10 * v3)) + v9)) v13 u14)))))) 1000000 v1 v2 (zw32 (v3 + 1)) u4))) 1000000 1 (-1) 0 u0
set_option maxRecDepth 100000 in
set_option maxHeartbeats 4000000 in
theorem rX3_bestPair (l : Launch) (w : zW) (x0 : Int) (u0 : zMem) : zSpc l w 6 yX3_bestPair cX3_bestPair 6 (some .int) 1 [zR x0] u0 (fX3_bestPair x0 u0) := by
  refine zSpc_of (own := RX3) pnRX3 rfl (Nat.le_of_ble_eq_true rfl) (fun G p e R s m args below meth c C hini => ?_)
  unfold fX3_bestPair
  refine zlocs (lb := [(0, zR x0)]) ⟨rfl, trivial⟩ ?_
  refine z_iconst C (pc' := 1) dX3_bestPair_0 kc_1 rfl ?_
  refine z_istore_n C (i := 1) (la' := [(1, zI 1), (0, zR x0)]) (pc' := 2) dX3_bestPair_1 rfl (by decide) rfl rfl ?_
  refine z_iconst C (pc' := 3) dX3_bestPair_2 kc_m1 rfl ?_
  refine z_istore_n C (i := 2) (la' := [(2, zI (-1)), (1, zI 1), (0, zR x0)]) (pc' := 4) dX3_bestPair_3 rfl (by decide) rfl rfl ?_
  refine z_iconst C (pc' := 5) dX3_bestPair_4 kc_0 rfl ?_
  refine z_istore_n C (i := 3) (la' := [(3, zI 0), (2, zI (-1)), (1, zI 1), (0, zR x0)]) (pc' := 6) dX3_bestPair_5 rfl (by decide) rfl rfl ?_
  refine zlocs (lb := [(0, zR x0), (1, zI 1), (2, zI (-1)), (3, zI 0)]) ⟨rfl, rfl, rfl, rfl, trivial⟩ ?_
  refine zlp_ind (fun (f : Int → Int → Int → zMem → zRs) => ∀ (v1 : Int) (v2 : Int) (v3 : Int) (u4 : zMem), zSim G p l e R s m args below meth c w 6 (znc u0) (zM w 1 (znc u0) below args s) 6 [(0, zR x0), (1, zI v1), (2, zI v2), (3, zI v3)] [] u4 (f v1 v2 v3 u4)) (fun _ _ _ _ => znone) (fun k5 hk5 v1 v2 v3 u4 => ?_) _ _ _ _ _
  refine z_iload_n C (i := 3) (pc' := 7) dX3_bestPair_6 rfl rfl rfl ?_
  refine z_aload_n C (i := 0) (pc' := 8) dX3_bestPair_7 rfl rfl rfl ?_
  refine z_getf C (pc' := 11) flRX3_31 dX3_bestPair_8 rfl (fun v6 => ?_)
  refine z_icmp_ge C (pc' := 66) (pf := 14) dX3_bestPair_11 rfl rfl (fun _ => ?_) (fun _ => ?_)
  ·
    refine z_iload_n C (i := 1) (pc' := 67) dX3_bestPair_66 rfl rfl rfl ?_
    exact z_ireturn C dX3_bestPair_67
  ·
    refine z_iload_n C (i := 3) (pc' := 15) dX3_bestPair_14 rfl rfl rfl ?_
    refine z_iconst C (pc' := 16) dX3_bestPair_15 kc_1 rfl ?_
    refine z_iadd C (pc' := 17) dX3_bestPair_16 rfl ?_
    refine z_istore C (i := 4) (la' := [(4, zI (zw32 (v3 + 1))), (0, zR x0), (1, zI v1), (2, zI v2), (3, zI v3)]) (pc' := 19) dX3_bestPair_17 (by decide) rfl rfl ?_
    refine zlocs (lb := [(0, zR x0), (1, zI v1), (2, zI v2), (3, zI v3), (4, zI (zw32 (v3 + 1)))]) ⟨rfl, rfl, rfl, rfl, rfl, trivial⟩ ?_
    refine zlp_ind (fun (f : Int → Int → Int → zMem → zRs) => ∀ (v7 : Int) (v8 : Int) (v9 : Int) (u10 : zMem), zSim G p l e R s m args below meth c w 6 (znc u0) (zM w 1 (znc u0) below args s) 19 [(0, zR x0), (1, zI v7), (2, zI v8), (3, zI v3), (4, zI v9)] [] u10 (f v7 v8 v9 u10)) (fun _ _ _ _ => znone) (fun k11 hk11 v7 v8 v9 u10 => ?_) _ _ _ _ _
    refine z_iload C (pc' := 21) dX3_bestPair_19 rfl rfl ?_
    refine z_aload_n C (i := 0) (pc' := 22) dX3_bestPair_21 rfl rfl rfl ?_
    refine z_getf C (pc' := 25) flRX3_31 dX3_bestPair_22 rfl (fun v12 => ?_)
    refine z_icmp_ge C (pc' := 60) (pf := 28) dX3_bestPair_25 rfl rfl (fun _ => ?_) (fun _ => ?_)
    ·
      refine z_iinc C (i := 3) (la' := [(3, zI (zw32 (v3 + 1))), (0, zR x0), (1, zI v7), (2, zI v8), (4, zI v9)]) (pc' := 63) dX3_bestPair_60 rfl (by decide) rfl rfl ?_
      refine z_goto C (pc' := 6) dX3_bestPair_63 rfl ?_
      exact zlocs (lb := [(0, zR x0), (1, zI v7), (2, zI v8), (3, zI (zw32 (v3 + 1)))]) ⟨rfl, rfl, rfl, rfl, trivial⟩ (hk5 _ _ _ _)
    ·
      refine z_aload_n C (i := 0) (pc' := 29) dX3_bestPair_28 rfl rfl rfl ?_
      refine z_iload_n C (i := 3) (pc' := 30) dX3_bestPair_29 rfl rfl rfl ?_
      refine z_iload C (pc' := 32) dX3_bestPair_30 rfl rfl ?_
      refine z_callV1 C (pc' := 35) lvRX3_114 lc_X3_pairChance rfl dX3_bestPair_32 rfl (by decide) (rX3_pairChance l w x0 v3 v9 u10) rfl (Nat.le_of_ble_eq_true rfl) (fun v13 u14 => ?_)
      refine z_istore C (i := 5) (la' := [(5, zI v13), (0, zR x0), (1, zI v7), (2, zI v8), (3, zI v3), (4, zI v9)]) (pc' := 37) dX3_bestPair_35 (by decide) rfl rfl ?_
      refine z_iload C (pc' := 39) dX3_bestPair_37 rfl rfl ?_
      refine z_iload_n C (i := 2) (pc' := 40) dX3_bestPair_39 rfl rfl rfl ?_
      refine zjoin (P := fun (f : Int → Int → zMem → zRs) => ∀ (v15 : Int) (v16 : Int) (u17 : zMem), zSim G p l e R s m args below meth c w 6 (znc u0) (zM w 1 (znc u0) below args s) 54 [(0, zR x0), (1, zI v15), (2, zI v16), (3, zI v3), (4, zI v9)] [] u17 (f v15 v16 u17)) (fun v15 v16 u17 => ?_) (fun k18 hk18 => ?_)
      ·
        refine z_iinc C (i := 4) (la' := [(4, zI (zw32 (v9 + 1))), (0, zR x0), (1, zI v15), (2, zI v16), (3, zI v3)]) (pc' := 57) dX3_bestPair_54 rfl (by decide) rfl rfl ?_
        refine z_goto C (pc' := 19) dX3_bestPair_57 rfl ?_
        exact zlocs (lb := [(0, zR x0), (1, zI v15), (2, zI v16), (3, zI v3), (4, zI (zw32 (v9 + 1)))]) ⟨rfl, rfl, rfl, rfl, rfl, trivial⟩ (hk11 _ _ _ _)
      ·
        refine z_icmp_le C (pc' := 54) (pf := 43) dX3_bestPair_40 rfl rfl (fun _ => ?_) (fun _ => ?_)
        ·
          exact zlocs (lb := [(0, zR x0), (1, zI v7), (2, zI v8), (3, zI v3), (4, zI v9)]) ⟨rfl, rfl, rfl, rfl, rfl, trivial⟩ (hk18 _ _ _)
        ·
          refine z_iload C (pc' := 45) dX3_bestPair_43 rfl rfl ?_
          refine z_istore_n C (i := 2) (la' := [(2, zI v13), (5, zI v13), (0, zR x0), (1, zI v7), (3, zI v3), (4, zI v9)]) (pc' := 46) dX3_bestPair_45 rfl (by decide) rfl rfl ?_
          refine z_bipush C (pc' := 48) dX3_bestPair_46 kb_10 rfl ?_
          refine z_iload_n C (i := 3) (pc' := 49) dX3_bestPair_48 rfl rfl rfl ?_
          refine z_imul C (pc' := 50) dX3_bestPair_49 rfl ?_
          refine z_iload C (pc' := 52) dX3_bestPair_50 rfl rfl ?_
          refine z_iadd C (pc' := 53) dX3_bestPair_52 rfl ?_
          refine z_istore_n C (i := 1) (la' := [(1, zI (zw32 ((zw32 (10 * v3)) + v9))), (2, zI v13), (5, zI v13), (0, zR x0), (3, zI v3), (4, zI v9)]) (pc' := 54) dX3_bestPair_53 rfl (by decide) rfl rfl ?_
          exact zlocs (lb := [(0, zR x0), (1, zI (zw32 ((zw32 (10 * v3)) + v9))), (2, zI v13), (3, zI v3), (4, zI v9)]) ⟨rfl, rfl, rfl, rfl, rfl, trivial⟩ (hk18 _ _ _)

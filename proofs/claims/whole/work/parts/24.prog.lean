theorem dX6_init_0 : decode cX6_init 0 = .ok (.aload_n 0, 1) := by decide +kernel
theorem dX6_init_1 : decode cX6_init 1 = .ok (.invokespecial 3, 3) := by decide +kernel
theorem dX6_init_4 : decode cX6_init 4 = .ok (.aload_n 0, 1) := by decide +kernel
theorem dX6_init_5 : decode cX6_init 5 = .ok (.iconst 4, 1) := by decide +kernel
theorem dX6_init_6 : decode cX6_init 6 = .ok (.bipush 16, 2) := by decide +kernel
theorem dX6_init_8 : decode cX6_init 8 = .ok (.multianewarray 13 2, 4) := by decide +kernel
theorem dX6_init_12 : decode cX6_init 12 = .ok (.putfield 15, 3) := by decide +kernel
theorem dX6_init_15 : decode cX6_init 15 = .ok (.return_, 1) := by decide +kernel
theorem dX6_begin_0 : decode cX6_begin 0 = .ok (.aload_n 0, 1) := by decide +kernel
theorem dX6_begin_1 : decode cX6_begin 1 = .ok (.iconst 0, 1) := by decide +kernel
theorem dX6_begin_2 : decode cX6_begin 2 = .ok (.putfield 18, 3) := by decide +kernel
theorem dX6_begin_5 : decode cX6_begin 5 = .ok (.aload_n 0, 1) := by decide +kernel
theorem dX6_begin_6 : decode cX6_begin 6 = .ok (.iload_n 1, 1) := by decide +kernel
theorem dX6_begin_7 : decode cX6_begin 7 = .ok (.putfield 22, 3) := by decide +kernel
theorem dX6_begin_10 : decode cX6_begin 10 = .ok (.return_, 1) := by decide +kernel
theorem dX6_placeOf_0 : decode cX6_placeOf 0 = .ok (.iconst 0, 1) := by decide +kernel
theorem dX6_placeOf_1 : decode cX6_placeOf 1 = .ok (.istore_n 2, 1) := by decide +kernel
theorem dX6_placeOf_2 : decode cX6_placeOf 2 = .ok (.iload_n 2, 1) := by decide +kernel
theorem dX6_placeOf_3 : decode cX6_placeOf 3 = .ok (.aload_n 0, 1) := by decide +kernel
theorem dX6_placeOf_4 : decode cX6_placeOf 4 = .ok (.getfield 18, 3) := by decide +kernel
theorem dX6_placeOf_7 : decode cX6_placeOf 7 = .ok (.if_icmp .ge 23, 3) := by decide +kernel
theorem dX6_placeOf_10 : decode cX6_placeOf 10 = .ok (.aload_n 0, 1) := by decide +kernel
theorem dX6_placeOf_11 : decode cX6_placeOf 11 = .ok (.getfield 15, 3) := by decide +kernel
theorem dX6_placeOf_14 : decode cX6_placeOf 14 = .ok (.iconst 0, 1) := by decide +kernel
theorem dX6_placeOf_15 : decode cX6_placeOf 15 = .ok (.aaload, 1) := by decide +kernel
theorem dX6_placeOf_16 : decode cX6_placeOf 16 = .ok (.iload_n 2, 1) := by decide +kernel
theorem dX6_placeOf_17 : decode cX6_placeOf 17 = .ok (.iaload, 1) := by decide +kernel
theorem dX6_placeOf_18 : decode cX6_placeOf 18 = .ok (.iload_n 1, 1) := by decide +kernel
theorem dX6_placeOf_19 : decode cX6_placeOf 19 = .ok (.if_icmp .ne 5, 3) := by decide +kernel
theorem dX6_placeOf_22 : decode cX6_placeOf 22 = .ok (.iload_n 2, 1) := by decide +kernel
theorem dX6_placeOf_23 : decode cX6_placeOf 23 = .ok (.ireturn, 1) := by decide +kernel
theorem dX6_placeOf_24 : decode cX6_placeOf 24 = .ok (.iinc 2 1, 3) := by decide +kernel
theorem dX6_placeOf_27 : decode cX6_placeOf 27 = .ok (.goto (-25), 3) := by decide +kernel
theorem dX6_placeOf_30 : decode cX6_placeOf 30 = .ok (.iconst (-1), 1) := by decide +kernel
theorem dX6_placeOf_31 : decode cX6_placeOf 31 = .ok (.ireturn, 1) := by decide +kernel
theorem dX6_by_0 : decode cX6_by 0 = .ok (.aload_n 0, 1) := by decide +kernel
theorem dX6_by_1 : decode cX6_by 1 = .ok (.getfield 22, 3) := by decide +kernel
theorem dX6_by_4 : decode cX6_by 4 = .ok (.ireturn, 1) := by decide +kernel
theorem dX6_bits_0 : decode cX6_bits 0 = .ok (.iconst 0, 1) := by decide +kernel
theorem dX6_bits_1 : decode cX6_bits 1 = .ok (.istore_n 1, 1) := by decide +kernel
theorem dX6_bits_2 : decode cX6_bits 2 = .ok (.iconst 0, 1) := by decide +kernel
theorem dX6_bits_3 : decode cX6_bits 3 = .ok (.istore_n 2, 1) := by decide +kernel
theorem dX6_bits_4 : decode cX6_bits 4 = .ok (.iload_n 2, 1) := by decide +kernel
theorem dX6_bits_5 : decode cX6_bits 5 = .ok (.aload_n 0, 1) := by decide +kernel
theorem dX6_bits_6 : decode cX6_bits 6 = .ok (.getfield 18, 3) := by decide +kernel
theorem dX6_bits_9 : decode cX6_bits 9 = .ok (.if_icmp .ge 22, 3) := by decide +kernel
theorem dX6_bits_12 : decode cX6_bits 12 = .ok (.iload_n 1, 1) := by decide +kernel
theorem dX6_bits_13 : decode cX6_bits 13 = .ok (.iconst 1, 1) := by decide +kernel
theorem dX6_bits_14 : decode cX6_bits 14 = .ok (.aload_n 0, 1) := by decide +kernel
theorem dX6_bits_15 : decode cX6_bits 15 = .ok (.getfield 15, 3) := by decide +kernel
theorem dX6_bits_18 : decode cX6_bits 18 = .ok (.iconst 0, 1) := by decide +kernel
theorem dX6_bits_19 : decode cX6_bits 19 = .ok (.aaload, 1) := by decide +kernel
theorem dX6_bits_20 : decode cX6_bits 20 = .ok (.iload_n 2, 1) := by decide +kernel
theorem dX6_bits_21 : decode cX6_bits 21 = .ok (.iaload, 1) := by decide +kernel
theorem dX6_bits_22 : decode cX6_bits 22 = .ok (.ishl, 1) := by decide +kernel
theorem dX6_bits_23 : decode cX6_bits 23 = .ok (.ior, 1) := by decide +kernel
theorem dX6_bits_24 : decode cX6_bits 24 = .ok (.istore_n 1, 1) := by decide +kernel
theorem dX6_bits_25 : decode cX6_bits 25 = .ok (.iinc 2 1, 3) := by decide +kernel
theorem dX6_bits_28 : decode cX6_bits 28 = .ok (.goto (-24), 3) := by decide +kernel
theorem dX6_bits_31 : decode cX6_bits 31 = .ok (.iload_n 1, 1) := by decide +kernel
theorem dX6_bits_32 : decode cX6_bits 32 = .ok (.ireturn, 1) := by decide +kernel
theorem dX6_size_0 : decode cX6_size 0 = .ok (.aload_n 0, 1) := by decide +kernel
theorem dX6_size_1 : decode cX6_size 1 = .ok (.getfield 18, 3) := by decide +kernel
theorem dX6_size_4 : decode cX6_size 4 = .ok (.ireturn, 1) := by decide +kernel
theorem dX6_hasPlace_0 : decode cX6_hasPlace 0 = .ok (.iload_n 1, 1) := by decide +kernel
theorem dX6_hasPlace_1 : decode cX6_hasPlace 1 = .ok (.ifCond .lt 15, 3) := by decide +kernel
theorem dX6_hasPlace_4 : decode cX6_hasPlace 4 = .ok (.iload_n 1, 1) := by decide +kernel
theorem dX6_hasPlace_5 : decode cX6_hasPlace 5 = .ok (.aload_n 0, 1) := by decide +kernel
theorem dX6_hasPlace_6 : decode cX6_hasPlace 6 = .ok (.getfield 18, 3) := by decide +kernel
theorem dX6_hasPlace_9 : decode cX6_hasPlace 9 = .ok (.if_icmp .ge 7, 3) := by decide +kernel
theorem dX6_hasPlace_12 : decode cX6_hasPlace 12 = .ok (.iconst 1, 1) := by decide +kernel
theorem dX6_hasPlace_13 : decode cX6_hasPlace 13 = .ok (.goto 4, 3) := by decide +kernel
theorem dX6_hasPlace_16 : decode cX6_hasPlace 16 = .ok (.iconst 0, 1) := by decide +kernel
theorem dX6_hasPlace_17 : decode cX6_hasPlace 17 = .ok (.ireturn, 1) := by decide +kernel
theorem dX6_part_0 : decode cX6_part 0 = .ok (.aload_n 0, 1) := by decide +kernel
theorem dX6_part_1 : decode cX6_part 1 = .ok (.iload_n 1, 1) := by decide +kernel
theorem dX6_part_2 : decode cX6_part 2 = .ok (.invokevirtual 25, 3) := by decide +kernel
theorem dX6_part_5 : decode cX6_part 5 = .ok (.ifCond .eq 23, 3) := by decide +kernel
theorem dX6_part_8 : decode cX6_part 8 = .ok (.iload_n 2, 1) := by decide +kernel
theorem dX6_part_9 : decode cX6_part 9 = .ok (.ifCond .lt 19, 3) := by decide +kernel
theorem dX6_part_12 : decode cX6_part 12 = .ok (.iload_n 2, 1) := by decide +kernel
theorem dX6_part_13 : decode cX6_part 13 = .ok (.iconst 4, 1) := by decide +kernel
theorem dX6_part_14 : decode cX6_part 14 = .ok (.if_icmp .ge 14, 3) := by decide +kernel
theorem dX6_part_17 : decode cX6_part 17 = .ok (.aload_n 0, 1) := by decide +kernel
theorem dX6_part_18 : decode cX6_part 18 = .ok (.getfield 15, 3) := by decide +kernel
theorem dX6_part_21 : decode cX6_part 21 = .ok (.iload_n 2, 1) := by decide +kernel
theorem dX6_part_22 : decode cX6_part 22 = .ok (.aaload, 1) := by decide +kernel
theorem dX6_part_23 : decode cX6_part 23 = .ok (.iload_n 1, 1) := by decide +kernel
theorem dX6_part_24 : decode cX6_part 24 = .ok (.iaload, 1) := by decide +kernel
theorem dX6_part_25 : decode cX6_part 25 = .ok (.goto 4, 3) := by decide +kernel
theorem dX6_part_28 : decode cX6_part 28 = .ok (.iconst 0, 1) := by decide +kernel
theorem dX6_part_29 : decode cX6_part 29 = .ok (.ireturn, 1) := by decide +kernel
theorem dX7_name_0 : decode cX7_name 0 = .ok (.aload_n 0, 1) := by decide +kernel
theorem dX7_name_1 : decode cX7_name 1 = .ok (.getfield 11, 3) := by decide +kernel
theorem dX7_name_4 : decode cX7_name 4 = .ok (.iconst 0, 1) := by decide +kernel
theorem dX7_name_5 : decode cX7_name 5 = .ok (.aload_n 0, 1) := by decide +kernel
theorem dX7_name_6 : decode cX7_name 6 = .ok (.getfield 20, 3) := by decide +kernel
theorem dX7_name_9 : decode cX7_name 9 = .ok (.iload_n 2, 1) := by decide +kernel
theorem dX7_name_10 : decode cX7_name 10 = .ok (.iconst 0, 1) := by decide +kernel
theorem dX7_name_11 : decode cX7_name 11 = .ok (.invokevirtual 52, 3) := by decide +kernel
theorem dX7_name_14 : decode cX7_name 14 = .ok (.iastore, 1) := by decide +kernel
theorem dX7_name_15 : decode cX7_name 15 = .ok (.aload_n 0, 1) := by decide +kernel
theorem dX7_name_16 : decode cX7_name 16 = .ok (.getfield 11, 3) := by decide +kernel
theorem dX7_name_19 : decode cX7_name 19 = .ok (.iconst 1, 1) := by decide +kernel
theorem dX7_name_20 : decode cX7_name 20 = .ok (.aload_n 0, 1) := by decide +kernel
theorem dX7_name_21 : decode cX7_name 21 = .ok (.getfield 20, 3) := by decide +kernel
theorem dX7_name_24 : decode cX7_name 24 = .ok (.iload_n 2, 1) := by decide +kernel
theorem dX7_name_25 : decode cX7_name 25 = .ok (.iconst 1, 1) := by decide +kernel
theorem dX7_name_26 : decode cX7_name 26 = .ok (.invokevirtual 52, 3) := by decide +kernel
theorem dX7_name_29 : decode cX7_name 29 = .ok (.iastore, 1) := by decide +kernel
theorem dX7_name_30 : decode cX7_name 30 = .ok (.aload_n 0, 1) := by decide +kernel
theorem dX7_name_31 : decode cX7_name 31 = .ok (.getfield 11, 3) := by decide +kernel
theorem dX7_name_34 : decode cX7_name 34 = .ok (.iconst 2, 1) := by decide +kernel
theorem dX7_name_35 : decode cX7_name 35 = .ok (.aload_n 0, 1) := by decide +kernel
theorem dX7_name_36 : decode cX7_name 36 = .ok (.getfield 20, 3) := by decide +kernel
theorem dX7_name_39 : decode cX7_name 39 = .ok (.iload_n 2, 1) := by decide +kernel
theorem dX7_name_40 : decode cX7_name 40 = .ok (.iconst 2, 1) := by decide +kernel
theorem dX7_name_41 : decode cX7_name 41 = .ok (.invokevirtual 52, 3) := by decide +kernel
theorem dX7_name_44 : decode cX7_name 44 = .ok (.iastore, 1) := by decide +kernel
theorem dX7_name_45 : decode cX7_name 45 = .ok (.aload_n 0, 1) := by decide +kernel
theorem dX7_name_46 : decode cX7_name 46 = .ok (.getfield 11, 3) := by decide +kernel
theorem dX7_name_49 : decode cX7_name 49 = .ok (.iconst 3, 1) := by decide +kernel
theorem dX7_name_50 : decode cX7_name 50 = .ok (.aload_n 0, 1) := by decide +kernel
theorem dX7_name_51 : decode cX7_name 51 = .ok (.getfield 20, 3) := by decide +kernel
theorem dX7_name_54 : decode cX7_name 54 = .ok (.iload_n 2, 1) := by decide +kernel
theorem dX7_name_55 : decode cX7_name 55 = .ok (.iconst 3, 1) := by decide +kernel
theorem dX7_name_56 : decode cX7_name 56 = .ok (.invokevirtual 52, 3) := by decide +kernel
theorem dX7_name_59 : decode cX7_name 59 = .ok (.iastore, 1) := by decide +kernel
theorem dX7_name_60 : decode cX7_name 60 = .ok (.aload_n 0, 1) := by decide +kernel
theorem dX7_name_61 : decode cX7_name 61 = .ok (.getfield 11, 3) := by decide +kernel
theorem dX7_name_64 : decode cX7_name 64 = .ok (.iconst 4, 1) := by decide +kernel
theorem dX7_name_65 : decode cX7_name 65 = .ok (.iload_n 2, 1) := by decide +kernel
theorem dX7_name_66 : decode cX7_name 66 = .ok (.iastore, 1) := by decide +kernel
theorem dX7_name_67 : decode cX7_name 67 = .ok (.aload_n 0, 1) := by decide +kernel
theorem dX7_name_68 : decode cX7_name 68 = .ok (.getfield 11, 3) := by decide +kernel
theorem dX7_name_71 : decode cX7_name 71 = .ok (.iconst 5, 1) := by decide +kernel
theorem dX7_name_72 : decode cX7_name 72 = .ok (.aload_n 0, 1) := by decide +kernel
theorem dX7_name_73 : decode cX7_name 73 = .ok (.getfield 20, 3) := by decide +kernel
theorem dX7_name_76 : decode cX7_name 76 = .ok (.iload_n 2, 1) := by decide +kernel
theorem dX7_name_77 : decode cX7_name 77 = .ok (.invokevirtual 58, 3) := by decide +kernel
theorem dX7_name_80 : decode cX7_name 80 = .ok (.iastore, 1) := by decide +kernel
theorem dX7_name_81 : decode cX7_name 81 = .ok (.aload_n 0, 1) := by decide +kernel
theorem dX7_name_82 : decode cX7_name 82 = .ok (.getfield 11, 3) := by decide +kernel
theorem dX7_name_85 : decode cX7_name 85 = .ok (.bipush 6, 2) := by decide +kernel
theorem dX7_name_87 : decode cX7_name 87 = .ok (.aload_n 1, 1) := by decide +kernel
theorem dX7_name_88 : decode cX7_name 88 = .ok (.aload_n 0, 1) := by decide +kernel
theorem dX7_name_89 : decode cX7_name 89 = .ok (.getfield 11, 3) := by decide +kernel
theorem dX7_name_92 : decode cX7_name 92 = .ok (.iconst 0, 1) := by decide +kernel
theorem dX7_name_93 : decode cX7_name 93 = .ok (.iaload, 1) := by decide +kernel
theorem dX7_name_94 : decode cX7_name 94 = .ok (.invokevirtual 61, 3) := by decide +kernel
theorem dX7_name_97 : decode cX7_name 97 = .ok (.ifCond .eq 7, 3) := by decide +kernel
theorem dX7_name_100 : decode cX7_name 100 = .ok (.iconst 1, 1) := by decide +kernel
theorem dX7_name_101 : decode cX7_name 101 = .ok (.goto 4, 3) := by decide +kernel
theorem dX7_name_104 : decode cX7_name 104 = .ok (.iconst 0, 1) := by decide +kernel
theorem dX7_name_105 : decode cX7_name 105 = .ok (.iastore, 1) := by decide +kernel
theorem dX7_name_106 : decode cX7_name 106 = .ok (.aload_n 0, 1) := by decide +kernel
theorem dX7_name_107 : decode cX7_name 107 = .ok (.getfield 11, 3) := by decide +kernel
theorem dX7_name_110 : decode cX7_name 110 = .ok (.bipush 7, 2) := by decide +kernel
theorem dX7_name_112 : decode cX7_name 112 = .ok (.aload_n 0, 1) := by decide +kernel
theorem dX7_name_113 : decode cX7_name 113 = .ok (.getfield 20, 3) := by decide +kernel
theorem dX7_name_116 : decode cX7_name 116 = .ok (.iload_n 2, 1) := by decide +kernel
theorem dX7_name_117 : decode cX7_name 117 = .ok (.invokevirtual 65, 3) := by decide +kernel
theorem dX7_name_120 : decode cX7_name 120 = .ok (.iastore, 1) := by decide +kernel
theorem dX7_name_121 : decode cX7_name 121 = .ok (.return_, 1) := by decide +kernel
theorem dX7_pop_0 : decode cX7_pop 0 = .ok (.aload_n 0, 1) := by decide +kernel
theorem dX7_pop_1 : decode cX7_pop 1 = .ok (.getfield 28, 3) := by decide +kernel
theorem dX7_pop_4 : decode cX7_pop 4 = .ok (.ifCond .gt 5, 3) := by decide +kernel
theorem dX7_pop_7 : decode cX7_pop 7 = .ok (.iconst 0, 1) := by decide +kernel
theorem dX7_pop_8 : decode cX7_pop 8 = .ok (.ireturn, 1) := by decide +kernel
theorem dX7_pop_9 : decode cX7_pop 9 = .ok (.aload_n 0, 1) := by decide +kernel
theorem dX7_pop_10 : decode cX7_pop 10 = .ok (.dup, 1) := by decide +kernel
theorem dX7_pop_11 : decode cX7_pop 11 = .ok (.getfield 28, 3) := by decide +kernel
theorem dX7_pop_14 : decode cX7_pop 14 = .ok (.iconst 1, 1) := by decide +kernel
theorem dX7_pop_15 : decode cX7_pop 15 = .ok (.isub, 1) := by decide +kernel
theorem dX7_pop_16 : decode cX7_pop 16 = .ok (.putfield 28, 3) := by decide +kernel
theorem dX7_pop_19 : decode cX7_pop 19 = .ok (.aload_n 0, 1) := by decide +kernel
theorem dX7_pop_20 : decode cX7_pop 20 = .ok (.getfield 17, 3) := by decide +kernel
theorem dX7_pop_23 : decode cX7_pop 23 = .ok (.aload_n 0, 1) := by decide +kernel
theorem dX7_pop_24 : decode cX7_pop 24 = .ok (.getfield 28, 3) := by decide +kernel
theorem dX7_pop_27 : decode cX7_pop 27 = .ok (.iaload, 1) := by decide +kernel
theorem dX7_pop_28 : decode cX7_pop 28 = .ok (.ireturn, 1) := by decide +kernel
theorem dX7_joint_0 : decode cX7_joint 0 = .ok (.iload_n 0, 1) := by decide +kernel
theorem dX7_joint_1 : decode cX7_joint 1 = .ok (.lookupswitch 188 #[(37, 176), (38, 105), (42, 160), (43, 152), (45, 156), (47, 164), (60, 119), (61, 130), (62, 141), (124, 91)], 91) := by decide +kernel
theorem dX7_joint_92 : decode cX7_joint 92 = .ok (.iload_n 1, 1) := by decide +kernel
theorem dX7_joint_93 : decode cX7_joint 93 = .ok (.ifCond .ne 7, 3) := by decide +kernel
theorem dX7_joint_96 : decode cX7_joint 96 = .ok (.iload_n 2, 1) := by decide +kernel
theorem dX7_joint_97 : decode cX7_joint 97 = .ok (.ifCond .eq 7, 3) := by decide +kernel
theorem dX7_joint_100 : decode cX7_joint 100 = .ok (.iconst 1, 1) := by decide +kernel
theorem dX7_joint_101 : decode cX7_joint 101 = .ok (.goto 4, 3) := by decide +kernel
theorem dX7_joint_104 : decode cX7_joint 104 = .ok (.iconst 0, 1) := by decide +kernel
theorem dX7_joint_105 : decode cX7_joint 105 = .ok (.ireturn, 1) := by decide +kernel
theorem dX7_joint_106 : decode cX7_joint 106 = .ok (.iload_n 1, 1) := by decide +kernel
theorem dX7_joint_107 : decode cX7_joint 107 = .ok (.ifCond .eq 11, 3) := by decide +kernel
theorem dX7_joint_110 : decode cX7_joint 110 = .ok (.iload_n 2, 1) := by decide +kernel
theorem dX7_joint_111 : decode cX7_joint 111 = .ok (.ifCond .eq 7, 3) := by decide +kernel
theorem dX7_joint_114 : decode cX7_joint 114 = .ok (.iconst 1, 1) := by decide +kernel
theorem dX7_joint_115 : decode cX7_joint 115 = .ok (.goto 4, 3) := by decide +kernel
theorem dX7_joint_118 : decode cX7_joint 118 = .ok (.iconst 0, 1) := by decide +kernel
theorem dX7_joint_119 : decode cX7_joint 119 = .ok (.ireturn, 1) := by decide +kernel
theorem dX7_joint_120 : decode cX7_joint 120 = .ok (.iload_n 1, 1) := by decide +kernel
theorem dX7_joint_121 : decode cX7_joint 121 = .ok (.iload_n 2, 1) := by decide +kernel
theorem dX7_joint_122 : decode cX7_joint 122 = .ok (.if_icmp .ge 7, 3) := by decide +kernel
theorem dX7_joint_125 : decode cX7_joint 125 = .ok (.iconst 1, 1) := by decide +kernel
theorem dX7_joint_126 : decode cX7_joint 126 = .ok (.goto 4, 3) := by decide +kernel
theorem dX7_joint_129 : decode cX7_joint 129 = .ok (.iconst 0, 1) := by decide +kernel
theorem dX7_joint_130 : decode cX7_joint 130 = .ok (.ireturn, 1) := by decide +kernel
theorem dX7_joint_131 : decode cX7_joint 131 = .ok (.iload_n 1, 1) := by decide +kernel
theorem dX7_joint_132 : decode cX7_joint 132 = .ok (.iload_n 2, 1) := by decide +kernel
theorem dX7_joint_133 : decode cX7_joint 133 = .ok (.if_icmp .ne 7, 3) := by decide +kernel
theorem dX7_joint_136 : decode cX7_joint 136 = .ok (.iconst 1, 1) := by decide +kernel
theorem dX7_joint_137 : decode cX7_joint 137 = .ok (.goto 4, 3) := by decide +kernel
theorem dX7_joint_140 : decode cX7_joint 140 = .ok (.iconst 0, 1) := by decide +kernel
theorem dX7_joint_141 : decode cX7_joint 141 = .ok (.ireturn, 1) := by decide +kernel
theorem dX7_joint_142 : decode cX7_joint 142 = .ok (.iload_n 1, 1) := by decide +kernel
theorem dX7_joint_143 : decode cX7_joint 143 = .ok (.iload_n 2, 1) := by decide +kernel
theorem dX7_joint_144 : decode cX7_joint 144 = .ok (.if_icmp .le 7, 3) := by decide +kernel
theorem dX7_joint_147 : decode cX7_joint 147 = .ok (.iconst 1, 1) := by decide +kernel
theorem dX7_joint_148 : decode cX7_joint 148 = .ok (.goto 4, 3) := by decide +kernel
theorem dX7_joint_151 : decode cX7_joint 151 = .ok (.iconst 0, 1) := by decide +kernel
theorem dX7_joint_152 : decode cX7_joint 152 = .ok (.ireturn, 1) := by decide +kernel
theorem dX7_joint_153 : decode cX7_joint 153 = .ok (.iload_n 1, 1) := by decide +kernel
theorem dX7_joint_154 : decode cX7_joint 154 = .ok (.iload_n 2, 1) := by decide +kernel
theorem dX7_joint_155 : decode cX7_joint 155 = .ok (.iadd, 1) := by decide +kernel
theorem dX7_joint_156 : decode cX7_joint 156 = .ok (.ireturn, 1) := by decide +kernel
theorem dX7_joint_157 : decode cX7_joint 157 = .ok (.iload_n 1, 1) := by decide +kernel
theorem dX7_joint_158 : decode cX7_joint 158 = .ok (.iload_n 2, 1) := by decide +kernel
theorem dX7_joint_159 : decode cX7_joint 159 = .ok (.isub, 1) := by decide +kernel
theorem dX7_joint_160 : decode cX7_joint 160 = .ok (.ireturn, 1) := by decide +kernel
theorem dX7_joint_161 : decode cX7_joint 161 = .ok (.iload_n 1, 1) := by decide +kernel
theorem dX7_joint_162 : decode cX7_joint 162 = .ok (.iload_n 2, 1) := by decide +kernel
theorem dX7_joint_163 : decode cX7_joint 163 = .ok (.imul, 1) := by decide +kernel
theorem dX7_joint_164 : decode cX7_joint 164 = .ok (.ireturn, 1) := by decide +kernel
theorem dX7_joint_165 : decode cX7_joint 165 = .ok (.iload_n 2, 1) := by decide +kernel
theorem dX7_joint_166 : decode cX7_joint 166 = .ok (.ifCond .ne 7, 3) := by decide +kernel
theorem dX7_joint_169 : decode cX7_joint 169 = .ok (.iconst 0, 1) := by decide +kernel
theorem dX7_joint_170 : decode cX7_joint 170 = .ok (.goto 6, 3) := by decide +kernel
theorem dX7_joint_173 : decode cX7_joint 173 = .ok (.iload_n 1, 1) := by decide +kernel
theorem dX7_joint_174 : decode cX7_joint 174 = .ok (.iload_n 2, 1) := by decide +kernel
theorem dX7_joint_175 : decode cX7_joint 175 = .ok (.idiv, 1) := by decide +kernel
theorem dX7_joint_176 : decode cX7_joint 176 = .ok (.ireturn, 1) := by decide +kernel
theorem dX7_joint_177 : decode cX7_joint 177 = .ok (.iload_n 2, 1) := by decide +kernel
theorem dX7_joint_178 : decode cX7_joint 178 = .ok (.ifCond .ne 7, 3) := by decide +kernel
theorem dX7_joint_181 : decode cX7_joint 181 = .ok (.iconst 0, 1) := by decide +kernel
theorem dX7_joint_182 : decode cX7_joint 182 = .ok (.goto 6, 3) := by decide +kernel
theorem dX7_joint_185 : decode cX7_joint 185 = .ok (.iload_n 1, 1) := by decide +kernel
theorem dX7_joint_186 : decode cX7_joint 186 = .ok (.iload_n 2, 1) := by decide +kernel
theorem dX7_joint_187 : decode cX7_joint 187 = .ok (.irem, 1) := by decide +kernel
theorem dX7_joint_188 : decode cX7_joint 188 = .ok (.ireturn, 1) := by decide +kernel
theorem dX7_joint_189 : decode cX7_joint 189 = .ok (.iconst 0, 1) := by decide +kernel
theorem dX7_joint_190 : decode cX7_joint 190 = .ok (.ireturn, 1) := by decide +kernel
theorem dX7_valueOf_0 : decode cX7_valueOf 0 = .ok (.iload_n 1, 1) := by decide +kernel
theorem dX7_valueOf_1 : decode cX7_valueOf 1 = .ok (.sipush 10000, 3) := by decide +kernel
theorem dX7_valueOf_4 : decode cX7_valueOf 4 = .ok (.if_icmp .ge 5, 3) := by decide +kernel
theorem dX7_valueOf_7 : decode cX7_valueOf 7 = .ok (.iload_n 1, 1) := by decide +kernel
theorem dX7_valueOf_8 : decode cX7_valueOf 8 = .ok (.ireturn, 1) := by decide +kernel
theorem dX7_valueOf_9 : decode cX7_valueOf 9 = .ok (.iload_n 1, 1) := by decide +kernel
theorem dX7_valueOf_10 : decode cX7_valueOf 10 = .ok (.sipush 10000, 3) := by decide +kernel
theorem dX7_valueOf_13 : decode cX7_valueOf 13 = .ok (.isub, 1) := by decide +kernel
theorem dX7_valueOf_14 : decode cX7_valueOf 14 = .ok (.istore_n 2, 1) := by decide +kernel
theorem dX7_valueOf_15 : decode cX7_valueOf 15 = .ok (.iload_n 2, 1) := by decide +kernel
theorem dX7_valueOf_16 : decode cX7_valueOf 16 = .ok (.invokestatic 68, 3) := by decide +kernel
theorem dX7_valueOf_19 : decode cX7_valueOf 19 = .ok (.istore_n 3, 1) := by decide +kernel
theorem dX7_valueOf_20 : decode cX7_valueOf 20 = .ok (.iload_n 3, 1) := by decide +kernel
theorem dX7_valueOf_21 : decode cX7_valueOf 21 = .ok (.ifCond .lt 19, 3) := by decide +kernel
theorem dX7_valueOf_24 : decode cX7_valueOf 24 = .ok (.iload_n 3, 1) := by decide +kernel
theorem dX7_valueOf_25 : decode cX7_valueOf 25 = .ok (.aload_n 0, 1) := by decide +kernel
theorem dX7_valueOf_26 : decode cX7_valueOf 26 = .ok (.getfield 11, 3) := by decide +kernel
theorem dX7_valueOf_29 : decode cX7_valueOf 29 = .ok (.arraylength, 1) := by decide +kernel
theorem dX7_valueOf_30 : decode cX7_valueOf 30 = .ok (.if_icmp .ge 10, 3) := by decide +kernel
theorem dX7_valueOf_33 : decode cX7_valueOf 33 = .ok (.aload_n 0, 1) := by decide +kernel
theorem dX7_valueOf_34 : decode cX7_valueOf 34 = .ok (.getfield 11, 3) := by decide +kernel
theorem dX7_valueOf_37 : decode cX7_valueOf 37 = .ok (.iload_n 3, 1) := by decide +kernel
theorem dX7_valueOf_38 : decode cX7_valueOf 38 = .ok (.iaload, 1) := by decide +kernel
theorem dX7_valueOf_39 : decode cX7_valueOf 39 = .ok (.ireturn, 1) := by decide +kernel
theorem dX7_valueOf_40 : decode cX7_valueOf 40 = .ok (.aload_n 0, 1) := by decide +kernel
theorem dX7_valueOf_41 : decode cX7_valueOf 41 = .ok (.invokevirtual 42, 3) := by decide +kernel
theorem dX7_valueOf_44 : decode cX7_valueOf 44 = .ok (.istore 4, 2) := by decide +kernel
theorem dX7_valueOf_46 : decode cX7_valueOf 46 = .ok (.iload_n 2, 1) := by decide +kernel
theorem dX7_valueOf_47 : decode cX7_valueOf 47 = .ok (.lookupswitch 40 #[(33, 25), (126, 36)], 25) := by decide +kernel
theorem dX7_valueOf_72 : decode cX7_valueOf 72 = .ok (.iload 4, 2) := by decide +kernel
theorem dX7_valueOf_74 : decode cX7_valueOf 74 = .ok (.ifCond .ne 7, 3) := by decide +kernel
theorem dX7_valueOf_77 : decode cX7_valueOf 77 = .ok (.iconst 1, 1) := by decide +kernel
theorem dX7_valueOf_78 : decode cX7_valueOf 78 = .ok (.goto 4, 3) := by decide +kernel
theorem dX7_valueOf_81 : decode cX7_valueOf 81 = .ok (.iconst 0, 1) := by decide +kernel
theorem dX7_valueOf_82 : decode cX7_valueOf 82 = .ok (.ireturn, 1) := by decide +kernel
theorem dX7_valueOf_83 : decode cX7_valueOf 83 = .ok (.iload 4, 2) := by decide +kernel
theorem dX7_valueOf_85 : decode cX7_valueOf 85 = .ok (.ineg, 1) := by decide +kernel
theorem dX7_valueOf_86 : decode cX7_valueOf 86 = .ok (.ireturn, 1) := by decide +kernel
theorem dX7_valueOf_87 : decode cX7_valueOf 87 = .ok (.iload_n 2, 1) := by decide +kernel
theorem dX7_valueOf_88 : decode cX7_valueOf 88 = .ok (.aload_n 0, 1) := by decide +kernel
theorem dX7_valueOf_89 : decode cX7_valueOf 89 = .ok (.invokevirtual 42, 3) := by decide +kernel
theorem dX7_valueOf_92 : decode cX7_valueOf 92 = .ok (.iload 4, 2) := by decide +kernel
theorem dX7_valueOf_94 : decode cX7_valueOf 94 = .ok (.invokestatic 71, 3) := by decide +kernel
theorem dX7_valueOf_97 : decode cX7_valueOf 97 = .ok (.ireturn, 1) := by decide +kernel
theorem dX7_push_0 : decode cX7_push 0 = .ok (.aload_n 0, 1) := by decide +kernel
theorem dX7_push_1 : decode cX7_push 1 = .ok (.getfield 28, 3) := by decide +kernel
theorem dX7_push_4 : decode cX7_push 4 = .ok (.bipush 64, 2) := by decide +kernel
theorem dX7_push_6 : decode cX7_push 6 = .ok (.if_icmp .ge 23, 3) := by decide +kernel
theorem dX7_push_9 : decode cX7_push 9 = .ok (.aload_n 0, 1) := by decide +kernel
theorem dX7_push_10 : decode cX7_push 10 = .ok (.getfield 17, 3) := by decide +kernel
theorem dX7_push_13 : decode cX7_push 13 = .ok (.aload_n 0, 1) := by decide +kernel
theorem dX7_push_14 : decode cX7_push 14 = .ok (.getfield 28, 3) := by decide +kernel
theorem dX7_push_17 : decode cX7_push 17 = .ok (.iload_n 1, 1) := by decide +kernel
theorem dX7_push_18 : decode cX7_push 18 = .ok (.iastore, 1) := by decide +kernel
theorem dX7_push_19 : decode cX7_push 19 = .ok (.aload_n 0, 1) := by decide +kernel
theorem dX7_push_20 : decode cX7_push 20 = .ok (.dup, 1) := by decide +kernel
theorem dX7_push_21 : decode cX7_push 21 = .ok (.getfield 28, 3) := by decide +kernel
theorem dX7_push_24 : decode cX7_push 24 = .ok (.iconst 1, 1) := by decide +kernel
theorem dX7_push_25 : decode cX7_push 25 = .ok (.iadd, 1) := by decide +kernel
theorem dX7_push_26 : decode cX7_push 26 = .ok (.putfield 28, 3) := by decide +kernel
theorem dX7_push_29 : decode cX7_push 29 = .ok (.return_, 1) := by decide +kernel
theorem dX7_work_0 : decode cX7_work 0 = .ok (.aload_n 0, 1) := by decide +kernel
theorem dX7_work_1 : decode cX7_work 1 = .ok (.aload_n 1, 1) := by decide +kernel
theorem dX7_work_2 : decode cX7_work 2 = .ok (.iload_n 2, 1) := by decide +kernel
theorem dX7_work_3 : decode cX7_work 3 = .ok (.invokevirtual 24, 3) := by decide +kernel
theorem dX7_work_6 : decode cX7_work 6 = .ok (.aload_n 0, 1) := by decide +kernel
theorem dX7_work_7 : decode cX7_work 7 = .ok (.iconst 0, 1) := by decide +kernel
theorem dX7_work_8 : decode cX7_work 8 = .ok (.putfield 28, 3) := by decide +kernel
theorem dX7_work_11 : decode cX7_work 11 = .ok (.iconst 0, 1) := by decide +kernel
theorem dX7_work_12 : decode cX7_work 12 = .ok (.istore_n 3, 1) := by decide +kernel
theorem dX7_work_13 : decode cX7_work 13 = .ok (.iconst 0, 1) := by decide +kernel
theorem dX7_work_14 : decode cX7_work 14 = .ok (.istore 4, 2) := by decide +kernel
theorem dX7_work_16 : decode cX7_work 16 = .ok (.iload 4, 2) := by decide +kernel
theorem dX7_work_18 : decode cX7_work 18 = .ok (.aload_n 1, 1) := by decide +kernel
theorem dX7_work_19 : decode cX7_work 19 = .ok (.invokevirtual 32, 3) := by decide +kernel
theorem dX7_work_22 : decode cX7_work 22 = .ok (.if_icmp .ge 85, 3) := by decide +kernel
theorem dX7_work_25 : decode cX7_work 25 = .ok (.aload_n 1, 1) := by decide +kernel
theorem dX7_work_26 : decode cX7_work 26 = .ok (.iload 4, 2) := by decide +kernel
theorem dX7_work_28 : decode cX7_work 28 = .ok (.invokevirtual 38, 3) := by decide +kernel
theorem dX7_work_31 : decode cX7_work 31 = .ok (.istore 5, 2) := by decide +kernel
theorem dX7_work_33 : decode cX7_work 33 = .ok (.iload_n 3, 1) := by decide +kernel
theorem dX7_work_34 : decode cX7_work 34 = .ok (.ifCond .eq 20, 3) := by decide +kernel
theorem dX7_work_37 : decode cX7_work 37 = .ok (.iload 5, 2) := by decide +kernel
theorem dX7_work_39 : decode cX7_work 39 = .ok (.sipush 10059, 3) := by decide +kernel
theorem dX7_work_42 : decode cX7_work 42 = .ok (.if_icmp .eq 7, 3) := by decide +kernel
theorem dX7_work_45 : decode cX7_work 45 = .ok (.iconst 1, 1) := by decide +kernel
theorem dX7_work_46 : decode cX7_work 46 = .ok (.goto 4, 3) := by decide +kernel
theorem dX7_work_49 : decode cX7_work 49 = .ok (.iconst 0, 1) := by decide +kernel
theorem dX7_work_50 : decode cX7_work 50 = .ok (.istore_n 3, 1) := by decide +kernel
theorem dX7_work_51 : decode cX7_work 51 = .ok (.goto 50, 3) := by decide +kernel
theorem dX7_work_54 : decode cX7_work 54 = .ok (.iload 5, 2) := by decide +kernel
theorem dX7_work_56 : decode cX7_work 56 = .ok (.sipush 10059, 3) := by decide +kernel
theorem dX7_work_59 : decode cX7_work 59 = .ok (.if_icmp .ne 8, 3) := by decide +kernel
theorem dX7_work_62 : decode cX7_work 62 = .ok (.aload_n 0, 1) := by decide +kernel
theorem dX7_work_63 : decode cX7_work 63 = .ok (.invokevirtual 42, 3) := by decide +kernel
theorem dX7_work_66 : decode cX7_work 66 = .ok (.ireturn, 1) := by decide +kernel
theorem dX7_work_67 : decode cX7_work 67 = .ok (.iload 5, 2) := by decide +kernel
theorem dX7_work_69 : decode cX7_work 69 = .ok (.sipush 10063, 3) := by decide +kernel
theorem dX7_work_72 : decode cX7_work 72 = .ok (.if_icmp .ne 19, 3) := by decide +kernel
theorem dX7_work_75 : decode cX7_work 75 = .ok (.aload_n 0, 1) := by decide +kernel
theorem dX7_work_76 : decode cX7_work 76 = .ok (.invokevirtual 42, 3) := by decide +kernel
theorem dX7_work_79 : decode cX7_work 79 = .ok (.ifCond .ne 7, 3) := by decide +kernel
theorem dX7_work_82 : decode cX7_work 82 = .ok (.iconst 1, 1) := by decide +kernel
theorem dX7_work_83 : decode cX7_work 83 = .ok (.goto 4, 3) := by decide +kernel
theorem dX7_work_86 : decode cX7_work 86 = .ok (.iconst 0, 1) := by decide +kernel
theorem dX7_work_87 : decode cX7_work 87 = .ok (.istore_n 3, 1) := by decide +kernel
theorem dX7_work_88 : decode cX7_work 88 = .ok (.goto 13, 3) := by decide +kernel
theorem dX7_work_91 : decode cX7_work 91 = .ok (.aload_n 0, 1) := by decide +kernel
theorem dX7_work_92 : decode cX7_work 92 = .ok (.aload_n 0, 1) := by decide +kernel
theorem dX7_work_93 : decode cX7_work 93 = .ok (.iload 5, 2) := by decide +kernel
theorem dX7_work_95 : decode cX7_work 95 = .ok (.invokevirtual 45, 3) := by decide +kernel
theorem dX7_work_98 : decode cX7_work 98 = .ok (.invokevirtual 48, 3) := by decide +kernel
theorem dX7_work_101 : decode cX7_work 101 = .ok (.iinc 4 1, 3) := by decide +kernel
theorem dX7_work_104 : decode cX7_work 104 = .ok (.goto (-88), 3) := by decide +kernel
theorem dX7_work_107 : decode cX7_work 107 = .ok (.iconst 0, 1) := by decide +kernel
theorem dX7_work_108 : decode cX7_work 108 = .ok (.ireturn, 1) := by decide +kernel
theorem dX7_init_0 : decode cX7_init 0 = .ok (.aload_n 0, 1) := by decide +kernel
theorem dX7_init_1 : decode cX7_init 1 = .ok (.invokespecial 5, 3) := by decide +kernel
theorem dX7_init_4 : decode cX7_init 4 = .ok (.aload_n 0, 1) := by decide +kernel
theorem dX7_init_5 : decode cX7_init 5 = .ok (.bipush 8, 2) := by decide +kernel
theorem dX7_init_7 : decode cX7_init 7 = .ok (.newarray .int, 2) := by decide +kernel
theorem dX7_init_9 : decode cX7_init 9 = .ok (.putfield 11, 3) := by decide +kernel
theorem dX7_init_12 : decode cX7_init 12 = .ok (.aload_n 0, 1) := by decide +kernel
theorem dX7_init_13 : decode cX7_init 13 = .ok (.bipush 64, 2) := by decide +kernel
theorem dX7_init_15 : decode cX7_init 15 = .ok (.newarray .int, 2) := by decide +kernel
theorem dX7_init_17 : decode cX7_init 17 = .ok (.putfield 17, 3) := by decide +kernel
theorem dX7_init_20 : decode cX7_init 20 = .ok (.aload_n 0, 1) := by decide +kernel
theorem dX7_init_21 : decode cX7_init 21 = .ok (.aload_n 1, 1) := by decide +kernel
theorem dX7_init_22 : decode cX7_init 22 = .ok (.putfield 20, 3) := by decide +kernel
theorem dX7_init_25 : decode cX7_init 25 = .ok (.return_, 1) := by decide +kernel
theorem dX6_append_0 : decode cX6_append 0 = .ok (.aload_n 0, 1) := by decide +kernel
theorem dX6_append_1 : decode cX6_append 1 = .ok (.getfield 18, 3) := by decide +kernel
theorem dX6_append_4 : decode cX6_append 4 = .ok (.bipush 16, 2) := by decide +kernel
theorem dX6_append_6 : decode cX6_append 6 = .ok (.if_icmp .lt 5, 3) := by decide +kernel
theorem dX6_append_9 : decode cX6_append 9 = .ok (.iconst 0, 1) := by decide +kernel
theorem dX6_append_10 : decode cX6_append 10 = .ok (.ireturn, 1) := by decide +kernel
theorem dX6_append_11 : decode cX6_append 11 = .ok (.aload_n 0, 1) := by decide +kernel
theorem dX6_append_12 : decode cX6_append 12 = .ok (.getfield 15, 3) := by decide +kernel
theorem dX6_append_15 : decode cX6_append 15 = .ok (.iconst 0, 1) := by decide +kernel
theorem dX6_append_16 : decode cX6_append 16 = .ok (.aaload, 1) := by decide +kernel
theorem dX6_append_17 : decode cX6_append 17 = .ok (.aload_n 0, 1) := by decide +kernel
theorem dX6_append_18 : decode cX6_append 18 = .ok (.getfield 18, 3) := by decide +kernel
theorem dX6_append_21 : decode cX6_append 21 = .ok (.iload_n 1, 1) := by decide +kernel
theorem dX6_append_22 : decode cX6_append 22 = .ok (.iastore, 1) := by decide +kernel
theorem dX6_append_23 : decode cX6_append 23 = .ok (.aload_n 0, 1) := by decide +kernel
theorem dX6_append_24 : decode cX6_append 24 = .ok (.getfield 15, 3) := by decide +kernel
theorem dX6_append_27 : decode cX6_append 27 = .ok (.iconst 1, 1) := by decide +kernel
theorem dX6_append_28 : decode cX6_append 28 = .ok (.aaload, 1) := by decide +kernel
theorem dX6_append_29 : decode cX6_append 29 = .ok (.aload_n 0, 1) := by decide +kernel
theorem dX6_append_30 : decode cX6_append 30 = .ok (.getfield 18, 3) := by decide +kernel
theorem dX6_append_33 : decode cX6_append 33 = .ok (.iload_n 2, 1) := by decide +kernel
theorem dX6_append_34 : decode cX6_append 34 = .ok (.iastore, 1) := by decide +kernel
theorem dX6_append_35 : decode cX6_append 35 = .ok (.aload_n 0, 1) := by decide +kernel
theorem dX6_append_36 : decode cX6_append 36 = .ok (.getfield 15, 3) := by decide +kernel
theorem dX6_append_39 : decode cX6_append 39 = .ok (.iconst 2, 1) := by decide +kernel
theorem dX6_append_40 : decode cX6_append 40 = .ok (.aaload, 1) := by decide +kernel
theorem dX6_append_41 : decode cX6_append 41 = .ok (.aload_n 0, 1) := by decide +kernel
theorem dX6_append_42 : decode cX6_append 42 = .ok (.getfield 18, 3) := by decide +kernel
theorem dX6_append_45 : decode cX6_append 45 = .ok (.iload_n 3, 1) := by decide +kernel
theorem dX6_append_46 : decode cX6_append 46 = .ok (.iastore, 1) := by decide +kernel
theorem dX6_append_47 : decode cX6_append 47 = .ok (.aload_n 0, 1) := by decide +kernel
theorem dX6_append_48 : decode cX6_append 48 = .ok (.getfield 15, 3) := by decide +kernel
theorem dX6_append_51 : decode cX6_append 51 = .ok (.iconst 3, 1) := by decide +kernel
theorem dX6_append_52 : decode cX6_append 52 = .ok (.aaload, 1) := by decide +kernel
theorem dX6_append_53 : decode cX6_append 53 = .ok (.aload_n 0, 1) := by decide +kernel
theorem dX6_append_54 : decode cX6_append 54 = .ok (.getfield 18, 3) := by decide +kernel
theorem dX6_append_57 : decode cX6_append 57 = .ok (.iconst 0, 1) := by decide +kernel
theorem dX6_append_58 : decode cX6_append 58 = .ok (.iastore, 1) := by decide +kernel
theorem dX6_append_59 : decode cX6_append 59 = .ok (.aload_n 0, 1) := by decide +kernel
theorem dX6_append_60 : decode cX6_append 60 = .ok (.dup, 1) := by decide +kernel
theorem dX6_append_61 : decode cX6_append 61 = .ok (.getfield 18, 3) := by decide +kernel
theorem dX6_append_64 : decode cX6_append 64 = .ok (.iconst 1, 1) := by decide +kernel
theorem dX6_append_65 : decode cX6_append 65 = .ok (.iadd, 1) := by decide +kernel
theorem dX6_append_66 : decode cX6_append 66 = .ok (.putfield 18, 3) := by decide +kernel
theorem dX6_append_69 : decode cX6_append 69 = .ok (.iconst 1, 1) := by decide +kernel
theorem dX6_append_70 : decode cX6_append 70 = .ok (.ireturn, 1) := by decide +kernel
theorem dX6_isAlike_0 : decode cX6_isAlike 0 = .ok (.aload_n 0, 1) := by decide +kernel
theorem dX6_isAlike_1 : decode cX6_isAlike 1 = .ok (.iload_n 1, 1) := by decide +kernel
theorem dX6_isAlike_2 : decode cX6_isAlike 2 = .ok (.iconst 0, 1) := by decide +kernel
theorem dX6_isAlike_3 : decode cX6_isAlike 3 = .ok (.invokevirtual 62, 3) := by decide +kernel
theorem dX6_isAlike_6 : decode cX6_isAlike 6 = .ok (.aload_n 0, 1) := by decide +kernel
theorem dX6_isAlike_7 : decode cX6_isAlike 7 = .ok (.iload_n 2, 1) := by decide +kernel
theorem dX6_isAlike_8 : decode cX6_isAlike 8 = .ok (.iconst 0, 1) := by decide +kernel
theorem dX6_isAlike_9 : decode cX6_isAlike 9 = .ok (.invokevirtual 62, 3) := by decide +kernel
theorem dX6_isAlike_12 : decode cX6_isAlike 12 = .ok (.if_icmp .ne 22, 3) := by decide +kernel
theorem dX6_isAlike_15 : decode cX6_isAlike 15 = .ok (.aload_n 0, 1) := by decide +kernel
theorem dX6_isAlike_16 : decode cX6_isAlike 16 = .ok (.iload_n 1, 1) := by decide +kernel
theorem dX6_isAlike_17 : decode cX6_isAlike 17 = .ok (.iconst 2, 1) := by decide +kernel
theorem dX6_isAlike_18 : decode cX6_isAlike 18 = .ok (.invokevirtual 62, 3) := by decide +kernel
theorem dX6_isAlike_21 : decode cX6_isAlike 21 = .ok (.aload_n 0, 1) := by decide +kernel
theorem dX6_isAlike_22 : decode cX6_isAlike 22 = .ok (.iload_n 2, 1) := by decide +kernel
theorem dX6_isAlike_23 : decode cX6_isAlike 23 = .ok (.iconst 2, 1) := by decide +kernel
theorem dX6_isAlike_24 : decode cX6_isAlike 24 = .ok (.invokevirtual 62, 3) := by decide +kernel
theorem dX6_isAlike_27 : decode cX6_isAlike 27 = .ok (.if_icmp .ne 7, 3) := by decide +kernel
theorem dX6_isAlike_30 : decode cX6_isAlike 30 = .ok (.iconst 1, 1) := by decide +kernel
theorem dX6_isAlike_31 : decode cX6_isAlike 31 = .ok (.goto 4, 3) := by decide +kernel
theorem dX6_isAlike_34 : decode cX6_isAlike 34 = .ok (.iconst 0, 1) := by decide +kernel
theorem dX6_isAlike_35 : decode cX6_isAlike 35 = .ok (.ireturn, 1) := by decide +kernel
theorem dX6_move_0 : decode cX6_move 0 = .ok (.aload_n 0, 1) := by decide +kernel
theorem dX6_move_1 : decode cX6_move 1 = .ok (.iload_n 1, 1) := by decide +kernel
theorem dX6_move_2 : decode cX6_move 2 = .ok (.invokevirtual 25, 3) := by decide +kernel
theorem dX6_move_5 : decode cX6_move 5 = .ok (.ifCond .eq 11, 3) := by decide +kernel
theorem dX6_move_8 : decode cX6_move 8 = .ok (.aload_n 0, 1) := by decide +kernel
theorem dX6_move_9 : decode cX6_move 9 = .ok (.iload_n 2, 1) := by decide +kernel
theorem dX6_move_10 : decode cX6_move 10 = .ok (.invokevirtual 25, 3) := by decide +kernel
theorem dX6_move_13 : decode cX6_move 13 = .ok (.ifCond .ne 4, 3) := by decide +kernel
theorem dX6_move_16 : decode cX6_move 16 = .ok (.return_, 1) := by decide +kernel
theorem dX6_move_17 : decode cX6_move 17 = .ok (.aload_n 0, 1) := by decide +kernel
theorem dX6_move_18 : decode cX6_move 18 = .ok (.getfield 15, 3) := by decide +kernel
theorem dX6_move_21 : decode cX6_move 21 = .ok (.astore_n 3, 1) := by decide +kernel
theorem dX6_move_22 : decode cX6_move 22 = .ok (.aload_n 3, 1) := by decide +kernel
theorem dX6_move_23 : decode cX6_move 23 = .ok (.arraylength, 1) := by decide +kernel
theorem dX6_move_24 : decode cX6_move 24 = .ok (.istore 4, 2) := by decide +kernel
theorem dX6_move_26 : decode cX6_move 26 = .ok (.iconst 0, 1) := by decide +kernel
theorem dX6_move_27 : decode cX6_move 27 = .ok (.istore 5, 2) := by decide +kernel
theorem dX6_move_29 : decode cX6_move 29 = .ok (.iload 5, 2) := by decide +kernel
theorem dX6_move_31 : decode cX6_move 31 = .ok (.iload 4, 2) := by decide +kernel
theorem dX6_move_33 : decode cX6_move 33 = .ok (.if_icmp .ge 63, 3) := by decide +kernel
theorem dX6_move_36 : decode cX6_move 36 = .ok (.aload_n 3, 1) := by decide +kernel
theorem dX6_move_37 : decode cX6_move 37 = .ok (.iload 5, 2) := by decide +kernel
theorem dX6_move_39 : decode cX6_move 39 = .ok (.aaload, 1) := by decide +kernel
theorem dX6_move_40 : decode cX6_move 40 = .ok (.astore 6, 2) := by decide +kernel
theorem dX6_move_42 : decode cX6_move 42 = .ok (.aload 6, 2) := by decide +kernel
theorem dX6_move_44 : decode cX6_move 44 = .ok (.iload_n 1, 1) := by decide +kernel
theorem dX6_move_45 : decode cX6_move 45 = .ok (.iaload, 1) := by decide +kernel
theorem dX6_move_46 : decode cX6_move 46 = .ok (.istore 7, 2) := by decide +kernel
theorem dX6_move_48 : decode cX6_move 48 = .ok (.iload_n 1, 1) := by decide +kernel
theorem dX6_move_49 : decode cX6_move 49 = .ok (.iload_n 2, 1) := by decide +kernel
theorem dX6_move_50 : decode cX6_move 50 = .ok (.if_icmp .ge 20, 3) := by decide +kernel
theorem dX6_move_53 : decode cX6_move 53 = .ok (.aload 6, 2) := by decide +kernel
theorem dX6_move_55 : decode cX6_move 55 = .ok (.iload_n 1, 1) := by decide +kernel
theorem dX6_move_56 : decode cX6_move 56 = .ok (.iconst 1, 1) := by decide +kernel
theorem dX6_move_57 : decode cX6_move 57 = .ok (.iadd, 1) := by decide +kernel
theorem dX6_move_58 : decode cX6_move 58 = .ok (.aload 6, 2) := by decide +kernel
theorem dX6_move_60 : decode cX6_move 60 = .ok (.iload_n 1, 1) := by decide +kernel
theorem dX6_move_61 : decode cX6_move 61 = .ok (.iload_n 2, 1) := by decide +kernel
theorem dX6_move_62 : decode cX6_move 62 = .ok (.iload_n 1, 1) := by decide +kernel
theorem dX6_move_63 : decode cX6_move 63 = .ok (.isub, 1) := by decide +kernel
theorem dX6_move_64 : decode cX6_move 64 = .ok (.invokestatic 33, 3) := by decide +kernel
theorem dX6_move_67 : decode cX6_move 67 = .ok (.goto 17, 3) := by decide +kernel
theorem dX6_move_70 : decode cX6_move 70 = .ok (.aload 6, 2) := by decide +kernel
theorem dX6_move_72 : decode cX6_move 72 = .ok (.iload_n 2, 1) := by decide +kernel
theorem dX6_move_73 : decode cX6_move 73 = .ok (.aload 6, 2) := by decide +kernel
theorem dX6_move_75 : decode cX6_move 75 = .ok (.iload_n 2, 1) := by decide +kernel
theorem dX6_move_76 : decode cX6_move 76 = .ok (.iconst 1, 1) := by decide +kernel
theorem dX6_move_77 : decode cX6_move 77 = .ok (.iadd, 1) := by decide +kernel
theorem dX6_move_78 : decode cX6_move 78 = .ok (.iload_n 1, 1) := by decide +kernel
theorem dX6_move_79 : decode cX6_move 79 = .ok (.iload_n 2, 1) := by decide +kernel
theorem dX6_move_80 : decode cX6_move 80 = .ok (.isub, 1) := by decide +kernel
theorem dX6_move_81 : decode cX6_move 81 = .ok (.invokestatic 33, 3) := by decide +kernel
theorem dX6_move_84 : decode cX6_move 84 = .ok (.aload 6, 2) := by decide +kernel
theorem dX6_move_86 : decode cX6_move 86 = .ok (.iload_n 2, 1) := by decide +kernel
theorem dX6_move_87 : decode cX6_move 87 = .ok (.iload 7, 2) := by decide +kernel
theorem dX6_move_89 : decode cX6_move 89 = .ok (.iastore, 1) := by decide +kernel
theorem dX6_move_90 : decode cX6_move 90 = .ok (.iinc 5 1, 3) := by decide +kernel
theorem dX6_move_93 : decode cX6_move 93 = .ok (.goto (-64), 3) := by decide +kernel
theorem dX6_move_96 : decode cX6_move 96 = .ok (.return_, 1) := by decide +kernel
theorem dX6_drop_0 : decode cX6_drop 0 = .ok (.aload_n 0, 1) := by decide +kernel
theorem dX6_drop_1 : decode cX6_drop 1 = .ok (.iload_n 1, 1) := by decide +kernel
theorem dX6_drop_2 : decode cX6_drop 2 = .ok (.invokevirtual 25, 3) := by decide +kernel
theorem dX6_drop_5 : decode cX6_drop 5 = .ok (.ifCond .eq 24, 3) := by decide +kernel
theorem dX6_drop_8 : decode cX6_drop 8 = .ok (.aload_n 0, 1) := by decide +kernel
theorem dX6_drop_9 : decode cX6_drop 9 = .ok (.iload_n 1, 1) := by decide +kernel
theorem dX6_drop_10 : decode cX6_drop 10 = .ok (.aload_n 0, 1) := by decide +kernel
theorem dX6_drop_11 : decode cX6_drop 11 = .ok (.getfield 18, 3) := by decide +kernel
theorem dX6_drop_14 : decode cX6_drop 14 = .ok (.iconst 1, 1) := by decide +kernel
theorem dX6_drop_15 : decode cX6_drop 15 = .ok (.isub, 1) := by decide +kernel
theorem dX6_drop_16 : decode cX6_drop 16 = .ok (.invokevirtual 29, 3) := by decide +kernel
theorem dX6_drop_19 : decode cX6_drop 19 = .ok (.aload_n 0, 1) := by decide +kernel
theorem dX6_drop_20 : decode cX6_drop 20 = .ok (.dup, 1) := by decide +kernel
theorem dX6_drop_21 : decode cX6_drop 21 = .ok (.getfield 18, 3) := by decide +kernel
theorem dX6_drop_24 : decode cX6_drop 24 = .ok (.iconst 1, 1) := by decide +kernel
theorem dX6_drop_25 : decode cX6_drop 25 = .ok (.isub, 1) := by decide +kernel
theorem dX6_drop_26 : decode cX6_drop 26 = .ok (.putfield 18, 3) := by decide +kernel
theorem dX6_drop_29 : decode cX6_drop 29 = .ok (.return_, 1) := by decide +kernel
theorem dX6_join_0 : decode cX6_join 0 = .ok (.aload_n 0, 1) := by decide +kernel
theorem dX6_join_1 : decode cX6_join 1 = .ok (.getfield 18, 3) := by decide +kernel
theorem dX6_join_4 : decode cX6_join 4 = .ok (.iconst 2, 1) := by decide +kernel
theorem dX6_join_5 : decode cX6_join 5 = .ok (.isub, 1) := by decide +kernel
theorem dX6_join_6 : decode cX6_join 6 = .ok (.istore_n 2, 1) := by decide +kernel
theorem dX6_join_7 : decode cX6_join 7 = .ok (.iload_n 2, 1) := by decide +kernel
theorem dX6_join_8 : decode cX6_join 8 = .ok (.ifCond .lt 62, 3) := by decide +kernel
theorem dX6_join_11 : decode cX6_join 11 = .ok (.aload_n 1, 1) := by decide +kernel
theorem dX6_join_12 : decode cX6_join 12 = .ok (.aload_n 0, 1) := by decide +kernel
theorem dX6_join_13 : decode cX6_join 13 = .ok (.getfield 15, 3) := by decide +kernel
theorem dX6_join_16 : decode cX6_join 16 = .ok (.iconst 0, 1) := by decide +kernel
theorem dX6_join_17 : decode cX6_join 17 = .ok (.aaload, 1) := by decide +kernel
theorem dX6_join_18 : decode cX6_join 18 = .ok (.iload_n 2, 1) := by decide +kernel
theorem dX6_join_19 : decode cX6_join 19 = .ok (.iaload, 1) := by decide +kernel
theorem dX6_join_20 : decode cX6_join 20 = .ok (.aload_n 0, 1) := by decide +kernel
theorem dX6_join_21 : decode cX6_join 21 = .ok (.getfield 15, 3) := by decide +kernel
theorem dX6_join_24 : decode cX6_join 24 = .ok (.iconst 0, 1) := by decide +kernel
theorem dX6_join_25 : decode cX6_join 25 = .ok (.aaload, 1) := by decide +kernel
theorem dX6_join_26 : decode cX6_join 26 = .ok (.iload_n 2, 1) := by decide +kernel
theorem dX6_join_27 : decode cX6_join 27 = .ok (.iconst 1, 1) := by decide +kernel
theorem dX6_join_28 : decode cX6_join 28 = .ok (.iadd, 1) := by decide +kernel
theorem dX6_join_29 : decode cX6_join 29 = .ok (.iaload, 1) := by decide +kernel
theorem dX6_join_30 : decode cX6_join 30 = .ok (.invokestatic 54, 3) := by decide +kernel
theorem dX6_join_33 : decode cX6_join 33 = .ok (.ifCond .eq 31, 3) := by decide +kernel
theorem dX6_join_36 : decode cX6_join 36 = .ok (.aload_n 0, 1) := by decide +kernel
theorem dX6_join_37 : decode cX6_join 37 = .ok (.getfield 15, 3) := by decide +kernel
theorem dX6_join_40 : decode cX6_join 40 = .ok (.iconst 2, 1) := by decide +kernel
theorem dX6_join_41 : decode cX6_join 41 = .ok (.aaload, 1) := by decide +kernel
theorem dX6_join_42 : decode cX6_join 42 = .ok (.iload_n 2, 1) := by decide +kernel
theorem dX6_join_43 : decode cX6_join 43 = .ok (.dup2, 1) := by decide +kernel
theorem dX6_join_44 : decode cX6_join 44 = .ok (.iaload, 1) := by decide +kernel
theorem dX6_join_45 : decode cX6_join 45 = .ok (.aload_n 0, 1) := by decide +kernel
theorem dX6_join_46 : decode cX6_join 46 = .ok (.getfield 15, 3) := by decide +kernel
theorem dX6_join_49 : decode cX6_join 49 = .ok (.iconst 2, 1) := by decide +kernel
theorem dX6_join_50 : decode cX6_join 50 = .ok (.aaload, 1) := by decide +kernel
theorem dX6_join_51 : decode cX6_join 51 = .ok (.iload_n 2, 1) := by decide +kernel
theorem dX6_join_52 : decode cX6_join 52 = .ok (.iconst 1, 1) := by decide +kernel
theorem dX6_join_53 : decode cX6_join 53 = .ok (.iadd, 1) := by decide +kernel
theorem dX6_join_54 : decode cX6_join 54 = .ok (.iaload, 1) := by decide +kernel
theorem dX6_join_55 : decode cX6_join 55 = .ok (.iadd, 1) := by decide +kernel
theorem dX6_join_56 : decode cX6_join 56 = .ok (.iastore, 1) := by decide +kernel
theorem dX6_join_57 : decode cX6_join 57 = .ok (.aload_n 0, 1) := by decide +kernel
theorem dX6_join_58 : decode cX6_join 58 = .ok (.iload_n 2, 1) := by decide +kernel
theorem dX6_join_59 : decode cX6_join 59 = .ok (.iconst 1, 1) := by decide +kernel
theorem dX6_join_60 : decode cX6_join 60 = .ok (.iadd, 1) := by decide +kernel
theorem dX6_join_61 : decode cX6_join 61 = .ok (.invokevirtual 58, 3) := by decide +kernel
theorem dX6_join_64 : decode cX6_join 64 = .ok (.iinc 2 (-1), 3) := by decide +kernel
theorem dX6_join_67 : decode cX6_join 67 = .ok (.goto (-60), 3) := by decide +kernel
theorem dX6_join_70 : decode cX6_join 70 = .ok (.return_, 1) := by decide +kernel
theorem dX6_soften_0 : decode cX6_soften 0 = .ok (.iconst 0, 1) := by decide +kernel
theorem dX6_soften_1 : decode cX6_soften 1 = .ok (.istore_n 1, 1) := by decide +kernel
theorem dX6_soften_2 : decode cX6_soften 2 = .ok (.iload_n 1, 1) := by decide +kernel
theorem dX6_soften_3 : decode cX6_soften 3 = .ok (.aload_n 0, 1) := by decide +kernel
theorem dX6_soften_4 : decode cX6_soften 4 = .ok (.getfield 18, 3) := by decide +kernel
theorem dX6_soften_7 : decode cX6_soften 7 = .ok (.if_icmp .ge 30, 3) := by decide +kernel
theorem dX6_soften_10 : decode cX6_soften 10 = .ok (.aload_n 0, 1) := by decide +kernel
theorem dX6_soften_11 : decode cX6_soften 11 = .ok (.getfield 15, 3) := by decide +kernel
theorem dX6_soften_14 : decode cX6_soften 14 = .ok (.iconst 1, 1) := by decide +kernel
theorem dX6_soften_15 : decode cX6_soften 15 = .ok (.aaload, 1) := by decide +kernel
theorem dX6_soften_16 : decode cX6_soften 16 = .ok (.iload_n 1, 1) := by decide +kernel
theorem dX6_soften_17 : decode cX6_soften 17 = .ok (.iaload, 1) := by decide +kernel
theorem dX6_soften_18 : decode cX6_soften 18 = .ok (.iconst 2, 1) := by decide +kernel
theorem dX6_soften_19 : decode cX6_soften 19 = .ok (.if_icmp .ne 12, 3) := by decide +kernel
theorem dX6_soften_22 : decode cX6_soften 22 = .ok (.aload_n 0, 1) := by decide +kernel
theorem dX6_soften_23 : decode cX6_soften 23 = .ok (.getfield 15, 3) := by decide +kernel
theorem dX6_soften_26 : decode cX6_soften 26 = .ok (.iconst 1, 1) := by decide +kernel
theorem dX6_soften_27 : decode cX6_soften 27 = .ok (.aaload, 1) := by decide +kernel
theorem dX6_soften_28 : decode cX6_soften 28 = .ok (.iload_n 1, 1) := by decide +kernel
theorem dX6_soften_29 : decode cX6_soften 29 = .ok (.iconst 0, 1) := by decide +kernel
theorem dX6_soften_30 : decode cX6_soften 30 = .ok (.iastore, 1) := by decide +kernel
theorem dX6_soften_31 : decode cX6_soften 31 = .ok (.iinc 1 1, 3) := by decide +kernel
theorem dX6_soften_34 : decode cX6_soften 34 = .ok (.goto (-32), 3) := by decide +kernel
theorem dX6_soften_37 : decode cX6_soften 37 = .ok (.return_, 1) := by decide +kernel
theorem dX6_decisionsLast_0 : decode cX6_decisionsLast 0 = .ok (.iconst 0, 1) := by decide +kernel
theorem dX6_decisionsLast_1 : decode cX6_decisionsLast 1 = .ok (.istore_n 1, 1) := by decide +kernel
theorem dX6_decisionsLast_2 : decode cX6_decisionsLast 2 = .ok (.iconst 0, 1) := by decide +kernel
theorem dX6_decisionsLast_3 : decode cX6_decisionsLast 3 = .ok (.istore_n 2, 1) := by decide +kernel
theorem dX6_decisionsLast_4 : decode cX6_decisionsLast 4 = .ok (.iload_n 2, 1) := by decide +kernel
theorem dX6_decisionsLast_5 : decode cX6_decisionsLast 5 = .ok (.aload_n 0, 1) := by decide +kernel
theorem dX6_decisionsLast_6 : decode cX6_decisionsLast 6 = .ok (.getfield 18, 3) := by decide +kernel
theorem dX6_decisionsLast_9 : decode cX6_decisionsLast 9 = .ok (.if_icmp .ge 36, 3) := by decide +kernel
theorem dX6_decisionsLast_12 : decode cX6_decisionsLast 12 = .ok (.aload_n 0, 1) := by decide +kernel
theorem dX6_decisionsLast_13 : decode cX6_decisionsLast 13 = .ok (.iload_n 1, 1) := by decide +kernel
theorem dX6_decisionsLast_14 : decode cX6_decisionsLast 14 = .ok (.iconst 1, 1) := by decide +kernel
theorem dX6_decisionsLast_15 : decode cX6_decisionsLast 15 = .ok (.invokevirtual 66, 3) := by decide +kernel
theorem dX6_decisionsLast_18 : decode cX6_decisionsLast 18 = .ok (.iconst 3, 1) := by decide +kernel
theorem dX6_decisionsLast_19 : decode cX6_decisionsLast 19 = .ok (.if_icmp .ne 17, 3) := by decide +kernel
theorem dX6_decisionsLast_22 : decode cX6_decisionsLast 22 = .ok (.aload_n 0, 1) := by decide +kernel
theorem dX6_decisionsLast_23 : decode cX6_decisionsLast 23 = .ok (.iload_n 1, 1) := by decide +kernel
theorem dX6_decisionsLast_24 : decode cX6_decisionsLast 24 = .ok (.aload_n 0, 1) := by decide +kernel
theorem dX6_decisionsLast_25 : decode cX6_decisionsLast 25 = .ok (.getfield 18, 3) := by decide +kernel
theorem dX6_decisionsLast_28 : decode cX6_decisionsLast 28 = .ok (.iconst 1, 1) := by decide +kernel
theorem dX6_decisionsLast_29 : decode cX6_decisionsLast 29 = .ok (.isub, 1) := by decide +kernel
theorem dX6_decisionsLast_30 : decode cX6_decisionsLast 30 = .ok (.invokevirtual 29, 3) := by decide +kernel
theorem dX6_decisionsLast_33 : decode cX6_decisionsLast 33 = .ok (.goto 6, 3) := by decide +kernel
theorem dX6_decisionsLast_36 : decode cX6_decisionsLast 36 = .ok (.iinc 1 1, 3) := by decide +kernel
theorem dX6_decisionsLast_39 : decode cX6_decisionsLast 39 = .ok (.iinc 2 1, 3) := by decide +kernel
theorem dX6_decisionsLast_42 : decode cX6_decisionsLast 42 = .ok (.goto (-38), 3) := by decide +kernel
theorem dX6_decisionsLast_45 : decode cX6_decisionsLast 45 = .ok (.return_, 1) := by decide +kernel
theorem dX6_follow_0 : decode cX6_follow 0 = .ok (.aload_n 1, 1) := by decide +kernel
theorem dX6_follow_1 : decode cX6_follow 1 = .ok (.iconst 1, 1) := by decide +kernel
theorem dX6_follow_2 : decode cX6_follow 2 = .ok (.invokevirtual 39, 3) := by decide +kernel
theorem dX6_follow_5 : decode cX6_follow 5 = .ok (.ifCond .eq 8, 3) := by decide +kernel
theorem dX6_follow_8 : decode cX6_follow 8 = .ok (.aload_n 0, 1) := by decide +kernel
theorem dX6_follow_9 : decode cX6_follow 9 = .ok (.aload_n 2, 1) := by decide +kernel
theorem dX6_follow_10 : decode cX6_follow 10 = .ok (.invokevirtual 44, 3) := by decide +kernel
theorem dX6_follow_13 : decode cX6_follow 13 = .ok (.aload_n 1, 1) := by decide +kernel
theorem dX6_follow_14 : decode cX6_follow 14 = .ok (.iconst 2, 1) := by decide +kernel
theorem dX6_follow_15 : decode cX6_follow 15 = .ok (.invokevirtual 39, 3) := by decide +kernel
theorem dX6_follow_18 : decode cX6_follow 18 = .ok (.ifCond .eq 7, 3) := by decide +kernel
theorem dX6_follow_21 : decode cX6_follow 21 = .ok (.aload_n 0, 1) := by decide +kernel
theorem dX6_follow_22 : decode cX6_follow 22 = .ok (.invokevirtual 48, 3) := by decide +kernel
theorem dX6_follow_25 : decode cX6_follow 25 = .ok (.aload_n 1, 1) := by decide +kernel
theorem dX6_follow_26 : decode cX6_follow 26 = .ok (.iconst 4, 1) := by decide +kernel
theorem dX6_follow_27 : decode cX6_follow 27 = .ok (.invokevirtual 39, 3) := by decide +kernel
theorem dX6_follow_30 : decode cX6_follow 30 = .ok (.ifCond .eq 7, 3) := by decide +kernel
theorem dX6_follow_33 : decode cX6_follow 33 = .ok (.aload_n 0, 1) := by decide +kernel
theorem dX6_follow_34 : decode cX6_follow 34 = .ok (.invokevirtual 51, 3) := by decide +kernel
theorem dX6_follow_37 : decode cX6_follow 37 = .ok (.return_, 1) := by decide +kernel
theorem dX6_total_0 : decode cX6_total 0 = .ok (.iconst 0, 1) := by decide +kernel
theorem dX6_total_1 : decode cX6_total 1 = .ok (.istore_n 1, 1) := by decide +kernel
theorem dX6_total_2 : decode cX6_total 2 = .ok (.iconst 0, 1) := by decide +kernel
theorem dX6_total_3 : decode cX6_total 3 = .ok (.istore_n 2, 1) := by decide +kernel
theorem dX6_total_4 : decode cX6_total 4 = .ok (.iload_n 2, 1) := by decide +kernel
theorem dX6_total_5 : decode cX6_total 5 = .ok (.aload_n 0, 1) := by decide +kernel
theorem dX6_total_6 : decode cX6_total 6 = .ok (.getfield 18, 3) := by decide +kernel
theorem dX6_total_9 : decode cX6_total 9 = .ok (.if_icmp .ge 20, 3) := by decide +kernel
theorem dX6_total_12 : decode cX6_total 12 = .ok (.iload_n 1, 1) := by decide +kernel
theorem dX6_total_13 : decode cX6_total 13 = .ok (.aload_n 0, 1) := by decide +kernel
theorem dX6_total_14 : decode cX6_total 14 = .ok (.getfield 15, 3) := by decide +kernel
theorem dX6_total_17 : decode cX6_total 17 = .ok (.iconst 2, 1) := by decide +kernel
theorem dX6_total_18 : decode cX6_total 18 = .ok (.aaload, 1) := by decide +kernel
theorem dX6_total_19 : decode cX6_total 19 = .ok (.iload_n 2, 1) := by decide +kernel
theorem dX6_total_20 : decode cX6_total 20 = .ok (.iaload, 1) := by decide +kernel
theorem dX6_total_21 : decode cX6_total 21 = .ok (.iadd, 1) := by decide +kernel
theorem dX6_total_22 : decode cX6_total 22 = .ok (.istore_n 1, 1) := by decide +kernel
theorem dX6_total_23 : decode cX6_total 23 = .ok (.iinc 2 1, 3) := by decide +kernel
theorem dX6_total_26 : decode cX6_total 26 = .ok (.goto (-22), 3) := by decide +kernel
theorem dX6_total_29 : decode cX6_total 29 = .ok (.iload_n 1, 1) := by decide +kernel
theorem dX6_total_30 : decode cX6_total 30 = .ok (.ireturn, 1) := by decide +kernel
theorem dX6_markAdded_0 : decode cX6_markAdded 0 = .ok (.aload_n 0, 1) := by decide +kernel
theorem dX6_markAdded_1 : decode cX6_markAdded 1 = .ok (.iload_n 1, 1) := by decide +kernel
theorem dX6_markAdded_2 : decode cX6_markAdded 2 = .ok (.invokevirtual 25, 3) := by decide +kernel
theorem dX6_markAdded_5 : decode cX6_markAdded 5 = .ok (.ifCond .eq 12, 3) := by decide +kernel
theorem dX6_markAdded_8 : decode cX6_markAdded 8 = .ok (.aload_n 0, 1) := by decide +kernel
theorem dX6_markAdded_9 : decode cX6_markAdded 9 = .ok (.getfield 15, 3) := by decide +kernel
theorem dX6_markAdded_12 : decode cX6_markAdded 12 = .ok (.iconst 3, 1) := by decide +kernel
theorem dX6_markAdded_13 : decode cX6_markAdded 13 = .ok (.aaload, 1) := by decide +kernel
theorem dX6_markAdded_14 : decode cX6_markAdded 14 = .ok (.iload_n 1, 1) := by decide +kernel
theorem dX6_markAdded_15 : decode cX6_markAdded 15 = .ok (.iconst 1, 1) := by decide +kernel
theorem dX6_markAdded_16 : decode cX6_markAdded 16 = .ok (.iastore, 1) := by decide +kernel
theorem dX6_markAdded_17 : decode cX6_markAdded 17 = .ok (.return_, 1) := by decide +kernel
theorem dX6_hear_0 : decode cX6_hear 0 = .ok (.aload_n 0, 1) := by decide +kernel
theorem dX6_hear_1 : decode cX6_hear 1 = .ok (.getfield 18, 3) := by decide +kernel
theorem dX6_hear_4 : decode cX6_hear 4 = .ok (.istore_n 3, 1) := by decide +kernel
theorem dX6_hear_5 : decode cX6_hear 5 = .ok (.aload_n 0, 1) := by decide +kernel
theorem dX6_hear_6 : decode cX6_hear 6 = .ok (.getfield 18, 3) := by decide +kernel
theorem dX6_hear_9 : decode cX6_hear 9 = .ok (.iconst 1, 1) := by decide +kernel
theorem dX6_hear_10 : decode cX6_hear 10 = .ok (.isub, 1) := by decide +kernel
theorem dX6_hear_11 : decode cX6_hear 11 = .ok (.istore 4, 2) := by decide +kernel
theorem dX6_hear_13 : decode cX6_hear 13 = .ok (.iload 4, 2) := by decide +kernel
theorem dX6_hear_15 : decode cX6_hear 15 = .ok (.ifCond .lt 78, 3) := by decide +kernel
theorem dX6_hear_18 : decode cX6_hear 18 = .ok (.aload_n 1, 1) := by decide +kernel
theorem dX6_hear_19 : decode cX6_hear 19 = .ok (.aload_n 0, 1) := by decide +kernel
theorem dX6_hear_20 : decode cX6_hear 20 = .ok (.getfield 15, 3) := by decide +kernel
theorem dX6_hear_23 : decode cX6_hear 23 = .ok (.iconst 0, 1) := by decide +kernel
theorem dX6_hear_24 : decode cX6_hear 24 = .ok (.aaload, 1) := by decide +kernel
theorem dX6_hear_25 : decode cX6_hear 25 = .ok (.iload 4, 2) := by decide +kernel
theorem dX6_hear_27 : decode cX6_hear 27 = .ok (.iaload, 1) := by decide +kernel
theorem dX6_hear_28 : decode cX6_hear 28 = .ok (.iconst 0, 1) := by decide +kernel
theorem dX6_hear_29 : decode cX6_hear 29 = .ok (.invokevirtual 62, 3) := by decide +kernel
theorem dX6_hear_32 : decode cX6_hear 32 = .ok (.iload_n 2, 1) := by decide +kernel
theorem dX6_hear_33 : decode cX6_hear 33 = .ok (.if_icmp .eq 6, 3) := by decide +kernel
theorem dX6_hear_36 : decode cX6_hear 36 = .ok (.goto 51, 3) := by decide +kernel
theorem dX6_hear_39 : decode cX6_hear 39 = .ok (.aload_n 0, 1) := by decide +kernel
theorem dX6_hear_40 : decode cX6_hear 40 = .ok (.getfield 15, 3) := by decide +kernel
theorem dX6_hear_43 : decode cX6_hear 43 = .ok (.iconst 1, 1) := by decide +kernel
theorem dX6_hear_44 : decode cX6_hear 44 = .ok (.aaload, 1) := by decide +kernel
theorem dX6_hear_45 : decode cX6_hear 45 = .ok (.iload 4, 2) := by decide +kernel
theorem dX6_hear_47 : decode cX6_hear 47 = .ok (.iaload, 1) := by decide +kernel
theorem dX6_hear_48 : decode cX6_hear 48 = .ok (.iconst 2, 1) := by decide +kernel
theorem dX6_hear_49 : decode cX6_hear 49 = .ok (.if_icmp .ne 12, 3) := by decide +kernel
theorem dX6_hear_52 : decode cX6_hear 52 = .ok (.aload_n 0, 1) := by decide +kernel
theorem dX6_hear_53 : decode cX6_hear 53 = .ok (.iload 4, 2) := by decide +kernel
theorem dX6_hear_55 : decode cX6_hear 55 = .ok (.invokevirtual 58, 3) := by decide +kernel
theorem dX6_hear_58 : decode cX6_hear 58 = .ok (.goto 29, 3) := by decide +kernel
theorem dX6_hear_61 : decode cX6_hear 61 = .ok (.aload_n 0, 1) := by decide +kernel
theorem dX6_hear_62 : decode cX6_hear 62 = .ok (.getfield 15, 3) := by decide +kernel
theorem dX6_hear_65 : decode cX6_hear 65 = .ok (.iconst 2, 1) := by decide +kernel
theorem dX6_hear_66 : decode cX6_hear 66 = .ok (.aaload, 1) := by decide +kernel
theorem dX6_hear_67 : decode cX6_hear 67 = .ok (.iload 4, 2) := by decide +kernel
theorem dX6_hear_69 : decode cX6_hear 69 = .ok (.sipush 999, 3) := by decide +kernel
theorem dX6_hear_72 : decode cX6_hear 72 = .ok (.iconst 2, 1) := by decide +kernel
theorem dX6_hear_73 : decode cX6_hear 73 = .ok (.aload_n 0, 1) := by decide +kernel
theorem dX6_hear_74 : decode cX6_hear 74 = .ok (.getfield 15, 3) := by decide +kernel
theorem dX6_hear_77 : decode cX6_hear 77 = .ok (.iconst 2, 1) := by decide +kernel
theorem dX6_hear_78 : decode cX6_hear 78 = .ok (.aaload, 1) := by decide +kernel
theorem dX6_hear_79 : decode cX6_hear 79 = .ok (.iload 4, 2) := by decide +kernel
theorem dX6_hear_81 : decode cX6_hear 81 = .ok (.iaload, 1) := by decide +kernel
theorem dX6_hear_82 : decode cX6_hear 82 = .ok (.imul, 1) := by decide +kernel
theorem dX6_hear_83 : decode cX6_hear 83 = .ok (.invokestatic 67, 3) := by decide +kernel
theorem dX6_hear_86 : decode cX6_hear 86 = .ok (.iastore, 1) := by decide +kernel
theorem dX6_hear_87 : decode cX6_hear 87 = .ok (.iinc 4 (-1), 3) := by decide +kernel
theorem dX6_hear_90 : decode cX6_hear 90 = .ok (.goto (-77), 3) := by decide +kernel
theorem dX6_hear_93 : decode cX6_hear 93 = .ok (.iload_n 3, 1) := by decide +kernel
theorem dX6_hear_94 : decode cX6_hear 94 = .ok (.aload_n 0, 1) := by decide +kernel
theorem dX6_hear_95 : decode cX6_hear 95 = .ok (.getfield 18, 3) := by decide +kernel
theorem dX6_hear_98 : decode cX6_hear 98 = .ok (.isub, 1) := by decide +kernel
theorem dX6_hear_99 : decode cX6_hear 99 = .ok (.ireturn, 1) := by decide +kernel
theorem dX6_shortest_0 : decode cX6_shortest 0 = .ok (.iconst 0, 1) := by decide +kernel
theorem dX6_shortest_1 : decode cX6_shortest 1 = .ok (.istore_n 1, 1) := by decide +kernel
theorem dX6_shortest_2 : decode cX6_shortest 2 = .ok (.iconst 1, 1) := by decide +kernel
theorem dX6_shortest_3 : decode cX6_shortest 3 = .ok (.istore_n 2, 1) := by decide +kernel
theorem dX6_shortest_4 : decode cX6_shortest 4 = .ok (.iload_n 2, 1) := by decide +kernel
theorem dX6_shortest_5 : decode cX6_shortest 5 = .ok (.aload_n 0, 1) := by decide +kernel
theorem dX6_shortest_6 : decode cX6_shortest 6 = .ok (.getfield 18, 3) := by decide +kernel
theorem dX6_shortest_9 : decode cX6_shortest 9 = .ok (.if_icmp .ge 30, 3) := by decide +kernel
theorem dX6_shortest_12 : decode cX6_shortest 12 = .ok (.aload_n 0, 1) := by decide +kernel
theorem dX6_shortest_13 : decode cX6_shortest 13 = .ok (.getfield 15, 3) := by decide +kernel
theorem dX6_shortest_16 : decode cX6_shortest 16 = .ok (.iconst 2, 1) := by decide +kernel
theorem dX6_shortest_17 : decode cX6_shortest 17 = .ok (.aaload, 1) := by decide +kernel
theorem dX6_shortest_18 : decode cX6_shortest 18 = .ok (.iload_n 2, 1) := by decide +kernel
theorem dX6_shortest_19 : decode cX6_shortest 19 = .ok (.iaload, 1) := by decide +kernel
theorem dX6_shortest_20 : decode cX6_shortest 20 = .ok (.aload_n 0, 1) := by decide +kernel
theorem dX6_shortest_21 : decode cX6_shortest 21 = .ok (.getfield 15, 3) := by decide +kernel
theorem dX6_shortest_24 : decode cX6_shortest 24 = .ok (.iconst 2, 1) := by decide +kernel
theorem dX6_shortest_25 : decode cX6_shortest 25 = .ok (.aaload, 1) := by decide +kernel
theorem dX6_shortest_26 : decode cX6_shortest 26 = .ok (.iload_n 1, 1) := by decide +kernel
theorem dX6_shortest_27 : decode cX6_shortest 27 = .ok (.iaload, 1) := by decide +kernel
theorem dX6_shortest_28 : decode cX6_shortest 28 = .ok (.if_icmp .gt 5, 3) := by decide +kernel
theorem dX6_shortest_31 : decode cX6_shortest 31 = .ok (.iload_n 2, 1) := by decide +kernel
theorem dX6_shortest_32 : decode cX6_shortest 32 = .ok (.istore_n 1, 1) := by decide +kernel
theorem dX6_shortest_33 : decode cX6_shortest 33 = .ok (.iinc 2 1, 3) := by decide +kernel
theorem dX6_shortest_36 : decode cX6_shortest 36 = .ok (.goto (-32), 3) := by decide +kernel
theorem dX6_shortest_39 : decode cX6_shortest 39 = .ok (.iload_n 1, 1) := by decide +kernel
theorem dX6_shortest_40 : decode cX6_shortest 40 = .ok (.ireturn, 1) := by decide +kernel
theorem dX6_shorten_0 : decode cX6_shorten 0 = .ok (.iconst 0, 1) := by decide +kernel
theorem dX6_shorten_1 : decode cX6_shorten 1 = .ok (.aload_n 0, 1) := by decide +kernel
theorem dX6_shorten_2 : decode cX6_shorten 2 = .ok (.getfield 18, 3) := by decide +kernel
theorem dX6_shorten_5 : decode cX6_shorten 5 = .ok (.iload_n 1, 1) := by decide +kernel
theorem dX6_shorten_6 : decode cX6_shorten 6 = .ok (.isub, 1) := by decide +kernel
theorem dX6_shorten_7 : decode cX6_shorten 7 = .ok (.invokestatic 72, 3) := by decide +kernel
theorem dX6_shorten_10 : decode cX6_shorten 10 = .ok (.istore_n 2, 1) := by decide +kernel
theorem dX6_shorten_11 : decode cX6_shorten 11 = .ok (.iconst 0, 1) := by decide +kernel
theorem dX6_shorten_12 : decode cX6_shorten 12 = .ok (.istore_n 3, 1) := by decide +kernel
theorem dX6_shorten_13 : decode cX6_shorten 13 = .ok (.iload_n 3, 1) := by decide +kernel
theorem dX6_shorten_14 : decode cX6_shorten 14 = .ok (.iload_n 2, 1) := by decide +kernel
theorem dX6_shorten_15 : decode cX6_shorten 15 = .ok (.if_icmp .ge 17, 3) := by decide +kernel
theorem dX6_shorten_18 : decode cX6_shorten 18 = .ok (.aload_n 0, 1) := by decide +kernel
theorem dX6_shorten_19 : decode cX6_shorten 19 = .ok (.aload_n 0, 1) := by decide +kernel
theorem dX6_shorten_20 : decode cX6_shorten 20 = .ok (.invokevirtual 75, 3) := by decide +kernel
theorem dX6_shorten_23 : decode cX6_shorten 23 = .ok (.invokevirtual 58, 3) := by decide +kernel
theorem dX6_shorten_26 : decode cX6_shorten 26 = .ok (.iinc 3 1, 3) := by decide +kernel
theorem dX6_shorten_29 : decode cX6_shorten 29 = .ok (.goto (-16), 3) := by decide +kernel
theorem dX6_shorten_32 : decode cX6_shorten 32 = .ok (.iload_n 2, 1) := by decide +kernel
theorem dX6_shorten_33 : decode cX6_shorten 33 = .ok (.ireturn, 1) := by decide +kernel
def fX6_init (x0 : Int) (u0 : zMem) : zRs := if 0 ≤ x0 then (zmna 4 16 u0 (fun v1 u2 => zpf 6 0 x0 v1 u2 (fun u3 => some (0, u3)))) else none
set_option maxRecDepth 100000 in
set_option maxHeartbeats 4000000 in
theorem rX6_init (l : Launch) (w : zW) (x0 : Int) (u0 : zMem) : zSpc l w 1 yX6_init cX6_init 1 none 0 [zR x0] u0 (fX6_init x0 u0) := by
  refine zSpc_of (own := RX6) pnRX6 rfl (Nat.le_of_ble_eq_true rfl) (fun G p e R s m args below meth c C hini => ?_)
  unfold fX6_init
  refine zlocs (lb := [(0, zR x0)]) ⟨rfl, trivial⟩ ?_
  refine z_aload_n C (i := 0) (pc' := 1) dX6_init_0 rfl rfl rfl ?_
  refine z_objinit C (pc' := 4) woRX6_3 woi woc dX6_init_1 rfl (by decide) (Nat.le_of_ble_eq_true rfl) ?_
  refine z_aload_n C (i := 0) (pc' := 5) dX6_init_4 rfl rfl rfl ?_
  refine z_iconst C (pc' := 6) dX6_init_5 kc_4 rfl ?_
  refine z_bipush C (pc' := 8) dX6_init_6 kb_16 rfl ?_
  refine z_mna C (pc' := 12) wkRX6_13 wy20 dX6_init_8 rfl (fun v1 u2 => ?_)
  refine z_putfRi C (pc' := 15) flRX6_15 hini rfl fb6_0 dX6_init_12 rfl (fun u3 => ?_)
  exact z_return C dX6_init_15
def fX6_begin (x0 x1 : Int) (u0 : zMem) : zRs := zpf 6 1 x0 0 u0 (fun u1 => zpf 6 2 x0 x1 u1 (fun u2 => some (0, u2)))
set_option maxRecDepth 100000 in
set_option maxHeartbeats 4000000 in
theorem rX6_begin (l : Launch) (w : zW) (x0 x1 : Int) (u0 : zMem) : zSpc l w 1 yX6_begin cX6_begin 2 none 0 [zR x0, zI x1] u0 (fX6_begin x0 x1 u0) := by
  refine zSpc_of (own := RX6) pnRX6 rfl (Nat.le_of_ble_eq_true rfl) (fun G p e R s m args below meth c C hini => ?_)
  unfold fX6_begin
  refine zlocs (lb := [(0, zR x0), (1, zI x1)]) ⟨rfl, rfl, trivial⟩ ?_
  refine z_aload_n C (i := 0) (pc' := 1) dX6_begin_0 rfl rfl rfl ?_
  refine z_iconst C (pc' := 2) dX6_begin_1 kc_0 rfl ?_
  refine z_putf C (pc' := 5) flRX6_18 fn6_1 fb6_1 dX6_begin_2 rfl (fun u1 => ?_)
  refine z_aload_n C (i := 0) (pc' := 6) dX6_begin_5 rfl rfl rfl ?_
  refine z_iload_n C (i := 1) (pc' := 7) dX6_begin_6 rfl rfl rfl ?_
  refine z_putf C (pc' := 10) flRX6_22 fn6_2 fb6_2 dX6_begin_7 rfl (fun u2 => ?_)
  exact z_return C dX6_begin_10
def fX6_placeOf (x0 x1 : Int) (u0 : zMem) : zRs := zlp (fun _ _ => none) (fun k3 (v1 : Int) (u2 : zMem) => zgf 6 1 x0 u2 (fun v4 => if v1 ≥ v4 then (some ((-1), u2)) else (zgf 6 0 x0 u2 (fun v5 => zald 26 v5 0 u2 (fun v6 => zald 20 v6 v1 u2 (fun v7 => if v7 ≠ x1 then (k3 (zw32 (v1 + 1)) u2) else (some (v1, u2)))))))) 1000000 0 u0
set_option maxRecDepth 100000 in
set_option maxHeartbeats 4000000 in
theorem rX6_placeOf (l : Launch) (w : zW) (x0 x1 : Int) (u0 : zMem) : zSpc l w 1 yX6_placeOf cX6_placeOf 3 (some .int) 1 [zR x0, zI x1] u0 (fX6_placeOf x0 x1 u0) := by
  refine zSpc_of (own := RX6) pnRX6 rfl (Nat.le_of_ble_eq_true rfl) (fun G p e R s m args below meth c C hini => ?_)
  unfold fX6_placeOf
  refine zlocs (lb := [(0, zR x0), (1, zI x1)]) ⟨rfl, rfl, trivial⟩ ?_
  refine z_iconst C (pc' := 1) dX6_placeOf_0 kc_0 rfl ?_
  refine z_istore_n C (i := 2) (la' := [(2, zI 0), (0, zR x0), (1, zI x1)]) (pc' := 2) dX6_placeOf_1 rfl (by decide) rfl rfl ?_
  refine zlocs (lb := [(0, zR x0), (1, zI x1), (2, zI 0)]) ⟨rfl, rfl, rfl, trivial⟩ ?_
  refine zlp_ind (fun (f : Int → zMem → zRs) => ∀ (v1 : Int) (u2 : zMem), zSim G p l e R s m args below meth c w 3 (znc u0) (zM w 1 (znc u0) below args s) 2 [(0, zR x0), (1, zI x1), (2, zI v1)] [] u2 (f v1 u2)) (fun _ _ => znone) (fun k3 hk3 v1 u2 => ?_) _ _ _
  refine z_iload_n C (i := 2) (pc' := 3) dX6_placeOf_2 rfl rfl rfl ?_
  refine z_aload_n C (i := 0) (pc' := 4) dX6_placeOf_3 rfl rfl rfl ?_
  refine z_getf C (pc' := 7) flRX6_18 dX6_placeOf_4 rfl (fun v4 => ?_)
  refine z_icmp_ge C (pc' := 30) (pf := 10) dX6_placeOf_7 rfl rfl (fun _ => ?_) (fun _ => ?_)
  ·
    refine z_iconst C (pc' := 31) dX6_placeOf_30 kc_m1 rfl ?_
    exact z_ireturn C dX6_placeOf_31
  ·
    refine z_aload_n C (i := 0) (pc' := 11) dX6_placeOf_10 rfl rfl rfl ?_
    refine z_getfR C (pc' := 14) flRX6_15 dX6_placeOf_11 rfl (fun v5 => ?_)
    refine z_iconst C (pc' := 15) dX6_placeOf_14 kc_0 rfl ?_
    refine z_aald C (pc' := 16) (by decide) dX6_placeOf_15 rfl (fun v6 => ?_)
    refine z_iload_n C (i := 2) (pc' := 17) dX6_placeOf_16 rfl rfl rfl ?_
    refine z_iald C (pc' := 18) dX6_placeOf_17 rfl (fun v7 => ?_)
    refine z_iload_n C (i := 1) (pc' := 19) dX6_placeOf_18 rfl rfl rfl ?_
    refine z_icmp_ne C (pc' := 24) (pf := 22) dX6_placeOf_19 rfl rfl (fun _ => ?_) (fun _ => ?_)
    ·
      refine z_iinc C (i := 2) (la' := [(2, zI (zw32 (v1 + 1))), (0, zR x0), (1, zI x1)]) (pc' := 27) dX6_placeOf_24 rfl (by decide) rfl rfl ?_
      refine z_goto C (pc' := 2) dX6_placeOf_27 rfl ?_
      exact zlocs (lb := [(0, zR x0), (1, zI x1), (2, zI (zw32 (v1 + 1)))]) ⟨rfl, rfl, rfl, trivial⟩ (hk3 _ _)
    ·
      refine z_iload_n C (i := 2) (pc' := 23) dX6_placeOf_22 rfl rfl rfl ?_
      exact z_ireturn C dX6_placeOf_23
def fX6_by (x0 : Int) (u0 : zMem) : zRs := zgf 6 2 x0 u0 (fun v1 => some (v1, u0))
set_option maxRecDepth 100000 in
set_option maxHeartbeats 4000000 in
theorem rX6_by (l : Launch) (w : zW) (x0 : Int) (u0 : zMem) : zSpc l w 1 yX6_by cX6_by 1 (some .int) 1 [zR x0] u0 (fX6_by x0 u0) := by
  refine zSpc_of (own := RX6) pnRX6 rfl (Nat.le_of_ble_eq_true rfl) (fun G p e R s m args below meth c C hini => ?_)
  unfold fX6_by
  refine zlocs (lb := [(0, zR x0)]) ⟨rfl, trivial⟩ ?_
  refine z_aload_n C (i := 0) (pc' := 1) dX6_by_0 rfl rfl rfl ?_
  refine z_getf C (pc' := 4) flRX6_22 dX6_by_1 rfl (fun v1 => ?_)
  exact z_ireturn C dX6_by_4
def fX6_bits (x0 : Int) (u0 : zMem) : zRs := zlp (fun _ _ _ => none) (fun k4 (v1 : Int) (v2 : Int) (u3 : zMem) => zgf 6 1 x0 u3 (fun v5 => if v2 ≥ v5 then (some (v1, u3)) else (zgf 6 0 x0 u3 (fun v6 => zald 26 v6 0 u3 (fun v7 => zald 20 v7 v2 u3 (fun v8 => k4 (zor v1 (zshl 1 v8)) (zw32 (v2 + 1)) u3)))))) 1000000 0 0 u0
set_option maxRecDepth 100000 in
set_option maxHeartbeats 4000000 in
theorem rX6_bits (l : Launch) (w : zW) (x0 : Int) (u0 : zMem) : zSpc l w 1 yX6_bits cX6_bits 3 (some .int) 1 [zR x0] u0 (fX6_bits x0 u0) := by
  refine zSpc_of (own := RX6) pnRX6 rfl (Nat.le_of_ble_eq_true rfl) (fun G p e R s m args below meth c C hini => ?_)
  unfold fX6_bits
  refine zlocs (lb := [(0, zR x0)]) ⟨rfl, trivial⟩ ?_
  refine z_iconst C (pc' := 1) dX6_bits_0 kc_0 rfl ?_
  refine z_istore_n C (i := 1) (la' := [(1, zI 0), (0, zR x0)]) (pc' := 2) dX6_bits_1 rfl (by decide) rfl rfl ?_
  refine z_iconst C (pc' := 3) dX6_bits_2 kc_0 rfl ?_
  refine z_istore_n C (i := 2) (la' := [(2, zI 0), (1, zI 0), (0, zR x0)]) (pc' := 4) dX6_bits_3 rfl (by decide) rfl rfl ?_
  refine zlocs (lb := [(0, zR x0), (1, zI 0), (2, zI 0)]) ⟨rfl, rfl, rfl, trivial⟩ ?_
  refine zlp_ind (fun (f : Int → Int → zMem → zRs) => ∀ (v1 : Int) (v2 : Int) (u3 : zMem), zSim G p l e R s m args below meth c w 3 (znc u0) (zM w 1 (znc u0) below args s) 4 [(0, zR x0), (1, zI v1), (2, zI v2)] [] u3 (f v1 v2 u3)) (fun _ _ _ => znone) (fun k4 hk4 v1 v2 u3 => ?_) _ _ _ _
  refine z_iload_n C (i := 2) (pc' := 5) dX6_bits_4 rfl rfl rfl ?_
  refine z_aload_n C (i := 0) (pc' := 6) dX6_bits_5 rfl rfl rfl ?_
  refine z_getf C (pc' := 9) flRX6_18 dX6_bits_6 rfl (fun v5 => ?_)
  refine z_icmp_ge C (pc' := 31) (pf := 12) dX6_bits_9 rfl rfl (fun _ => ?_) (fun _ => ?_)
  ·
    refine z_iload_n C (i := 1) (pc' := 32) dX6_bits_31 rfl rfl rfl ?_
    exact z_ireturn C dX6_bits_32
  ·
    refine z_iload_n C (i := 1) (pc' := 13) dX6_bits_12 rfl rfl rfl ?_
    refine z_iconst C (pc' := 14) dX6_bits_13 kc_1 rfl ?_
    refine z_aload_n C (i := 0) (pc' := 15) dX6_bits_14 rfl rfl rfl ?_
    refine z_getfR C (pc' := 18) flRX6_15 dX6_bits_15 rfl (fun v6 => ?_)
    refine z_iconst C (pc' := 19) dX6_bits_18 kc_0 rfl ?_
    refine z_aald C (pc' := 20) (by decide) dX6_bits_19 rfl (fun v7 => ?_)
    refine z_iload_n C (i := 2) (pc' := 21) dX6_bits_20 rfl rfl rfl ?_
    refine z_iald C (pc' := 22) dX6_bits_21 rfl (fun v8 => ?_)
    refine z_ishl C (pc' := 23) dX6_bits_22 rfl ?_
    refine z_ior C (pc' := 24) dX6_bits_23 rfl ?_
    refine z_istore_n C (i := 1) (la' := [(1, zI (zor v1 (zshl 1 v8))), (0, zR x0), (2, zI v2)]) (pc' := 25) dX6_bits_24 rfl (by decide) rfl rfl ?_
    refine z_iinc C (i := 2) (la' := [(2, zI (zw32 (v2 + 1))), (1, zI (zor v1 (zshl 1 v8))), (0, zR x0)]) (pc' := 28) dX6_bits_25 rfl (by decide) rfl rfl ?_
    refine z_goto C (pc' := 4) dX6_bits_28 rfl ?_
    exact zlocs (lb := [(0, zR x0), (1, zI (zor v1 (zshl 1 v8))), (2, zI (zw32 (v2 + 1)))]) ⟨rfl, rfl, rfl, trivial⟩ (hk4 _ _ _)
def fX6_size (x0 : Int) (u0 : zMem) : zRs := zgf 6 1 x0 u0 (fun v1 => some (v1, u0))
set_option maxRecDepth 100000 in
set_option maxHeartbeats 4000000 in
theorem rX6_size (l : Launch) (w : zW) (x0 : Int) (u0 : zMem) : zSpc l w 1 yX6_size cX6_size 1 (some .int) 1 [zR x0] u0 (fX6_size x0 u0) := by
  refine zSpc_of (own := RX6) pnRX6 rfl (Nat.le_of_ble_eq_true rfl) (fun G p e R s m args below meth c C hini => ?_)
  unfold fX6_size
  refine zlocs (lb := [(0, zR x0)]) ⟨rfl, trivial⟩ ?_
  refine z_aload_n C (i := 0) (pc' := 1) dX6_size_0 rfl rfl rfl ?_
  refine z_getf C (pc' := 4) flRX6_18 dX6_size_1 rfl (fun v1 => ?_)
  exact z_ireturn C dX6_size_4
def fX6_hasPlace (x0 x1 : Int) (u0 : zMem) : zRs := zjn (fun (u1 : zMem) => zbl 0 (some (0, u1))) (fun k2 => if x1 < 0 then (k2 u0) else (zgf 6 1 x0 u0 (fun v3 => if x1 ≥ v3 then (k2 u0) else (zbl 1 (some (1, u0))))))
set_option maxRecDepth 100000 in
set_option maxHeartbeats 4000000 in
theorem rX6_hasPlace (l : Launch) (w : zW) (x0 x1 : Int) (u0 : zMem) : zSpc l w 1 yX6_hasPlace cX6_hasPlace 2 (some .boolean) 1 [zR x0, zI x1] u0 (fX6_hasPlace x0 x1 u0) := by
  refine zSpc_of (own := RX6) pnRX6 rfl (Nat.le_of_ble_eq_true rfl) (fun G p e R s m args below meth c C hini => ?_)
  unfold fX6_hasPlace
  refine zlocs (lb := [(0, zR x0), (1, zI x1)]) ⟨rfl, rfl, trivial⟩ ?_
  refine z_iload_n C (i := 1) (pc' := 1) dX6_hasPlace_0 rfl rfl rfl ?_
  refine zjoin (P := fun (f : zMem → zRs) => ∀ (u1 : zMem), zSim G p l e R s m args below meth c w 2 (znc u0) (zM w 1 (znc u0) below args s) 16 [] [] u1 (f u1)) (fun u1 => ?_) (fun k2 hk2 => ?_)
  ·
    refine z_iconst C (pc' := 17) dX6_hasPlace_16 kc_0 rfl ?_
    exact z_zreturn C dX6_hasPlace_17
  ·
    refine z_if_lt C (pc' := 16) (pf := 4) dX6_hasPlace_1 rfl rfl (fun _ => ?_) (fun _ => ?_)
    ·
      exact zlocs (lb := []) trivial (hk2 _)
    ·
      refine z_iload_n C (i := 1) (pc' := 5) dX6_hasPlace_4 rfl rfl rfl ?_
      refine z_aload_n C (i := 0) (pc' := 6) dX6_hasPlace_5 rfl rfl rfl ?_
      refine z_getf C (pc' := 9) flRX6_18 dX6_hasPlace_6 rfl (fun v3 => ?_)
      refine z_icmp_ge C (pc' := 16) (pf := 12) dX6_hasPlace_9 rfl rfl (fun _ => ?_) (fun _ => ?_)
      ·
        exact zlocs (lb := []) trivial (hk2 _)
      ·
        refine z_iconst C (pc' := 13) dX6_hasPlace_12 kc_1 rfl ?_
        refine z_goto C (pc' := 17) dX6_hasPlace_13 rfl ?_
        exact z_zreturn C dX6_hasPlace_17
def fX6_part (x0 x1 x2 : Int) (u0 : zMem) : zRs := zvc 6 x0 (fX6_hasPlace x0 x1 u0) (fun v1 u2 => zjn (fun (u3 : zMem) => some (0, u3)) (fun k4 => if v1 = 0 then (k4 u2) else (if x2 < 0 then (k4 u2) else (if x2 ≥ 4 then (k4 u2) else (zgf 6 0 x0 u2 (fun v5 => zald 26 v5 x2 u2 (fun v6 => zald 20 v6 x1 u2 (fun v7 => some (v7, u2)))))))))
set_option maxRecDepth 100000 in
set_option maxHeartbeats 4000000 in
theorem rX6_part (l : Launch) (w : zW) (x0 x1 x2 : Int) (u0 : zMem) : zSpc l w 2 yX6_part cX6_part 3 (some .int) 1 [zR x0, zI x1, zI x2] u0 (fX6_part x0 x1 x2 u0) := by
  refine zSpc_of (own := RX6) pnRX6 rfl (Nat.le_of_ble_eq_true rfl) (fun G p e R s m args below meth c C hini => ?_)
  unfold fX6_part
  refine zlocs (lb := [(0, zR x0), (1, zI x1), (2, zI x2)]) ⟨rfl, rfl, rfl, trivial⟩ ?_
  refine z_aload_n C (i := 0) (pc' := 1) dX6_part_0 rfl rfl rfl ?_
  refine z_iload_n C (i := 1) (pc' := 2) dX6_part_1 rfl rfl rfl ?_
  refine z_callV1 C (pc' := 5) lvRX6_25 lc_X6_hasPlace rfl dX6_part_2 rfl (by decide) (rX6_hasPlace l w x0 x1 u0) rfl (Nat.le_of_ble_eq_true rfl) (fun v1 u2 => ?_)
  refine zjoin (P := fun (f : zMem → zRs) => ∀ (u3 : zMem), zSim G p l e R s m args below meth c w 3 (znc u0) (zM w 1 (znc u0) below args s) 28 [] [] u3 (f u3)) (fun u3 => ?_) (fun k4 hk4 => ?_)
  ·
    refine z_iconst C (pc' := 29) dX6_part_28 kc_0 rfl ?_
    exact z_ireturn C dX6_part_29
  ·
    refine z_if_eq C (pc' := 28) (pf := 8) dX6_part_5 rfl rfl (fun _ => ?_) (fun _ => ?_)
    ·
      exact zlocs (lb := []) trivial (hk4 _)
    ·
      refine z_iload_n C (i := 2) (pc' := 9) dX6_part_8 rfl rfl rfl ?_
      refine z_if_lt C (pc' := 28) (pf := 12) dX6_part_9 rfl rfl (fun _ => ?_) (fun _ => ?_)
      ·
        exact zlocs (lb := []) trivial (hk4 _)
      ·
        refine z_iload_n C (i := 2) (pc' := 13) dX6_part_12 rfl rfl rfl ?_
        refine z_iconst C (pc' := 14) dX6_part_13 kc_4 rfl ?_
        refine z_icmp_ge C (pc' := 28) (pf := 17) dX6_part_14 rfl rfl (fun _ => ?_) (fun _ => ?_)
        ·
          exact zlocs (lb := []) trivial (hk4 _)
        ·
          refine z_aload_n C (i := 0) (pc' := 18) dX6_part_17 rfl rfl rfl ?_
          refine z_getfR C (pc' := 21) flRX6_15 dX6_part_18 rfl (fun v5 => ?_)
          refine z_iload_n C (i := 2) (pc' := 22) dX6_part_21 rfl rfl rfl ?_
          refine z_aald C (pc' := 23) (by decide) dX6_part_22 rfl (fun v6 => ?_)
          refine z_iload_n C (i := 1) (pc' := 24) dX6_part_23 rfl rfl rfl ?_
          refine z_iald C (pc' := 25) dX6_part_24 rfl (fun v7 => ?_)
          refine z_goto C (pc' := 29) dX6_part_25 rfl ?_
          exact z_ireturn C dX6_part_29
def fX7_name (x0 x1 x2 : Int) (u0 : zMem) : zRs := zgf 7 1 x0 u0 (fun v1 => zgf 7 0 x0 u0 (fun v2 => zvc 5 v2 (fX5_part v2 x2 0 u0) (fun v3 u4 => zast 20 v1 0 v3 u4 (fun u5 => zgf 7 1 x0 u5 (fun v6 => zgf 7 0 x0 u5 (fun v7 => zvc 5 v7 (fX5_part v7 x2 1 u5) (fun v8 u9 => zast 20 v6 1 v8 u9 (fun u10 => zgf 7 1 x0 u10 (fun v11 => zgf 7 0 x0 u10 (fun v12 => zvc 5 v12 (fX5_part v12 x2 2 u10) (fun v13 u14 => zast 20 v11 2 v13 u14 (fun u15 => zgf 7 1 x0 u15 (fun v16 => zgf 7 0 x0 u15 (fun v17 => zvc 5 v17 (fX5_part v17 x2 3 u15) (fun v18 u19 => zast 20 v16 3 v18 u19 (fun u20 => zgf 7 1 x0 u20 (fun v21 => zast 20 v21 4 x2 u20 (fun u22 => zgf 7 1 x0 u22 (fun v23 => zgf 7 0 x0 u22 (fun v24 => zvc 5 v24 (fX5_minute v24 x2 u22) (fun v25 u26 => zast 20 v23 5 v25 u26 (fun u27 => zgf 7 1 x0 u27 (fun v28 => zgf 7 1 x0 u27 (fun v29 => zald 20 v29 0 u27 (fun v30 => zvc 4 x1 (fX4_isSelf x1 v30 u27) (fun v31 u32 => zjn (fun (v33 : Int) (u34 : zMem) => zast 20 v28 6 v33 u34 (fun u36 => zgf 7 1 x0 u36 (fun v37 => zgf 7 0 x0 u36 (fun v38 => zvc 5 v38 (fX5_aheadOnSame v38 x2 u36) (fun v39 u40 => zast 20 v37 7 v39 u40 (fun u41 => some (0, u41))))))) (fun k35 => if v31 = 0 then (k35 0 u32) else (k35 1 u32))))))))))))))))))))))))))))
set_option maxRecDepth 100000 in
set_option maxHeartbeats 4000000 in
theorem rX7_name (l : Launch) (w : zW) (x0 x1 x2 : Int) (u0 : zMem) : zSpc l w 2 yX7_name cX7_name 3 none 0 [zR x0, zR x1, zI x2] u0 (fX7_name x0 x1 x2 u0) := by
  refine zSpc_of (own := RX7) pnRX7 rfl (Nat.le_of_ble_eq_true rfl) (fun G p e R s m args below meth c C hini => ?_)
  unfold fX7_name
  refine zlocs (lb := [(0, zR x0), (1, zR x1), (2, zI x2)]) ⟨rfl, rfl, rfl, trivial⟩ ?_
  refine z_aload_n C (i := 0) (pc' := 1) dX7_name_0 rfl rfl rfl ?_
  refine z_getfR C (pc' := 4) flRX7_11 dX7_name_1 rfl (fun v1 => ?_)
  refine z_iconst C (pc' := 5) dX7_name_4 kc_0 rfl ?_
  refine z_aload_n C (i := 0) (pc' := 6) dX7_name_5 rfl rfl rfl ?_
  refine z_getfR C (pc' := 9) flRX7_20 dX7_name_6 rfl (fun v2 => ?_)
  refine z_iload_n C (i := 2) (pc' := 10) dX7_name_9 rfl rfl rfl ?_
  refine z_iconst C (pc' := 11) dX7_name_10 kc_0 rfl ?_
  refine z_callV1 C (pc' := 14) lvRX7_52 lc_X5_part rfl dX7_name_11 rfl (by decide) (rX5_part l w v2 x2 0 u0) rfl (Nat.le_of_ble_eq_true rfl) (fun v3 u4 => ?_)
  refine z_iast C (pc' := 15) dX7_name_14 rfl (fun u5 => ?_)
  refine z_aload_n C (i := 0) (pc' := 16) dX7_name_15 rfl rfl rfl ?_
  refine z_getfR C (pc' := 19) flRX7_11 dX7_name_16 rfl (fun v6 => ?_)
  refine z_iconst C (pc' := 20) dX7_name_19 kc_1 rfl ?_
  refine z_aload_n C (i := 0) (pc' := 21) dX7_name_20 rfl rfl rfl ?_
  refine z_getfR C (pc' := 24) flRX7_20 dX7_name_21 rfl (fun v7 => ?_)
  refine z_iload_n C (i := 2) (pc' := 25) dX7_name_24 rfl rfl rfl ?_
  refine z_iconst C (pc' := 26) dX7_name_25 kc_1 rfl ?_
  refine z_callV1 C (pc' := 29) lvRX7_52 lc_X5_part rfl dX7_name_26 rfl (by decide) (rX5_part l w v7 x2 1 u5) rfl (Nat.le_of_ble_eq_true rfl) (fun v8 u9 => ?_)
  refine z_iast C (pc' := 30) dX7_name_29 rfl (fun u10 => ?_)
  refine z_aload_n C (i := 0) (pc' := 31) dX7_name_30 rfl rfl rfl ?_
  refine z_getfR C (pc' := 34) flRX7_11 dX7_name_31 rfl (fun v11 => ?_)
  refine z_iconst C (pc' := 35) dX7_name_34 kc_2 rfl ?_
  refine z_aload_n C (i := 0) (pc' := 36) dX7_name_35 rfl rfl rfl ?_
  refine z_getfR C (pc' := 39) flRX7_20 dX7_name_36 rfl (fun v12 => ?_)
  refine z_iload_n C (i := 2) (pc' := 40) dX7_name_39 rfl rfl rfl ?_
  refine z_iconst C (pc' := 41) dX7_name_40 kc_2 rfl ?_
  refine z_callV1 C (pc' := 44) lvRX7_52 lc_X5_part rfl dX7_name_41 rfl (by decide) (rX5_part l w v12 x2 2 u10) rfl (Nat.le_of_ble_eq_true rfl) (fun v13 u14 => ?_)
  refine z_iast C (pc' := 45) dX7_name_44 rfl (fun u15 => ?_)
  refine z_aload_n C (i := 0) (pc' := 46) dX7_name_45 rfl rfl rfl ?_
  refine z_getfR C (pc' := 49) flRX7_11 dX7_name_46 rfl (fun v16 => ?_)
  refine z_iconst C (pc' := 50) dX7_name_49 kc_3 rfl ?_
  refine z_aload_n C (i := 0) (pc' := 51) dX7_name_50 rfl rfl rfl ?_
  refine z_getfR C (pc' := 54) flRX7_20 dX7_name_51 rfl (fun v17 => ?_)
  refine z_iload_n C (i := 2) (pc' := 55) dX7_name_54 rfl rfl rfl ?_
  refine z_iconst C (pc' := 56) dX7_name_55 kc_3 rfl ?_
  refine z_callV1 C (pc' := 59) lvRX7_52 lc_X5_part rfl dX7_name_56 rfl (by decide) (rX5_part l w v17 x2 3 u15) rfl (Nat.le_of_ble_eq_true rfl) (fun v18 u19 => ?_)
  refine z_iast C (pc' := 60) dX7_name_59 rfl (fun u20 => ?_)
  refine z_aload_n C (i := 0) (pc' := 61) dX7_name_60 rfl rfl rfl ?_
  refine z_getfR C (pc' := 64) flRX7_11 dX7_name_61 rfl (fun v21 => ?_)
  refine z_iconst C (pc' := 65) dX7_name_64 kc_4 rfl ?_
  refine z_iload_n C (i := 2) (pc' := 66) dX7_name_65 rfl rfl rfl ?_
  refine z_iast C (pc' := 67) dX7_name_66 rfl (fun u22 => ?_)
  refine z_aload_n C (i := 0) (pc' := 68) dX7_name_67 rfl rfl rfl ?_
  refine z_getfR C (pc' := 71) flRX7_11 dX7_name_68 rfl (fun v23 => ?_)
  refine z_iconst C (pc' := 72) dX7_name_71 kc_5 rfl ?_
  refine z_aload_n C (i := 0) (pc' := 73) dX7_name_72 rfl rfl rfl ?_
  refine z_getfR C (pc' := 76) flRX7_20 dX7_name_73 rfl (fun v24 => ?_)
  refine z_iload_n C (i := 2) (pc' := 77) dX7_name_76 rfl rfl rfl ?_
  refine z_callV1 C (pc' := 80) lvRX7_58 lc_X5_minute rfl dX7_name_77 rfl (by decide) (rX5_minute l w v24 x2 u22) rfl (Nat.le_of_ble_eq_true rfl) (fun v25 u26 => ?_)
  refine z_iast C (pc' := 81) dX7_name_80 rfl (fun u27 => ?_)
  refine z_aload_n C (i := 0) (pc' := 82) dX7_name_81 rfl rfl rfl ?_
  refine z_getfR C (pc' := 85) flRX7_11 dX7_name_82 rfl (fun v28 => ?_)
  refine z_bipush C (pc' := 87) dX7_name_85 kb_6 rfl ?_
  refine z_aload_n C (i := 1) (pc' := 88) dX7_name_87 rfl rfl rfl ?_
  refine z_aload_n C (i := 0) (pc' := 89) dX7_name_88 rfl rfl rfl ?_
  refine z_getfR C (pc' := 92) flRX7_11 dX7_name_89 rfl (fun v29 => ?_)
  refine z_iconst C (pc' := 93) dX7_name_92 kc_0 rfl ?_
  refine z_iald C (pc' := 94) dX7_name_93 rfl (fun v30 => ?_)
  refine z_callV1 C (pc' := 97) lvRX7_61 lc_X4_isSelf rfl dX7_name_94 rfl (by decide) (rX4_isSelf l w x1 v30 u27) rfl (Nat.le_of_ble_eq_true rfl) (fun v31 u32 => ?_)
  refine zjoin (P := fun (f : Int → zMem → zRs) => ∀ (v33 : Int) (u34 : zMem), zSim G p l e R s m args below meth c w 3 (znc u0) (zM w 0 (znc u0) below args s) 105 [(0, zR x0), (2, zI x2)] [zI v33, zI 6, zR v28] u34 (f v33 u34)) (fun v33 u34 => ?_) (fun k35 hk35 => ?_)
  ·
    refine z_iast C (pc' := 106) dX7_name_105 rfl (fun u36 => ?_)
    refine z_aload_n C (i := 0) (pc' := 107) dX7_name_106 rfl rfl rfl ?_
    refine z_getfR C (pc' := 110) flRX7_11 dX7_name_107 rfl (fun v37 => ?_)
    refine z_bipush C (pc' := 112) dX7_name_110 kb_7 rfl ?_
    refine z_aload_n C (i := 0) (pc' := 113) dX7_name_112 rfl rfl rfl ?_
    refine z_getfR C (pc' := 116) flRX7_20 dX7_name_113 rfl (fun v38 => ?_)
    refine z_iload_n C (i := 2) (pc' := 117) dX7_name_116 rfl rfl rfl ?_
    refine z_callV1 C (pc' := 120) lvRX7_65 lc_X5_aheadOnSame rfl dX7_name_117 rfl (by decide) (rX5_aheadOnSame l w v38 x2 u36) rfl (Nat.le_of_ble_eq_true rfl) (fun v39 u40 => ?_)
    refine z_iast C (pc' := 121) dX7_name_120 rfl (fun u41 => ?_)
    exact z_return C dX7_name_121
  ·
    refine z_if_eq C (pc' := 104) (pf := 100) dX7_name_97 rfl rfl (fun _ => ?_) (fun _ => ?_)
    ·
      refine z_iconst C (pc' := 105) dX7_name_104 kc_0 rfl ?_
      exact zlocs (lb := [(0, zR x0), (2, zI x2)]) ⟨rfl, rfl, trivial⟩ (hk35 _ _)
    ·
      refine z_iconst C (pc' := 101) dX7_name_100 kc_1 rfl ?_
      refine z_goto C (pc' := 105) dX7_name_101 rfl ?_
      exact zlocs (lb := [(0, zR x0), (2, zI x2)]) ⟨rfl, rfl, trivial⟩ (hk35 _ _)
def fX7_pop (x0 : Int) (u0 : zMem) : zRs := zgf 7 3 x0 u0 (fun v1 => if v1 > 0 then (zgf 7 3 x0 u0 (fun v2 => zpf 7 3 x0 (zw32 (v2 - 1)) u0 (fun u3 => zgf 7 2 x0 u3 (fun v4 => zgf 7 3 x0 u3 (fun v5 => zald 20 v4 v5 u3 (fun v6 => some (v6, u3))))))) else (some (0, u0)))
set_option maxRecDepth 100000 in
set_option maxHeartbeats 4000000 in
theorem rX7_pop (l : Launch) (w : zW) (x0 : Int) (u0 : zMem) : zSpc l w 1 yX7_pop cX7_pop 1 (some .int) 1 [zR x0] u0 (fX7_pop x0 u0) := by
  refine zSpc_of (own := RX7) pnRX7 rfl (Nat.le_of_ble_eq_true rfl) (fun G p e R s m args below meth c C hini => ?_)
  unfold fX7_pop
  refine zlocs (lb := [(0, zR x0)]) ⟨rfl, trivial⟩ ?_
  refine z_aload_n C (i := 0) (pc' := 1) dX7_pop_0 rfl rfl rfl ?_
  refine z_getf C (pc' := 4) flRX7_28 dX7_pop_1 rfl (fun v1 => ?_)
  refine z_if_gt C (pc' := 9) (pf := 7) dX7_pop_4 rfl rfl (fun _ => ?_) (fun _ => ?_)
  ·
    refine z_aload_n C (i := 0) (pc' := 10) dX7_pop_9 rfl rfl rfl ?_
    refine z_dup C (pc' := 11) dX7_pop_10 rfl rfl ?_
    refine z_getf C (pc' := 14) flRX7_28 dX7_pop_11 rfl (fun v2 => ?_)
    refine z_iconst C (pc' := 15) dX7_pop_14 kc_1 rfl ?_
    refine z_isub C (pc' := 16) dX7_pop_15 rfl ?_
    refine z_putf C (pc' := 19) flRX7_28 fn7_3 fb7_3 dX7_pop_16 rfl (fun u3 => ?_)
    refine z_aload_n C (i := 0) (pc' := 20) dX7_pop_19 rfl rfl rfl ?_
    refine z_getfR C (pc' := 23) flRX7_17 dX7_pop_20 rfl (fun v4 => ?_)
    refine z_aload_n C (i := 0) (pc' := 24) dX7_pop_23 rfl rfl rfl ?_
    refine z_getf C (pc' := 27) flRX7_28 dX7_pop_24 rfl (fun v5 => ?_)
    refine z_iald C (pc' := 28) dX7_pop_27 rfl (fun v6 => ?_)
    exact z_ireturn C dX7_pop_28
  ·
    refine z_iconst C (pc' := 8) dX7_pop_7 kc_0 rfl ?_
    exact z_ireturn C dX7_pop_8
def fX7_joint (x0 x1 x2 : Int) (u0 : zMem) : zRs := if x0 = 37 then (if x2 ≠ 0 then (znz x2 (some ((Int.tmod x1 x2), u0))) else (some (0, u0))) else (if x0 = 38 then (zjn (fun (u3 : zMem) => some (0, u3)) (fun k4 => if x1 = 0 then (k4 u0) else (if x2 = 0 then (k4 u0) else (some (1, u0))))) else (if x0 = 42 then (some ((zw32 (x1 * x2)), u0)) else (if x0 = 43 then (some ((zw32 (x1 + x2)), u0)) else (if x0 = 45 then (some ((zw32 (x1 - x2)), u0)) else (if x0 = 47 then (if x2 ≠ 0 then (znz x2 (some ((zw32 (Int.tdiv x1 x2)), u0))) else (some (0, u0))) else (if x0 = 60 then (if x1 ≥ x2 then (some (0, u0)) else (some (1, u0))) else (if x0 = 61 then (if x1 ≠ x2 then (some (0, u0)) else (some (1, u0))) else (if x0 = 62 then (if x1 ≤ x2 then (some (0, u0)) else (some (1, u0))) else (if x0 = 124 then (zjn (fun (u13 : zMem) => some (1, u13)) (fun k14 => if x1 ≠ 0 then (k14 u0) else (if x2 = 0 then (some (0, u0)) else (k14 u0)))) else (some (0, u0)))))))))))
set_option maxRecDepth 100000 in
set_option maxHeartbeats 4000000 in
theorem rX7_joint (l : Launch) (w : zW) (x0 x1 x2 : Int) (u0 : zMem) : zSpc l w 1 yX7_joint cX7_joint 3 (some .int) 1 [zI x0, zI x1, zI x2] u0 (fX7_joint x0 x1 x2 u0) := by
  refine zSpc_of (own := RX7) pnRX7 rfl (Nat.le_of_ble_eq_true rfl) (fun G p e R s m args below meth c C hini => ?_)
  unfold fX7_joint
  refine zlocs (lb := [(0, zI x0), (1, zI x1), (2, zI x2)]) ⟨rfl, rfl, rfl, trivial⟩ ?_
  refine z_iload_n C (i := 0) (pc' := 1) dX7_joint_0 rfl rfl rfl ?_
  refine z_lcase C (pc' := 177) dX7_joint_1 37 rfl rfl rfl (fun _ => ?_) (fun h1 => ?_)
  ·
    refine z_iload_n C (i := 2) (pc' := 178) dX7_joint_177 rfl rfl rfl ?_
    refine z_if_ne C (pc' := 185) (pf := 181) dX7_joint_178 rfl rfl (fun _ => ?_) (fun _ => ?_)
    ·
      refine z_iload_n C (i := 1) (pc' := 186) dX7_joint_185 rfl rfl rfl ?_
      refine z_iload_n C (i := 2) (pc' := 187) dX7_joint_186 rfl rfl rfl ?_
      refine z_irem C (pc' := 188) dX7_joint_187 rfl (fun _ => ?_)
      exact z_ireturn C dX7_joint_188
    ·
      refine z_iconst C (pc' := 182) dX7_joint_181 kc_0 rfl ?_
      refine z_goto C (pc' := 188) dX7_joint_182 rfl ?_
      exact z_ireturn C dX7_joint_188
  ·
    refine z_lcase C (pc' := 106) dX7_joint_1 38 rfl rfl rfl (fun _ => ?_) (fun h2 => ?_)
    ·
      refine z_iload_n C (i := 1) (pc' := 107) dX7_joint_106 rfl rfl rfl ?_
      refine zjoin (P := fun (f : zMem → zRs) => ∀ (u3 : zMem), zSim G p l e R s m args below meth c w 3 (znc u0) (zM w 1 (znc u0) below args s) 118 [] [] u3 (f u3)) (fun u3 => ?_) (fun k4 hk4 => ?_)
      ·
        refine z_iconst C (pc' := 119) dX7_joint_118 kc_0 rfl ?_
        exact z_ireturn C dX7_joint_119
      ·
        refine z_if_eq C (pc' := 118) (pf := 110) dX7_joint_107 rfl rfl (fun _ => ?_) (fun _ => ?_)
        ·
          exact zlocs (lb := []) trivial (hk4 _)
        ·
          refine z_iload_n C (i := 2) (pc' := 111) dX7_joint_110 rfl rfl rfl ?_
          refine z_if_eq C (pc' := 118) (pf := 114) dX7_joint_111 rfl rfl (fun _ => ?_) (fun _ => ?_)
          ·
            exact zlocs (lb := []) trivial (hk4 _)
          ·
            refine z_iconst C (pc' := 115) dX7_joint_114 kc_1 rfl ?_
            refine z_goto C (pc' := 119) dX7_joint_115 rfl ?_
            exact z_ireturn C dX7_joint_119
    ·
      refine z_lcase C (pc' := 161) dX7_joint_1 42 rfl rfl rfl (fun _ => ?_) (fun h5 => ?_)
      ·
        refine z_iload_n C (i := 1) (pc' := 162) dX7_joint_161 rfl rfl rfl ?_
        refine z_iload_n C (i := 2) (pc' := 163) dX7_joint_162 rfl rfl rfl ?_
        refine z_imul C (pc' := 164) dX7_joint_163 rfl ?_
        exact z_ireturn C dX7_joint_164
      ·
        refine z_lcase C (pc' := 153) dX7_joint_1 43 rfl rfl rfl (fun _ => ?_) (fun h6 => ?_)
        ·
          refine z_iload_n C (i := 1) (pc' := 154) dX7_joint_153 rfl rfl rfl ?_
          refine z_iload_n C (i := 2) (pc' := 155) dX7_joint_154 rfl rfl rfl ?_
          refine z_iadd C (pc' := 156) dX7_joint_155 rfl ?_
          exact z_ireturn C dX7_joint_156
        ·
          refine z_lcase C (pc' := 157) dX7_joint_1 45 rfl rfl rfl (fun _ => ?_) (fun h7 => ?_)
          ·
            refine z_iload_n C (i := 1) (pc' := 158) dX7_joint_157 rfl rfl rfl ?_
            refine z_iload_n C (i := 2) (pc' := 159) dX7_joint_158 rfl rfl rfl ?_
            refine z_isub C (pc' := 160) dX7_joint_159 rfl ?_
            exact z_ireturn C dX7_joint_160
          ·
            refine z_lcase C (pc' := 165) dX7_joint_1 47 rfl rfl rfl (fun _ => ?_) (fun h8 => ?_)
            ·
              refine z_iload_n C (i := 2) (pc' := 166) dX7_joint_165 rfl rfl rfl ?_
              refine z_if_ne C (pc' := 173) (pf := 169) dX7_joint_166 rfl rfl (fun _ => ?_) (fun _ => ?_)
              ·
                refine z_iload_n C (i := 1) (pc' := 174) dX7_joint_173 rfl rfl rfl ?_
                refine z_iload_n C (i := 2) (pc' := 175) dX7_joint_174 rfl rfl rfl ?_
                refine z_idiv C (pc' := 176) dX7_joint_175 rfl (fun _ => ?_)
                exact z_ireturn C dX7_joint_176
              ·
                refine z_iconst C (pc' := 170) dX7_joint_169 kc_0 rfl ?_
                refine z_goto C (pc' := 176) dX7_joint_170 rfl ?_
                exact z_ireturn C dX7_joint_176
            ·
              refine z_lcase C (pc' := 120) dX7_joint_1 60 rfl rfl rfl (fun _ => ?_) (fun h9 => ?_)
              ·
                refine z_iload_n C (i := 1) (pc' := 121) dX7_joint_120 rfl rfl rfl ?_
                refine z_iload_n C (i := 2) (pc' := 122) dX7_joint_121 rfl rfl rfl ?_
                refine z_icmp_ge C (pc' := 129) (pf := 125) dX7_joint_122 rfl rfl (fun _ => ?_) (fun _ => ?_)
                ·
                  refine z_iconst C (pc' := 130) dX7_joint_129 kc_0 rfl ?_
                  exact z_ireturn C dX7_joint_130
                ·
                  refine z_iconst C (pc' := 126) dX7_joint_125 kc_1 rfl ?_
                  refine z_goto C (pc' := 130) dX7_joint_126 rfl ?_
                  exact z_ireturn C dX7_joint_130
              ·
                refine z_lcase C (pc' := 131) dX7_joint_1 61 rfl rfl rfl (fun _ => ?_) (fun h10 => ?_)
                ·
                  refine z_iload_n C (i := 1) (pc' := 132) dX7_joint_131 rfl rfl rfl ?_
                  refine z_iload_n C (i := 2) (pc' := 133) dX7_joint_132 rfl rfl rfl ?_
                  refine z_icmp_ne C (pc' := 140) (pf := 136) dX7_joint_133 rfl rfl (fun _ => ?_) (fun _ => ?_)
                  ·
                    refine z_iconst C (pc' := 141) dX7_joint_140 kc_0 rfl ?_
                    exact z_ireturn C dX7_joint_141
                  ·
                    refine z_iconst C (pc' := 137) dX7_joint_136 kc_1 rfl ?_
                    refine z_goto C (pc' := 141) dX7_joint_137 rfl ?_
                    exact z_ireturn C dX7_joint_141
                ·
                  refine z_lcase C (pc' := 142) dX7_joint_1 62 rfl rfl rfl (fun _ => ?_) (fun h11 => ?_)
                  ·
                    refine z_iload_n C (i := 1) (pc' := 143) dX7_joint_142 rfl rfl rfl ?_
                    refine z_iload_n C (i := 2) (pc' := 144) dX7_joint_143 rfl rfl rfl ?_
                    refine z_icmp_le C (pc' := 151) (pf := 147) dX7_joint_144 rfl rfl (fun _ => ?_) (fun _ => ?_)
                    ·
                      refine z_iconst C (pc' := 152) dX7_joint_151 kc_0 rfl ?_
                      exact z_ireturn C dX7_joint_152
                    ·
                      refine z_iconst C (pc' := 148) dX7_joint_147 kc_1 rfl ?_
                      refine z_goto C (pc' := 152) dX7_joint_148 rfl ?_
                      exact z_ireturn C dX7_joint_152
                  ·
                    refine z_lcase C (pc' := 92) dX7_joint_1 124 rfl rfl rfl (fun _ => ?_) (fun h12 => ?_)
                    ·
                      refine z_iload_n C (i := 1) (pc' := 93) dX7_joint_92 rfl rfl rfl ?_
                      refine zjoin (P := fun (f : zMem → zRs) => ∀ (u13 : zMem), zSim G p l e R s m args below meth c w 3 (znc u0) (zM w 1 (znc u0) below args s) 100 [] [] u13 (f u13)) (fun u13 => ?_) (fun k14 hk14 => ?_)
                      ·
                        refine z_iconst C (pc' := 101) dX7_joint_100 kc_1 rfl ?_
                        refine z_goto C (pc' := 105) dX7_joint_101 rfl ?_
                        exact z_ireturn C dX7_joint_105
                      ·
                        refine z_if_ne C (pc' := 100) (pf := 96) dX7_joint_93 rfl rfl (fun _ => ?_) (fun _ => ?_)
                        ·
                          exact zlocs (lb := []) trivial (hk14 _)
                        ·
                          refine z_iload_n C (i := 2) (pc' := 97) dX7_joint_96 rfl rfl rfl ?_
                          refine z_if_eq C (pc' := 104) (pf := 100) dX7_joint_97 rfl rfl (fun _ => ?_) (fun _ => ?_)
                          ·
                            refine z_iconst C (pc' := 105) dX7_joint_104 kc_0 rfl ?_
                            exact z_ireturn C dX7_joint_105
                          ·
                            exact zlocs (lb := []) trivial (hk14 _)
                    ·
                      refine z_ldef C (pc' := 189) dX7_joint_1 rfl ⟨h1, h2, h5, h6, h7, h8, h9, h10, h11, h12, trivial⟩ rfl ?_
                      refine z_iconst C (pc' := 190) dX7_joint_189 kc_0 rfl ?_
                      exact z_ireturn C dX7_joint_190
def fX7_valueOf (x0 x1 : Int) (u0 : zMem) : zRs := if x1 ≥ 10000 then (zcall (fX9_nameOf (zw32 (x1 - 10000)) u0) (fun v1 u2 => zjn (fun (u3 : zMem) => zvc 7 x0 (fX7_pop x0 u3) (fun v5 u6 => if (zw32 (x1 - 10000)) = 33 then (if v5 ≠ 0 then (some (0, u6)) else (some (1, u6))) else (if (zw32 (x1 - 10000)) = 126 then (some ((zw32 (-v5)), u6)) else (zvc 7 x0 (fX7_pop x0 u6) (fun v9 u10 => zcall (fX7_joint (zw32 (x1 - 10000)) v9 v5 u10) (fun v11 u12 => some (v11, u12))))))) (fun k4 => if v1 < 0 then (k4 u2) else (zgf 7 1 x0 u2 (fun v13 => zlen 20 v13 (fun v14 => if v1 ≥ v14 then (k4 u2) else (zgf 7 1 x0 u2 (fun v15 => zald 20 v15 v1 u2 (fun v16 => some (v16, u2)))))))))) else (some (x1, u0))
set_option maxRecDepth 100000 in
set_option maxHeartbeats 4000000 in
theorem rX7_valueOf (l : Launch) (w : zW) (x0 x1 : Int) (u0 : zMem) : zSpc l w 2 yX7_valueOf cX7_valueOf 5 (some .int) 1 [zR x0, zI x1] u0 (fX7_valueOf x0 x1 u0) := by
  refine zSpc_of (own := RX7) pnRX7 rfl (Nat.le_of_ble_eq_true rfl) (fun G p e R s m args below meth c C hini => ?_)
  unfold fX7_valueOf
  refine zlocs (lb := [(0, zR x0), (1, zI x1)]) ⟨rfl, rfl, trivial⟩ ?_
  refine z_iload_n C (i := 1) (pc' := 1) dX7_valueOf_0 rfl rfl rfl ?_
  refine z_sipush C (pc' := 4) dX7_valueOf_1 ks_10000 rfl ?_
  refine z_icmp_ge C (pc' := 9) (pf := 7) dX7_valueOf_4 rfl rfl (fun _ => ?_) (fun _ => ?_)
  ·
    refine z_iload_n C (i := 1) (pc' := 10) dX7_valueOf_9 rfl rfl rfl ?_
    refine z_sipush C (pc' := 13) dX7_valueOf_10 ks_10000 rfl ?_
    refine z_isub C (pc' := 14) dX7_valueOf_13 rfl ?_
    refine z_istore_n C (i := 2) (la' := [(2, zI (zw32 (x1 - 10000))), (0, zR x0), (1, zI x1)]) (pc' := 15) dX7_valueOf_14 rfl (by decide) rfl rfl ?_
    refine z_iload_n C (i := 2) (pc' := 16) dX7_valueOf_15 rfl rfl rfl ?_
    refine z_callS1 C (pc' := 19) lsRX7_68 lc_X9_nameOf rfl dX7_valueOf_16 rfl (by decide) (rX9_nameOf l w (zw32 (x1 - 10000)) u0) rfl (Nat.le_of_ble_eq_true rfl) (fun v1 u2 => ?_)
    refine z_istore_n C (i := 3) (la' := [(3, zI v1), (2, zI (zw32 (x1 - 10000))), (0, zR x0), (1, zI x1)]) (pc' := 20) dX7_valueOf_19 rfl (by decide) rfl rfl ?_
    refine z_iload_n C (i := 3) (pc' := 21) dX7_valueOf_20 rfl rfl rfl ?_
    refine zjoin (P := fun (f : zMem → zRs) => ∀ (u3 : zMem), zSim G p l e R s m args below meth c w 5 (znc u0) (zM w 1 (znc u0) below args s) 40 [(0, zR x0), (2, zI (zw32 (x1 - 10000)))] [] u3 (f u3)) (fun u3 => ?_) (fun k4 hk4 => ?_)
    ·
      refine z_aload_n C (i := 0) (pc' := 41) dX7_valueOf_40 rfl rfl rfl ?_
      refine z_callV1 C (pc' := 44) lvRX7_42 lc_X7_pop rfl dX7_valueOf_41 rfl (by decide) (rX7_pop l w x0 u3) rfl (Nat.le_of_ble_eq_true rfl) (fun v5 u6 => ?_)
      refine z_istore C (i := 4) (la' := [(4, zI v5), (0, zR x0), (2, zI (zw32 (x1 - 10000)))]) (pc' := 46) dX7_valueOf_44 (by decide) rfl rfl ?_
      refine z_iload_n C (i := 2) (pc' := 47) dX7_valueOf_46 rfl rfl rfl ?_
      refine z_lcase C (pc' := 72) dX7_valueOf_47 33 rfl rfl rfl (fun _ => ?_) (fun h7 => ?_)
      ·
        refine z_iload C (pc' := 74) dX7_valueOf_72 rfl rfl ?_
        refine z_if_ne C (pc' := 81) (pf := 77) dX7_valueOf_74 rfl rfl (fun _ => ?_) (fun _ => ?_)
        ·
          refine z_iconst C (pc' := 82) dX7_valueOf_81 kc_0 rfl ?_
          exact z_ireturn C dX7_valueOf_82
        ·
          refine z_iconst C (pc' := 78) dX7_valueOf_77 kc_1 rfl ?_
          refine z_goto C (pc' := 82) dX7_valueOf_78 rfl ?_
          exact z_ireturn C dX7_valueOf_82
      ·
        refine z_lcase C (pc' := 83) dX7_valueOf_47 126 rfl rfl rfl (fun _ => ?_) (fun h8 => ?_)
        ·
          refine z_iload C (pc' := 85) dX7_valueOf_83 rfl rfl ?_
          refine z_ineg C (pc' := 86) dX7_valueOf_85 rfl ?_
          exact z_ireturn C dX7_valueOf_86
        ·
          refine z_ldef C (pc' := 87) dX7_valueOf_47 rfl ⟨h7, h8, trivial⟩ rfl ?_
          refine z_iload_n C (i := 2) (pc' := 88) dX7_valueOf_87 rfl rfl rfl ?_
          refine z_aload_n C (i := 0) (pc' := 89) dX7_valueOf_88 rfl rfl rfl ?_
          refine z_callV1 C (pc' := 92) lvRX7_42 lc_X7_pop rfl dX7_valueOf_89 rfl (by decide) (rX7_pop l w x0 u6) rfl (Nat.le_of_ble_eq_true rfl) (fun v9 u10 => ?_)
          refine z_iload C (pc' := 94) dX7_valueOf_92 rfl rfl ?_
          refine z_callS1 C (pc' := 97) lsRX7_71 lc_X7_joint rfl dX7_valueOf_94 rfl (by decide) (rX7_joint l w (zw32 (x1 - 10000)) v9 v5 u10) rfl (Nat.le_of_ble_eq_true rfl) (fun v11 u12 => ?_)
          exact z_ireturn C dX7_valueOf_97
    ·
      refine z_if_lt C (pc' := 40) (pf := 24) dX7_valueOf_21 rfl rfl (fun _ => ?_) (fun _ => ?_)
      ·
        exact zlocs (lb := [(0, zR x0), (2, zI (zw32 (x1 - 10000)))]) ⟨rfl, rfl, trivial⟩ (hk4 _)
      ·
        refine z_iload_n C (i := 3) (pc' := 25) dX7_valueOf_24 rfl rfl rfl ?_
        refine z_aload_n C (i := 0) (pc' := 26) dX7_valueOf_25 rfl rfl rfl ?_
        refine z_getfR C (pc' := 29) flRX7_11 dX7_valueOf_26 rfl (fun v13 => ?_)
        refine z_alen C (kd := 20) (pc' := 30) (by decide) dX7_valueOf_29 rfl (fun v14 => ?_)
        refine z_icmp_ge C (pc' := 40) (pf := 33) dX7_valueOf_30 rfl rfl (fun _ => ?_) (fun _ => ?_)
        ·
          exact zlocs (lb := [(0, zR x0), (2, zI (zw32 (x1 - 10000)))]) ⟨rfl, rfl, trivial⟩ (hk4 _)
        ·
          refine z_aload_n C (i := 0) (pc' := 34) dX7_valueOf_33 rfl rfl rfl ?_
          refine z_getfR C (pc' := 37) flRX7_11 dX7_valueOf_34 rfl (fun v15 => ?_)
          refine z_iload_n C (i := 3) (pc' := 38) dX7_valueOf_37 rfl rfl rfl ?_
          refine z_iald C (pc' := 39) dX7_valueOf_38 rfl (fun v16 => ?_)
          exact z_ireturn C dX7_valueOf_39
  ·
    refine z_iload_n C (i := 1) (pc' := 8) dX7_valueOf_7 rfl rfl rfl ?_
    exact z_ireturn C dX7_valueOf_8
def fX7_push (x0 x1 : Int) (u0 : zMem) : zRs := zgf 7 3 x0 u0 (fun v1 => if v1 ≥ 64 then (some (0, u0)) else (zgf 7 2 x0 u0 (fun v2 => zgf 7 3 x0 u0 (fun v3 => zast 20 v2 v3 x1 u0 (fun u4 => zgf 7 3 x0 u4 (fun v5 => zpf 7 3 x0 (zw32 (v5 + 1)) u4 (fun u6 => some (0, u6))))))))
set_option maxRecDepth 100000 in
set_option maxHeartbeats 4000000 in
theorem rX7_push (l : Launch) (w : zW) (x0 x1 : Int) (u0 : zMem) : zSpc l w 1 yX7_push cX7_push 2 none 0 [zR x0, zI x1] u0 (fX7_push x0 x1 u0) := by
  refine zSpc_of (own := RX7) pnRX7 rfl (Nat.le_of_ble_eq_true rfl) (fun G p e R s m args below meth c C hini => ?_)
  unfold fX7_push
  refine zlocs (lb := [(0, zR x0), (1, zI x1)]) ⟨rfl, rfl, trivial⟩ ?_
  refine z_aload_n C (i := 0) (pc' := 1) dX7_push_0 rfl rfl rfl ?_
  refine z_getf C (pc' := 4) flRX7_28 dX7_push_1 rfl (fun v1 => ?_)
  refine z_bipush C (pc' := 6) dX7_push_4 kb_64 rfl ?_
  refine z_icmp_ge C (pc' := 29) (pf := 9) dX7_push_6 rfl rfl (fun _ => ?_) (fun _ => ?_)
  ·
    exact z_return C dX7_push_29
  ·
    refine z_aload_n C (i := 0) (pc' := 10) dX7_push_9 rfl rfl rfl ?_
    refine z_getfR C (pc' := 13) flRX7_17 dX7_push_10 rfl (fun v2 => ?_)
    refine z_aload_n C (i := 0) (pc' := 14) dX7_push_13 rfl rfl rfl ?_
    refine z_getf C (pc' := 17) flRX7_28 dX7_push_14 rfl (fun v3 => ?_)
    refine z_iload_n C (i := 1) (pc' := 18) dX7_push_17 rfl rfl rfl ?_
    refine z_iast C (pc' := 19) dX7_push_18 rfl (fun u4 => ?_)
    refine z_aload_n C (i := 0) (pc' := 20) dX7_push_19 rfl rfl rfl ?_
    refine z_dup C (pc' := 21) dX7_push_20 rfl rfl ?_
    refine z_getf C (pc' := 24) flRX7_28 dX7_push_21 rfl (fun v5 => ?_)
    refine z_iconst C (pc' := 25) dX7_push_24 kc_1 rfl ?_
    refine z_iadd C (pc' := 26) dX7_push_25 rfl ?_
    refine z_putf C (pc' := 29) flRX7_28 fn7_3 fb7_3 dX7_push_26 rfl (fun u6 => ?_)
    exact z_return C dX7_push_29
def fX7_work (x0 x1 x2 : Int) (u0 : zMem) : zRs := zvc 7 x0 (fX7_name x0 x1 x2 u0) (fun _ u1 => zpf 7 3 x0 0 u1 (fun u2 => zlp (fun _ _ _ => none) (fun k6 (v3 : Int) (v4 : Int) (u5 : zMem) => zvc 4 x1 (fX4_size x1 u5) (fun v7 u8 => if v4 ≥ v7 then (some (0, u8)) else (zvc 4 x1 (fX4_codeAt x1 v4 u8) (fun v9 u10 => zjn (fun (v11 : Int) (u12 : zMem) => k6 v11 (zw32 (v4 + 1)) u12) (fun k13 => if v3 = 0 then (if v9 ≠ 10059 then (if v9 ≠ 10063 then (zvc 7 x0 (fX7_valueOf x0 v9 u10) (fun v14 u15 => zvc 7 x0 (fX7_push x0 v14 u15) (fun _ u16 => k13 v3 u16))) else (zvc 7 x0 (fX7_pop x0 u10) (fun v17 u18 => zjn (fun (v19 : Int) (u20 : zMem) => k13 v19 u20) (fun k21 => if v17 ≠ 0 then (k21 0 u18) else (k21 1 u18))))) else (zvc 7 x0 (fX7_pop x0 u10) (fun v22 u23 => some (v22, u23)))) else (zjn (fun (v24 : Int) (u25 : zMem) => k13 v24 u25) (fun k26 => if v9 = 10059 then (k26 0 u10) else (k26 1 u10)))))))) 1000000 0 0 u2))
set_option maxRecDepth 100000 in
set_option maxHeartbeats 4000000 in
theorem rX7_work (l : Launch) (w : zW) (x0 x1 x2 : Int) (u0 : zMem) : zSpc l w 3 yX7_work cX7_work 6 (some .int) 1 [zR x0, zR x1, zI x2] u0 (fX7_work x0 x1 x2 u0) := by
  refine zSpc_of (own := RX7) pnRX7 rfl (Nat.le_of_ble_eq_true rfl) (fun G p e R s m args below meth c C hini => ?_)
  unfold fX7_work
  refine zlocs (lb := [(0, zR x0), (1, zR x1), (2, zI x2)]) ⟨rfl, rfl, rfl, trivial⟩ ?_
  refine z_aload_n C (i := 0) (pc' := 1) dX7_work_0 rfl rfl rfl ?_
  refine z_aload_n C (i := 1) (pc' := 2) dX7_work_1 rfl rfl rfl ?_
  refine z_iload_n C (i := 2) (pc' := 3) dX7_work_2 rfl rfl rfl ?_
  refine z_callV0 C (pc' := 6) lvRX7_24 lc_X7_name rfl dX7_work_3 rfl (by decide) (rX7_name l w x0 x1 x2 u0) rfl (Nat.le_of_ble_eq_true rfl) (fun _ u1 => ?_)
  refine z_aload_n C (i := 0) (pc' := 7) dX7_work_6 rfl rfl rfl ?_
  refine z_iconst C (pc' := 8) dX7_work_7 kc_0 rfl ?_
  refine z_putf C (pc' := 11) flRX7_28 fn7_3 fb7_3 dX7_work_8 rfl (fun u2 => ?_)
  refine z_iconst C (pc' := 12) dX7_work_11 kc_0 rfl ?_
  refine z_istore_n C (i := 3) (la' := [(3, zI 0), (0, zR x0), (1, zR x1), (2, zI x2)]) (pc' := 13) dX7_work_12 rfl (by decide) rfl rfl ?_
  refine z_iconst C (pc' := 14) dX7_work_13 kc_0 rfl ?_
  refine z_istore C (i := 4) (la' := [(4, zI 0), (3, zI 0), (0, zR x0), (1, zR x1), (2, zI x2)]) (pc' := 16) dX7_work_14 (by decide) rfl rfl ?_
  refine zlocs (lb := [(0, zR x0), (1, zR x1), (3, zI 0), (4, zI 0)]) ⟨rfl, rfl, rfl, rfl, trivial⟩ ?_
  refine zlp_ind (fun (f : Int → Int → zMem → zRs) => ∀ (v3 : Int) (v4 : Int) (u5 : zMem), zSim G p l e R s m args below meth c w 6 (znc u0) (zM w 1 (znc u0) below args s) 16 [(0, zR x0), (1, zR x1), (3, zI v3), (4, zI v4)] [] u5 (f v3 v4 u5)) (fun _ _ _ => znone) (fun k6 hk6 v3 v4 u5 => ?_) _ _ _ _
  refine z_iload C (pc' := 18) dX7_work_16 rfl rfl ?_
  refine z_aload_n C (i := 1) (pc' := 19) dX7_work_18 rfl rfl rfl ?_
  refine z_callV1 C (pc' := 22) lvRX7_32 lc_X4_size rfl dX7_work_19 rfl (by decide) (rX4_size l w x1 u5) rfl (Nat.le_of_ble_eq_true rfl) (fun v7 u8 => ?_)
  refine z_icmp_ge C (pc' := 107) (pf := 25) dX7_work_22 rfl rfl (fun _ => ?_) (fun _ => ?_)
  ·
    refine z_iconst C (pc' := 108) dX7_work_107 kc_0 rfl ?_
    exact z_ireturn C dX7_work_108
  ·
    refine z_aload_n C (i := 1) (pc' := 26) dX7_work_25 rfl rfl rfl ?_
    refine z_iload C (pc' := 28) dX7_work_26 rfl rfl ?_
    refine z_callV1 C (pc' := 31) lvRX7_38 lc_X4_codeAt rfl dX7_work_28 rfl (by decide) (rX4_codeAt l w x1 v4 u8) rfl (Nat.le_of_ble_eq_true rfl) (fun v9 u10 => ?_)
    refine z_istore C (i := 5) (la' := [(5, zI v9), (0, zR x0), (1, zR x1), (3, zI v3), (4, zI v4)]) (pc' := 33) dX7_work_31 (by decide) rfl rfl ?_
    refine z_iload_n C (i := 3) (pc' := 34) dX7_work_33 rfl rfl rfl ?_
    refine zjoin (P := fun (f : Int → zMem → zRs) => ∀ (v11 : Int) (u12 : zMem), zSim G p l e R s m args below meth c w 6 (znc u0) (zM w 1 (znc u0) below args s) 101 [(0, zR x0), (1, zR x1), (3, zI v11), (4, zI v4)] [] u12 (f v11 u12)) (fun v11 u12 => ?_) (fun k13 hk13 => ?_)
    ·
      refine z_iinc C (i := 4) (la' := [(4, zI (zw32 (v4 + 1))), (0, zR x0), (1, zR x1), (3, zI v11)]) (pc' := 104) dX7_work_101 rfl (by decide) rfl rfl ?_
      refine z_goto C (pc' := 16) dX7_work_104 rfl ?_
      exact zlocs (lb := [(0, zR x0), (1, zR x1), (3, zI v11), (4, zI (zw32 (v4 + 1)))]) ⟨rfl, rfl, rfl, rfl, trivial⟩ (hk6 _ _ _)
    ·
      refine z_if_eq C (pc' := 54) (pf := 37) dX7_work_34 rfl rfl (fun _ => ?_) (fun _ => ?_)
      ·
        refine z_iload C (pc' := 56) dX7_work_54 rfl rfl ?_
        refine z_sipush C (pc' := 59) dX7_work_56 ks_10059 rfl ?_
        refine z_icmp_ne C (pc' := 67) (pf := 62) dX7_work_59 rfl rfl (fun _ => ?_) (fun _ => ?_)
        ·
          refine z_iload C (pc' := 69) dX7_work_67 rfl rfl ?_
          refine z_sipush C (pc' := 72) dX7_work_69 ks_10063 rfl ?_
          refine z_icmp_ne C (pc' := 91) (pf := 75) dX7_work_72 rfl rfl (fun _ => ?_) (fun _ => ?_)
          ·
            refine z_aload_n C (i := 0) (pc' := 92) dX7_work_91 rfl rfl rfl ?_
            refine z_aload_n C (i := 0) (pc' := 93) dX7_work_92 rfl rfl rfl ?_
            refine z_iload C (pc' := 95) dX7_work_93 rfl rfl ?_
            refine z_callV1 C (pc' := 98) lvRX7_45 lc_X7_valueOf rfl dX7_work_95 rfl (by decide) (rX7_valueOf l w x0 v9 u10) rfl (Nat.le_of_ble_eq_true rfl) (fun v14 u15 => ?_)
            refine z_callV0 C (pc' := 101) lvRX7_48 lc_X7_push rfl dX7_work_98 rfl (by decide) (rX7_push l w x0 v14 u15) rfl (Nat.le_of_ble_eq_true rfl) (fun _ u16 => ?_)
            exact zlocs (lb := [(0, zR x0), (1, zR x1), (3, zI v3), (4, zI v4)]) ⟨rfl, rfl, rfl, rfl, trivial⟩ (hk13 _ _)
          ·
            refine z_aload_n C (i := 0) (pc' := 76) dX7_work_75 rfl rfl rfl ?_
            refine z_callV1 C (pc' := 79) lvRX7_42 lc_X7_pop rfl dX7_work_76 rfl (by decide) (rX7_pop l w x0 u10) rfl (Nat.le_of_ble_eq_true rfl) (fun v17 u18 => ?_)
            refine zjoin (P := fun (f : Int → zMem → zRs) => ∀ (v19 : Int) (u20 : zMem), zSim G p l e R s m args below meth c w 6 (znc u0) (zM w 1 (znc u0) below args s) 87 [(0, zR x0), (1, zR x1), (4, zI v4)] [zI v19] u20 (f v19 u20)) (fun v19 u20 => ?_) (fun k21 hk21 => ?_)
            ·
              refine z_istore_n C (i := 3) (la' := [(3, zI v19), (0, zR x0), (1, zR x1), (4, zI v4)]) (pc' := 88) dX7_work_87 rfl (by decide) rfl rfl ?_
              refine z_goto C (pc' := 101) dX7_work_88 rfl ?_
              exact zlocs (lb := [(0, zR x0), (1, zR x1), (3, zI v19), (4, zI v4)]) ⟨rfl, rfl, rfl, rfl, trivial⟩ (hk13 _ _)
            ·
              refine z_if_ne C (pc' := 86) (pf := 82) dX7_work_79 rfl rfl (fun _ => ?_) (fun _ => ?_)
              ·
                refine z_iconst C (pc' := 87) dX7_work_86 kc_0 rfl ?_
                exact zlocs (lb := [(0, zR x0), (1, zR x1), (4, zI v4)]) ⟨rfl, rfl, rfl, trivial⟩ (hk21 _ _)
              ·
                refine z_iconst C (pc' := 83) dX7_work_82 kc_1 rfl ?_
                refine z_goto C (pc' := 87) dX7_work_83 rfl ?_
                exact zlocs (lb := [(0, zR x0), (1, zR x1), (4, zI v4)]) ⟨rfl, rfl, rfl, trivial⟩ (hk21 _ _)
        ·
          refine z_aload_n C (i := 0) (pc' := 63) dX7_work_62 rfl rfl rfl ?_
          refine z_callV1 C (pc' := 66) lvRX7_42 lc_X7_pop rfl dX7_work_63 rfl (by decide) (rX7_pop l w x0 u10) rfl (Nat.le_of_ble_eq_true rfl) (fun v22 u23 => ?_)
          exact z_ireturn C dX7_work_66
      ·
        refine z_iload C (pc' := 39) dX7_work_37 rfl rfl ?_
        refine z_sipush C (pc' := 42) dX7_work_39 ks_10059 rfl ?_
        refine zjoin (P := fun (f : Int → zMem → zRs) => ∀ (v24 : Int) (u25 : zMem), zSim G p l e R s m args below meth c w 6 (znc u0) (zM w 1 (znc u0) below args s) 50 [(0, zR x0), (1, zR x1), (4, zI v4)] [zI v24] u25 (f v24 u25)) (fun v24 u25 => ?_) (fun k26 hk26 => ?_)
        ·
          refine z_istore_n C (i := 3) (la' := [(3, zI v24), (0, zR x0), (1, zR x1), (4, zI v4)]) (pc' := 51) dX7_work_50 rfl (by decide) rfl rfl ?_
          refine z_goto C (pc' := 101) dX7_work_51 rfl ?_
          exact zlocs (lb := [(0, zR x0), (1, zR x1), (3, zI v24), (4, zI v4)]) ⟨rfl, rfl, rfl, rfl, trivial⟩ (hk13 _ _)
        ·
          refine z_icmp_eq C (pc' := 49) (pf := 45) dX7_work_42 rfl rfl (fun _ => ?_) (fun _ => ?_)
          ·
            refine z_iconst C (pc' := 50) dX7_work_49 kc_0 rfl ?_
            exact zlocs (lb := [(0, zR x0), (1, zR x1), (4, zI v4)]) ⟨rfl, rfl, rfl, trivial⟩ (hk26 _ _)
          ·
            refine z_iconst C (pc' := 46) dX7_work_45 kc_1 rfl ?_
            refine z_goto C (pc' := 50) dX7_work_46 rfl ?_
            exact zlocs (lb := [(0, zR x0), (1, zR x1), (4, zI v4)]) ⟨rfl, rfl, rfl, trivial⟩ (hk26 _ _)
def fX7_init (x0 x1 : Int) (u0 : zMem) : zRs := if 0 ≤ x0 then (znar 20 8 u0 (fun v1 u2 => zpf 7 1 x0 v1 u2 (fun u3 => znar 20 64 u3 (fun v4 u5 => zpf 7 2 x0 v4 u5 (fun u6 => zpf 7 0 x0 x1 u6 (fun u7 => some (0, u7))))))) else none
set_option maxRecDepth 100000 in
set_option maxHeartbeats 4000000 in
theorem rX7_init (l : Launch) (w : zW) (x0 x1 : Int) (u0 : zMem) : zSpc l w 1 yX7_init cX7_init 2 none 0 [zR x0, zR x1] u0 (fX7_init x0 x1 u0) := by
  refine zSpc_of (own := RX7) pnRX7 rfl (Nat.le_of_ble_eq_true rfl) (fun G p e R s m args below meth c C hini => ?_)
  unfold fX7_init
  refine zlocs (lb := [(0, zR x0), (1, zR x1)]) ⟨rfl, rfl, trivial⟩ ?_
  refine z_aload_n C (i := 0) (pc' := 1) dX7_init_0 rfl rfl rfl ?_
  refine z_objinit C (pc' := 4) woRX7_5 woi woc dX7_init_1 rfl (by decide) (Nat.le_of_ble_eq_true rfl) ?_
  refine z_aload_n C (i := 0) (pc' := 5) dX7_init_4 rfl rfl rfl ?_
  refine z_bipush C (pc' := 7) dX7_init_5 kb_8 rfl ?_
  refine z_newarr C (kd := 20) (aty := .int) (pc' := 9) (by decide) rfl wy20 dX7_init_7 rfl (fun v1 u2 => ?_)
  refine z_putfRi C (pc' := 12) flRX7_11 hini rfl fb7_1 dX7_init_9 rfl (fun u3 => ?_)
  refine z_aload_n C (i := 0) (pc' := 13) dX7_init_12 rfl rfl rfl ?_
  refine z_bipush C (pc' := 15) dX7_init_13 kb_64 rfl ?_
  refine z_newarr C (kd := 20) (aty := .int) (pc' := 17) (by decide) rfl wy20 dX7_init_15 rfl (fun v4 u5 => ?_)
  refine z_putfRi C (pc' := 20) flRX7_17 hini rfl fb7_2 dX7_init_17 rfl (fun u6 => ?_)
  refine z_aload_n C (i := 0) (pc' := 21) dX7_init_20 rfl rfl rfl ?_
  refine z_aload_n C (i := 1) (pc' := 22) dX7_init_21 rfl rfl rfl ?_
  refine z_putfRi C (pc' := 25) flRX7_20 hini rfl fb7_0 dX7_init_22 rfl (fun u7 => ?_)
  exact z_return C dX7_init_25
def fX6_append (x0 x1 x2 x3 : Int) (u0 : zMem) : zRs := zgf 6 1 x0 u0 (fun v1 => if v1 < 16 then (zgf 6 0 x0 u0 (fun v2 => zald 26 v2 0 u0 (fun v3 => zgf 6 1 x0 u0 (fun v4 => zast 20 v3 v4 x1 u0 (fun u5 => zgf 6 0 x0 u5 (fun v6 => zald 26 v6 1 u5 (fun v7 => zgf 6 1 x0 u5 (fun v8 => zast 20 v7 v8 x2 u5 (fun u9 => zgf 6 0 x0 u9 (fun v10 => zald 26 v10 2 u9 (fun v11 => zgf 6 1 x0 u9 (fun v12 => zast 20 v11 v12 x3 u9 (fun u13 => zgf 6 0 x0 u13 (fun v14 => zald 26 v14 3 u13 (fun v15 => zgf 6 1 x0 u13 (fun v16 => zast 20 v15 v16 0 u13 (fun u17 => zgf 6 1 x0 u17 (fun v18 => zpf 6 1 x0 (zw32 (v18 + 1)) u17 (fun u19 => zbl 1 (some (1, u19))))))))))))))))))))) else (zbl 0 (some (0, u0))))
set_option maxRecDepth 100000 in
set_option maxHeartbeats 4000000 in
theorem rX6_append (l : Launch) (w : zW) (x0 x1 x2 x3 : Int) (u0 : zMem) : zSpc l w 1 yX6_append cX6_append 4 (some .boolean) 1 [zR x0, zI x1, zI x2, zI x3] u0 (fX6_append x0 x1 x2 x3 u0) := by
  refine zSpc_of (own := RX6) pnRX6 rfl (Nat.le_of_ble_eq_true rfl) (fun G p e R s m args below meth c C hini => ?_)
  unfold fX6_append
  refine zlocs (lb := [(0, zR x0), (1, zI x1), (2, zI x2), (3, zI x3)]) ⟨rfl, rfl, rfl, rfl, trivial⟩ ?_
  refine z_aload_n C (i := 0) (pc' := 1) dX6_append_0 rfl rfl rfl ?_
  refine z_getf C (pc' := 4) flRX6_18 dX6_append_1 rfl (fun v1 => ?_)
  refine z_bipush C (pc' := 6) dX6_append_4 kb_16 rfl ?_
  refine z_icmp_lt C (pc' := 11) (pf := 9) dX6_append_6 rfl rfl (fun _ => ?_) (fun _ => ?_)
  ·
    refine z_aload_n C (i := 0) (pc' := 12) dX6_append_11 rfl rfl rfl ?_
    refine z_getfR C (pc' := 15) flRX6_15 dX6_append_12 rfl (fun v2 => ?_)
    refine z_iconst C (pc' := 16) dX6_append_15 kc_0 rfl ?_
    refine z_aald C (pc' := 17) (by decide) dX6_append_16 rfl (fun v3 => ?_)
    refine z_aload_n C (i := 0) (pc' := 18) dX6_append_17 rfl rfl rfl ?_
    refine z_getf C (pc' := 21) flRX6_18 dX6_append_18 rfl (fun v4 => ?_)
    refine z_iload_n C (i := 1) (pc' := 22) dX6_append_21 rfl rfl rfl ?_
    refine z_iast C (pc' := 23) dX6_append_22 rfl (fun u5 => ?_)
    refine z_aload_n C (i := 0) (pc' := 24) dX6_append_23 rfl rfl rfl ?_
    refine z_getfR C (pc' := 27) flRX6_15 dX6_append_24 rfl (fun v6 => ?_)
    refine z_iconst C (pc' := 28) dX6_append_27 kc_1 rfl ?_
    refine z_aald C (pc' := 29) (by decide) dX6_append_28 rfl (fun v7 => ?_)
    refine z_aload_n C (i := 0) (pc' := 30) dX6_append_29 rfl rfl rfl ?_
    refine z_getf C (pc' := 33) flRX6_18 dX6_append_30 rfl (fun v8 => ?_)
    refine z_iload_n C (i := 2) (pc' := 34) dX6_append_33 rfl rfl rfl ?_
    refine z_iast C (pc' := 35) dX6_append_34 rfl (fun u9 => ?_)
    refine z_aload_n C (i := 0) (pc' := 36) dX6_append_35 rfl rfl rfl ?_
    refine z_getfR C (pc' := 39) flRX6_15 dX6_append_36 rfl (fun v10 => ?_)
    refine z_iconst C (pc' := 40) dX6_append_39 kc_2 rfl ?_
    refine z_aald C (pc' := 41) (by decide) dX6_append_40 rfl (fun v11 => ?_)
    refine z_aload_n C (i := 0) (pc' := 42) dX6_append_41 rfl rfl rfl ?_
    refine z_getf C (pc' := 45) flRX6_18 dX6_append_42 rfl (fun v12 => ?_)
    refine z_iload_n C (i := 3) (pc' := 46) dX6_append_45 rfl rfl rfl ?_
    refine z_iast C (pc' := 47) dX6_append_46 rfl (fun u13 => ?_)
    refine z_aload_n C (i := 0) (pc' := 48) dX6_append_47 rfl rfl rfl ?_
    refine z_getfR C (pc' := 51) flRX6_15 dX6_append_48 rfl (fun v14 => ?_)
    refine z_iconst C (pc' := 52) dX6_append_51 kc_3 rfl ?_
    refine z_aald C (pc' := 53) (by decide) dX6_append_52 rfl (fun v15 => ?_)
    refine z_aload_n C (i := 0) (pc' := 54) dX6_append_53 rfl rfl rfl ?_
    refine z_getf C (pc' := 57) flRX6_18 dX6_append_54 rfl (fun v16 => ?_)
    refine z_iconst C (pc' := 58) dX6_append_57 kc_0 rfl ?_
    refine z_iast C (pc' := 59) dX6_append_58 rfl (fun u17 => ?_)
    refine z_aload_n C (i := 0) (pc' := 60) dX6_append_59 rfl rfl rfl ?_
    refine z_dup C (pc' := 61) dX6_append_60 rfl rfl ?_
    refine z_getf C (pc' := 64) flRX6_18 dX6_append_61 rfl (fun v18 => ?_)
    refine z_iconst C (pc' := 65) dX6_append_64 kc_1 rfl ?_
    refine z_iadd C (pc' := 66) dX6_append_65 rfl ?_
    refine z_putf C (pc' := 69) flRX6_18 fn6_1 fb6_1 dX6_append_66 rfl (fun u19 => ?_)
    refine z_iconst C (pc' := 70) dX6_append_69 kc_1 rfl ?_
    exact z_zreturn C dX6_append_70
  ·
    refine z_iconst C (pc' := 10) dX6_append_9 kc_0 rfl ?_
    exact z_zreturn C dX6_append_10
def fX6_isAlike (x0 x1 x2 : Int) (u0 : zMem) : zRs := zvc 5 x0 (fX5_part x0 x1 0 u0) (fun v1 u2 => zvc 5 x0 (fX5_part x0 x2 0 u2) (fun v3 u4 => zjn (fun (u5 : zMem) => zbl 0 (some (0, u5))) (fun k6 => if v1 ≠ v3 then (k6 u4) else (zvc 5 x0 (fX5_part x0 x1 2 u4) (fun v7 u8 => zvc 5 x0 (fX5_part x0 x2 2 u8) (fun v9 u10 => if v7 ≠ v9 then (k6 u10) else (zbl 1 (some (1, u10)))))))))
set_option maxRecDepth 100000 in
set_option maxHeartbeats 4000000 in
theorem rX6_isAlike (l : Launch) (w : zW) (x0 x1 x2 : Int) (u0 : zMem) : zSpc l w 2 yX6_isAlike cX6_isAlike 3 (some .boolean) 1 [zR x0, zI x1, zI x2] u0 (fX6_isAlike x0 x1 x2 u0) := by
  refine zSpc_of (own := RX6) pnRX6 rfl (Nat.le_of_ble_eq_true rfl) (fun G p e R s m args below meth c C hini => ?_)
  unfold fX6_isAlike
  refine zlocs (lb := [(0, zR x0), (1, zI x1), (2, zI x2)]) ⟨rfl, rfl, rfl, trivial⟩ ?_
  refine z_aload_n C (i := 0) (pc' := 1) dX6_isAlike_0 rfl rfl rfl ?_
  refine z_iload_n C (i := 1) (pc' := 2) dX6_isAlike_1 rfl rfl rfl ?_
  refine z_iconst C (pc' := 3) dX6_isAlike_2 kc_0 rfl ?_
  refine z_callV1 C (pc' := 6) lvRX6_62 lc_X5_part rfl dX6_isAlike_3 rfl (by decide) (rX5_part l w x0 x1 0 u0) rfl (Nat.le_of_ble_eq_true rfl) (fun v1 u2 => ?_)
  refine z_aload_n C (i := 0) (pc' := 7) dX6_isAlike_6 rfl rfl rfl ?_
  refine z_iload_n C (i := 2) (pc' := 8) dX6_isAlike_7 rfl rfl rfl ?_
  refine z_iconst C (pc' := 9) dX6_isAlike_8 kc_0 rfl ?_
  refine z_callV1 C (pc' := 12) lvRX6_62 lc_X5_part rfl dX6_isAlike_9 rfl (by decide) (rX5_part l w x0 x2 0 u2) rfl (Nat.le_of_ble_eq_true rfl) (fun v3 u4 => ?_)
  refine zjoin (P := fun (f : zMem → zRs) => ∀ (u5 : zMem), zSim G p l e R s m args below meth c w 3 (znc u0) (zM w 1 (znc u0) below args s) 34 [] [] u5 (f u5)) (fun u5 => ?_) (fun k6 hk6 => ?_)
  ·
    refine z_iconst C (pc' := 35) dX6_isAlike_34 kc_0 rfl ?_
    exact z_zreturn C dX6_isAlike_35
  ·
    refine z_icmp_ne C (pc' := 34) (pf := 15) dX6_isAlike_12 rfl rfl (fun _ => ?_) (fun _ => ?_)
    ·
      exact zlocs (lb := []) trivial (hk6 _)
    ·
      refine z_aload_n C (i := 0) (pc' := 16) dX6_isAlike_15 rfl rfl rfl ?_
      refine z_iload_n C (i := 1) (pc' := 17) dX6_isAlike_16 rfl rfl rfl ?_
      refine z_iconst C (pc' := 18) dX6_isAlike_17 kc_2 rfl ?_
      refine z_callV1 C (pc' := 21) lvRX6_62 lc_X5_part rfl dX6_isAlike_18 rfl (by decide) (rX5_part l w x0 x1 2 u4) rfl (Nat.le_of_ble_eq_true rfl) (fun v7 u8 => ?_)
      refine z_aload_n C (i := 0) (pc' := 22) dX6_isAlike_21 rfl rfl rfl ?_
      refine z_iload_n C (i := 2) (pc' := 23) dX6_isAlike_22 rfl rfl rfl ?_
      refine z_iconst C (pc' := 24) dX6_isAlike_23 kc_2 rfl ?_
      refine z_callV1 C (pc' := 27) lvRX6_62 lc_X5_part rfl dX6_isAlike_24 rfl (by decide) (rX5_part l w x0 x2 2 u8) rfl (Nat.le_of_ble_eq_true rfl) (fun v9 u10 => ?_)
      refine z_icmp_ne C (pc' := 34) (pf := 30) dX6_isAlike_27 rfl rfl (fun _ => ?_) (fun _ => ?_)
      ·
        exact zlocs (lb := []) trivial (hk6 _)
      ·
        refine z_iconst C (pc' := 31) dX6_isAlike_30 kc_1 rfl ?_
        refine z_goto C (pc' := 35) dX6_isAlike_31 rfl ?_
        exact z_zreturn C dX6_isAlike_35
def fX6_move (x0 x1 x2 : Int) (u0 : zMem) : zRs := zvc 6 x0 (fX6_hasPlace x0 x1 u0) (fun v1 u2 => if v1 = 0 then (some (0, u2)) else (zvc 6 x0 (fX6_hasPlace x0 x2 u2) (fun v3 u4 => if v3 ≠ 0 then (zgf 6 0 x0 u4 (fun v5 => zlen 26 v5 (fun v6 => zlp (fun _ _ => none) (fun k9 (v7 : Int) (u8 : zMem) => if v7 ≥ v6 then (some (0, u8)) else (zald 26 v5 v7 u8 (fun v10 => zald 20 v10 x1 u8 (fun v11 => zjn (fun (u12 : zMem) => zast 20 v10 x2 v11 u12 (fun u14 => k9 (zw32 (v7 + 1)) u14)) (fun k13 => if x1 ≥ x2 then (zcopy 20 v10 x2 v10 (zw32 (x2 + 1)) (zw32 (x1 - x2)) u8 (fun u15 => k13 u15)) else (zcopy 20 v10 (zw32 (x1 + 1)) v10 x1 (zw32 (x2 - x1)) u8 (fun u16 => k13 u16))))))) 1000000 0 u4))) else (some (0, u4)))))
set_option maxRecDepth 100000 in
set_option maxHeartbeats 4000000 in
theorem rX6_move (l : Launch) (w : zW) (x0 x1 x2 : Int) (u0 : zMem) : zSpc l w 2 yX6_move cX6_move 8 none 0 [zR x0, zI x1, zI x2] u0 (fX6_move x0 x1 x2 u0) := by
  refine zSpc_of (own := RX6) pnRX6 rfl (Nat.le_of_ble_eq_true rfl) (fun G p e R s m args below meth c C hini => ?_)
  unfold fX6_move
  refine zlocs (lb := [(0, zR x0), (1, zI x1), (2, zI x2)]) ⟨rfl, rfl, rfl, trivial⟩ ?_
  refine z_aload_n C (i := 0) (pc' := 1) dX6_move_0 rfl rfl rfl ?_
  refine z_iload_n C (i := 1) (pc' := 2) dX6_move_1 rfl rfl rfl ?_
  refine z_callV1 C (pc' := 5) lvRX6_25 lc_X6_hasPlace rfl dX6_move_2 rfl (by decide) (rX6_hasPlace l w x0 x1 u0) rfl (Nat.le_of_ble_eq_true rfl) (fun v1 u2 => ?_)
  refine z_if_eq C (pc' := 16) (pf := 8) dX6_move_5 rfl rfl (fun _ => ?_) (fun _ => ?_)
  ·
    exact z_return C dX6_move_16
  ·
    refine z_aload_n C (i := 0) (pc' := 9) dX6_move_8 rfl rfl rfl ?_
    refine z_iload_n C (i := 2) (pc' := 10) dX6_move_9 rfl rfl rfl ?_
    refine z_callV1 C (pc' := 13) lvRX6_25 lc_X6_hasPlace rfl dX6_move_10 rfl (by decide) (rX6_hasPlace l w x0 x2 u2) rfl (Nat.le_of_ble_eq_true rfl) (fun v3 u4 => ?_)
    refine z_if_ne C (pc' := 17) (pf := 16) dX6_move_13 rfl rfl (fun _ => ?_) (fun _ => ?_)
    ·
      refine z_aload_n C (i := 0) (pc' := 18) dX6_move_17 rfl rfl rfl ?_
      refine z_getfR C (pc' := 21) flRX6_15 dX6_move_18 rfl (fun v5 => ?_)
      refine z_astore_n C (i := 3) (la' := [(3, zR v5), (0, zR x0), (1, zI x1), (2, zI x2)]) (pc' := 22) dX6_move_21 rfl (by decide) rfl rfl ?_
      refine z_aload_n C (i := 3) (pc' := 23) dX6_move_22 rfl rfl rfl ?_
      refine z_alen C (kd := 26) (pc' := 24) (by decide) dX6_move_23 rfl (fun v6 => ?_)
      refine z_istore C (i := 4) (la' := [(4, zI v6), (3, zR v5), (0, zR x0), (1, zI x1), (2, zI x2)]) (pc' := 26) dX6_move_24 (by decide) rfl rfl ?_
      refine z_iconst C (pc' := 27) dX6_move_26 kc_0 rfl ?_
      refine z_istore C (i := 5) (la' := [(5, zI 0), (4, zI v6), (3, zR v5), (0, zR x0), (1, zI x1), (2, zI x2)]) (pc' := 29) dX6_move_27 (by decide) rfl rfl ?_
      refine zlocs (lb := [(1, zI x1), (2, zI x2), (3, zR v5), (4, zI v6), (5, zI 0)]) ⟨rfl, rfl, rfl, rfl, rfl, trivial⟩ ?_
      refine zlp_ind (fun (f : Int → zMem → zRs) => ∀ (v7 : Int) (u8 : zMem), zSim G p l e R s m args below meth c w 8 (znc u0) (zM w 0 (znc u0) below args s) 29 [(1, zI x1), (2, zI x2), (3, zR v5), (4, zI v6), (5, zI v7)] [] u8 (f v7 u8)) (fun _ _ => znone) (fun k9 hk9 v7 u8 => ?_) _ _ _
      refine z_iload C (pc' := 31) dX6_move_29 rfl rfl ?_
      refine z_iload C (pc' := 33) dX6_move_31 rfl rfl ?_
      refine z_icmp_ge C (pc' := 96) (pf := 36) dX6_move_33 rfl rfl (fun _ => ?_) (fun _ => ?_)
      ·
        exact z_return C dX6_move_96
      ·
        refine z_aload_n C (i := 3) (pc' := 37) dX6_move_36 rfl rfl rfl ?_
        refine z_iload C (pc' := 39) dX6_move_37 rfl rfl ?_
        refine z_aald C (pc' := 40) (by decide) dX6_move_39 rfl (fun v10 => ?_)
        refine z_astore C (i := 6) (la' := [(6, zR v10), (1, zI x1), (2, zI x2), (3, zR v5), (4, zI v6), (5, zI v7)]) (pc' := 42) dX6_move_40 (by decide) rfl rfl ?_
        refine z_aload C (pc' := 44) dX6_move_42 rfl rfl ?_
        refine z_iload_n C (i := 1) (pc' := 45) dX6_move_44 rfl rfl rfl ?_
        refine z_iald C (pc' := 46) dX6_move_45 rfl (fun v11 => ?_)
        refine z_istore C (i := 7) (la' := [(7, zI v11), (6, zR v10), (1, zI x1), (2, zI x2), (3, zR v5), (4, zI v6), (5, zI v7)]) (pc' := 48) dX6_move_46 (by decide) rfl rfl ?_
        refine z_iload_n C (i := 1) (pc' := 49) dX6_move_48 rfl rfl rfl ?_
        refine z_iload_n C (i := 2) (pc' := 50) dX6_move_49 rfl rfl rfl ?_
        refine zjoin (P := fun (f : zMem → zRs) => ∀ (u12 : zMem), zSim G p l e R s m args below meth c w 8 (znc u0) (zM w 0 (znc u0) below args s) 84 [(1, zI x1), (2, zI x2), (3, zR v5), (4, zI v6), (5, zI v7), (6, zR v10), (7, zI v11)] [] u12 (f u12)) (fun u12 => ?_) (fun k13 hk13 => ?_)
        ·
          refine z_aload C (pc' := 86) dX6_move_84 rfl rfl ?_
          refine z_iload_n C (i := 2) (pc' := 87) dX6_move_86 rfl rfl rfl ?_
          refine z_iload C (pc' := 89) dX6_move_87 rfl rfl ?_
          refine z_iast C (pc' := 90) dX6_move_89 rfl (fun u14 => ?_)
          refine z_iinc C (i := 5) (la' := [(5, zI (zw32 (v7 + 1))), (1, zI x1), (2, zI x2), (3, zR v5), (4, zI v6), (6, zR v10), (7, zI v11)]) (pc' := 93) dX6_move_90 rfl (by decide) rfl rfl ?_
          refine z_goto C (pc' := 29) dX6_move_93 rfl ?_
          exact zlocs (lb := [(1, zI x1), (2, zI x2), (3, zR v5), (4, zI v6), (5, zI (zw32 (v7 + 1)))]) ⟨rfl, rfl, rfl, rfl, rfl, trivial⟩ (hk9 _ _)
        ·
          refine z_icmp_ge C (pc' := 70) (pf := 53) dX6_move_50 rfl rfl (fun _ => ?_) (fun _ => ?_)
          ·
            refine z_aload C (pc' := 72) dX6_move_70 rfl rfl ?_
            refine z_iload_n C (i := 2) (pc' := 73) dX6_move_72 rfl rfl rfl ?_
            refine z_aload C (pc' := 75) dX6_move_73 rfl rfl ?_
            refine z_iload_n C (i := 2) (pc' := 76) dX6_move_75 rfl rfl rfl ?_
            refine z_iconst C (pc' := 77) dX6_move_76 kc_1 rfl ?_
            refine z_iadd C (pc' := 78) dX6_move_77 rfl ?_
            refine z_iload_n C (i := 1) (pc' := 79) dX6_move_78 rfl rfl rfl ?_
            refine z_iload_n C (i := 2) (pc' := 80) dX6_move_79 rfl rfl rfl ?_
            refine z_isub C (pc' := 81) dX6_move_80 rfl ?_
            refine z_copy C (kd := 20) (pc' := 84) (by decide) waRX6_33 wacn wacs wsys dX6_move_81 rfl (by decide) (Nat.le_of_ble_eq_true rfl) (fun u15 => ?_)
            exact zlocs (lb := [(1, zI x1), (2, zI x2), (3, zR v5), (4, zI v6), (5, zI v7), (6, zR v10), (7, zI v11)]) ⟨rfl, rfl, rfl, rfl, rfl, rfl, rfl, trivial⟩ (hk13 _)
          ·
            refine z_aload C (pc' := 55) dX6_move_53 rfl rfl ?_
            refine z_iload_n C (i := 1) (pc' := 56) dX6_move_55 rfl rfl rfl ?_
            refine z_iconst C (pc' := 57) dX6_move_56 kc_1 rfl ?_
            refine z_iadd C (pc' := 58) dX6_move_57 rfl ?_
            refine z_aload C (pc' := 60) dX6_move_58 rfl rfl ?_
            refine z_iload_n C (i := 1) (pc' := 61) dX6_move_60 rfl rfl rfl ?_
            refine z_iload_n C (i := 2) (pc' := 62) dX6_move_61 rfl rfl rfl ?_
            refine z_iload_n C (i := 1) (pc' := 63) dX6_move_62 rfl rfl rfl ?_
            refine z_isub C (pc' := 64) dX6_move_63 rfl ?_
            refine z_copy C (kd := 20) (pc' := 67) (by decide) waRX6_33 wacn wacs wsys dX6_move_64 rfl (by decide) (Nat.le_of_ble_eq_true rfl) (fun u16 => ?_)
            refine z_goto C (pc' := 84) dX6_move_67 rfl ?_
            exact zlocs (lb := [(1, zI x1), (2, zI x2), (3, zR v5), (4, zI v6), (5, zI v7), (6, zR v10), (7, zI v11)]) ⟨rfl, rfl, rfl, rfl, rfl, rfl, rfl, trivial⟩ (hk13 _)
    ·
      exact z_return C dX6_move_16
def fX6_drop (x0 x1 : Int) (u0 : zMem) : zRs := zvc 6 x0 (fX6_hasPlace x0 x1 u0) (fun v1 u2 => if v1 = 0 then (some (0, u2)) else (zgf 6 1 x0 u2 (fun v3 => zvc 6 x0 (fX6_move x0 x1 (zw32 (v3 - 1)) u2) (fun _ u4 => zgf 6 1 x0 u4 (fun v5 => zpf 6 1 x0 (zw32 (v5 - 1)) u4 (fun u6 => some (0, u6)))))))
set_option maxRecDepth 100000 in
set_option maxHeartbeats 4000000 in
theorem rX6_drop (l : Launch) (w : zW) (x0 x1 : Int) (u0 : zMem) : zSpc l w 3 yX6_drop cX6_drop 2 none 0 [zR x0, zI x1] u0 (fX6_drop x0 x1 u0) := by
  refine zSpc_of (own := RX6) pnRX6 rfl (Nat.le_of_ble_eq_true rfl) (fun G p e R s m args below meth c C hini => ?_)
  unfold fX6_drop
  refine zlocs (lb := [(0, zR x0), (1, zI x1)]) ⟨rfl, rfl, trivial⟩ ?_
  refine z_aload_n C (i := 0) (pc' := 1) dX6_drop_0 rfl rfl rfl ?_
  refine z_iload_n C (i := 1) (pc' := 2) dX6_drop_1 rfl rfl rfl ?_
  refine z_callV1 C (pc' := 5) lvRX6_25 lc_X6_hasPlace rfl dX6_drop_2 rfl (by decide) (rX6_hasPlace l w x0 x1 u0) rfl (Nat.le_of_ble_eq_true rfl) (fun v1 u2 => ?_)
  refine z_if_eq C (pc' := 29) (pf := 8) dX6_drop_5 rfl rfl (fun _ => ?_) (fun _ => ?_)
  ·
    exact z_return C dX6_drop_29
  ·
    refine z_aload_n C (i := 0) (pc' := 9) dX6_drop_8 rfl rfl rfl ?_
    refine z_iload_n C (i := 1) (pc' := 10) dX6_drop_9 rfl rfl rfl ?_
    refine z_aload_n C (i := 0) (pc' := 11) dX6_drop_10 rfl rfl rfl ?_
    refine z_getf C (pc' := 14) flRX6_18 dX6_drop_11 rfl (fun v3 => ?_)
    refine z_iconst C (pc' := 15) dX6_drop_14 kc_1 rfl ?_
    refine z_isub C (pc' := 16) dX6_drop_15 rfl ?_
    refine z_callV0 C (pc' := 19) lvRX6_29 lc_X6_move rfl dX6_drop_16 rfl (by decide) (rX6_move l w x0 x1 (zw32 (v3 - 1)) u2) rfl (Nat.le_of_ble_eq_true rfl) (fun _ u4 => ?_)
    refine z_aload_n C (i := 0) (pc' := 20) dX6_drop_19 rfl rfl rfl ?_
    refine z_dup C (pc' := 21) dX6_drop_20 rfl rfl ?_
    refine z_getf C (pc' := 24) flRX6_18 dX6_drop_21 rfl (fun v5 => ?_)
    refine z_iconst C (pc' := 25) dX6_drop_24 kc_1 rfl ?_
    refine z_isub C (pc' := 26) dX6_drop_25 rfl ?_
    refine z_putf C (pc' := 29) flRX6_18 fn6_1 fb6_1 dX6_drop_26 rfl (fun u6 => ?_)
    exact z_return C dX6_drop_29
def fX6_join (x0 x1 : Int) (u0 : zMem) : zRs := zgf 6 1 x0 u0 (fun v1 => zlp (fun _ _ => none) (fun k4 (v2 : Int) (u3 : zMem) => if v2 < 0 then (some (0, u3)) else (zgf 6 0 x0 u3 (fun v5 => zald 26 v5 0 u3 (fun v6 => zald 20 v6 v2 u3 (fun v7 => zgf 6 0 x0 u3 (fun v8 => zald 26 v8 0 u3 (fun v9 => zald 20 v9 (zw32 (v2 + 1)) u3 (fun v10 => zcall (fX6_isAlike x1 v7 v10 u3) (fun v11 u12 => zjn (fun (u13 : zMem) => k4 (zw32 (v2 + (-1))) u13) (fun k14 => if v11 = 0 then (k14 u12) else (zgf 6 0 x0 u12 (fun v15 => zald 26 v15 2 u12 (fun v16 => zald 20 v16 v2 u12 (fun v17 => zgf 6 0 x0 u12 (fun v18 => zald 26 v18 2 u12 (fun v19 => zald 20 v19 (zw32 (v2 + 1)) u12 (fun v20 => zast 20 v16 v2 (zw32 (v17 + v20)) u12 (fun u21 => zvc 6 x0 (fX6_drop x0 (zw32 (v2 + 1)) u21) (fun _ u22 => k14 u22))))))))))))))))))) 1000000 (zw32 (v1 - 2)) u0)
set_option maxRecDepth 100000 in
set_option maxHeartbeats 4000000 in
theorem rX6_join (l : Launch) (w : zW) (x0 x1 : Int) (u0 : zMem) : zSpc l w 4 yX6_join cX6_join 3 none 0 [zR x0, zR x1] u0 (fX6_join x0 x1 u0) := by
  refine zSpc_of (own := RX6) pnRX6 rfl (Nat.le_of_ble_eq_true rfl) (fun G p e R s m args below meth c C hini => ?_)
  unfold fX6_join
  refine zlocs (lb := [(0, zR x0), (1, zR x1)]) ⟨rfl, rfl, trivial⟩ ?_
  refine z_aload_n C (i := 0) (pc' := 1) dX6_join_0 rfl rfl rfl ?_
  refine z_getf C (pc' := 4) flRX6_18 dX6_join_1 rfl (fun v1 => ?_)
  refine z_iconst C (pc' := 5) dX6_join_4 kc_2 rfl ?_
  refine z_isub C (pc' := 6) dX6_join_5 rfl ?_
  refine z_istore_n C (i := 2) (la' := [(2, zI (zw32 (v1 - 2))), (0, zR x0), (1, zR x1)]) (pc' := 7) dX6_join_6 rfl (by decide) rfl rfl ?_
  refine zlocs (lb := [(0, zR x0), (1, zR x1), (2, zI (zw32 (v1 - 2)))]) ⟨rfl, rfl, rfl, trivial⟩ ?_
  refine zlp_ind (fun (f : Int → zMem → zRs) => ∀ (v2 : Int) (u3 : zMem), zSim G p l e R s m args below meth c w 3 (znc u0) (zM w 0 (znc u0) below args s) 7 [(0, zR x0), (1, zR x1), (2, zI v2)] [] u3 (f v2 u3)) (fun _ _ => znone) (fun k4 hk4 v2 u3 => ?_) _ _ _
  refine z_iload_n C (i := 2) (pc' := 8) dX6_join_7 rfl rfl rfl ?_
  refine z_if_lt C (pc' := 70) (pf := 11) dX6_join_8 rfl rfl (fun _ => ?_) (fun _ => ?_)
  ·
    exact z_return C dX6_join_70
  ·
    refine z_aload_n C (i := 1) (pc' := 12) dX6_join_11 rfl rfl rfl ?_
    refine z_aload_n C (i := 0) (pc' := 13) dX6_join_12 rfl rfl rfl ?_
    refine z_getfR C (pc' := 16) flRX6_15 dX6_join_13 rfl (fun v5 => ?_)
    refine z_iconst C (pc' := 17) dX6_join_16 kc_0 rfl ?_
    refine z_aald C (pc' := 18) (by decide) dX6_join_17 rfl (fun v6 => ?_)
    refine z_iload_n C (i := 2) (pc' := 19) dX6_join_18 rfl rfl rfl ?_
    refine z_iald C (pc' := 20) dX6_join_19 rfl (fun v7 => ?_)
    refine z_aload_n C (i := 0) (pc' := 21) dX6_join_20 rfl rfl rfl ?_
    refine z_getfR C (pc' := 24) flRX6_15 dX6_join_21 rfl (fun v8 => ?_)
    refine z_iconst C (pc' := 25) dX6_join_24 kc_0 rfl ?_
    refine z_aald C (pc' := 26) (by decide) dX6_join_25 rfl (fun v9 => ?_)
    refine z_iload_n C (i := 2) (pc' := 27) dX6_join_26 rfl rfl rfl ?_
    refine z_iconst C (pc' := 28) dX6_join_27 kc_1 rfl ?_
    refine z_iadd C (pc' := 29) dX6_join_28 rfl ?_
    refine z_iald C (pc' := 30) dX6_join_29 rfl (fun v10 => ?_)
    refine z_callS1 C (pc' := 33) lsRX6_54 lc_X6_isAlike rfl dX6_join_30 rfl (by decide) (rX6_isAlike l w x1 v7 v10 u3) rfl (Nat.le_of_ble_eq_true rfl) (fun v11 u12 => ?_)
    refine zjoin (P := fun (f : zMem → zRs) => ∀ (u13 : zMem), zSim G p l e R s m args below meth c w 3 (znc u0) (zM w 0 (znc u0) below args s) 64 [(0, zR x0), (1, zR x1), (2, zI v2)] [] u13 (f u13)) (fun u13 => ?_) (fun k14 hk14 => ?_)
    ·
      refine z_iinc C (i := 2) (la' := [(2, zI (zw32 (v2 + (-1)))), (0, zR x0), (1, zR x1)]) (pc' := 67) dX6_join_64 rfl (by decide) rfl rfl ?_
      refine z_goto C (pc' := 7) dX6_join_67 rfl ?_
      exact zlocs (lb := [(0, zR x0), (1, zR x1), (2, zI (zw32 (v2 + (-1))))]) ⟨rfl, rfl, rfl, trivial⟩ (hk4 _ _)
    ·
      refine z_if_eq C (pc' := 64) (pf := 36) dX6_join_33 rfl rfl (fun _ => ?_) (fun _ => ?_)
      ·
        exact zlocs (lb := [(0, zR x0), (1, zR x1), (2, zI v2)]) ⟨rfl, rfl, rfl, trivial⟩ (hk14 _)
      ·
        refine z_aload_n C (i := 0) (pc' := 37) dX6_join_36 rfl rfl rfl ?_
        refine z_getfR C (pc' := 40) flRX6_15 dX6_join_37 rfl (fun v15 => ?_)
        refine z_iconst C (pc' := 41) dX6_join_40 kc_2 rfl ?_
        refine z_aald C (pc' := 42) (by decide) dX6_join_41 rfl (fun v16 => ?_)
        refine z_iload_n C (i := 2) (pc' := 43) dX6_join_42 rfl rfl rfl ?_
        refine z_dup2 C (pc' := 44) dX6_join_43 rfl rfl rfl ?_
        refine z_iald C (pc' := 45) dX6_join_44 rfl (fun v17 => ?_)
        refine z_aload_n C (i := 0) (pc' := 46) dX6_join_45 rfl rfl rfl ?_
        refine z_getfR C (pc' := 49) flRX6_15 dX6_join_46 rfl (fun v18 => ?_)
        refine z_iconst C (pc' := 50) dX6_join_49 kc_2 rfl ?_
        refine z_aald C (pc' := 51) (by decide) dX6_join_50 rfl (fun v19 => ?_)
        refine z_iload_n C (i := 2) (pc' := 52) dX6_join_51 rfl rfl rfl ?_
        refine z_iconst C (pc' := 53) dX6_join_52 kc_1 rfl ?_
        refine z_iadd C (pc' := 54) dX6_join_53 rfl ?_
        refine z_iald C (pc' := 55) dX6_join_54 rfl (fun v20 => ?_)
        refine z_iadd C (pc' := 56) dX6_join_55 rfl ?_
        refine z_iast C (pc' := 57) dX6_join_56 rfl (fun u21 => ?_)
        refine z_aload_n C (i := 0) (pc' := 58) dX6_join_57 rfl rfl rfl ?_
        refine z_iload_n C (i := 2) (pc' := 59) dX6_join_58 rfl rfl rfl ?_
        refine z_iconst C (pc' := 60) dX6_join_59 kc_1 rfl ?_
        refine z_iadd C (pc' := 61) dX6_join_60 rfl ?_
        refine z_callV0 C (pc' := 64) lvRX6_58 lc_X6_drop rfl dX6_join_61 rfl (by decide) (rX6_drop l w x0 (zw32 (v2 + 1)) u21) rfl (Nat.le_of_ble_eq_true rfl) (fun _ u22 => ?_)
        exact zlocs (lb := [(0, zR x0), (1, zR x1), (2, zI v2)]) ⟨rfl, rfl, rfl, trivial⟩ (hk14 _)
def fX6_soften (x0 : Int) (u0 : zMem) : zRs := zlp (fun _ _ => none) (fun k3 (v1 : Int) (u2 : zMem) => zgf 6 1 x0 u2 (fun v4 => if v1 ≥ v4 then (some (0, u2)) else (zgf 6 0 x0 u2 (fun v5 => zald 26 v5 1 u2 (fun v6 => zald 20 v6 v1 u2 (fun v7 => zjn (fun (u8 : zMem) => k3 (zw32 (v1 + 1)) u8) (fun k9 => if v7 ≠ 2 then (k9 u2) else (zgf 6 0 x0 u2 (fun v10 => zald 26 v10 1 u2 (fun v11 => zast 20 v11 v1 0 u2 (fun u12 => k9 u12))))))))))) 1000000 0 u0
set_option maxRecDepth 100000 in
set_option maxHeartbeats 4000000 in
theorem rX6_soften (l : Launch) (w : zW) (x0 : Int) (u0 : zMem) : zSpc l w 1 yX6_soften cX6_soften 2 none 0 [zR x0] u0 (fX6_soften x0 u0) := by
  refine zSpc_of (own := RX6) pnRX6 rfl (Nat.le_of_ble_eq_true rfl) (fun G p e R s m args below meth c C hini => ?_)
  unfold fX6_soften
  refine zlocs (lb := [(0, zR x0)]) ⟨rfl, trivial⟩ ?_
  refine z_iconst C (pc' := 1) dX6_soften_0 kc_0 rfl ?_
  refine z_istore_n C (i := 1) (la' := [(1, zI 0), (0, zR x0)]) (pc' := 2) dX6_soften_1 rfl (by decide) rfl rfl ?_
  refine zlocs (lb := [(0, zR x0), (1, zI 0)]) ⟨rfl, rfl, trivial⟩ ?_
  refine zlp_ind (fun (f : Int → zMem → zRs) => ∀ (v1 : Int) (u2 : zMem), zSim G p l e R s m args below meth c w 2 (znc u0) (zM w 0 (znc u0) below args s) 2 [(0, zR x0), (1, zI v1)] [] u2 (f v1 u2)) (fun _ _ => znone) (fun k3 hk3 v1 u2 => ?_) _ _ _
  refine z_iload_n C (i := 1) (pc' := 3) dX6_soften_2 rfl rfl rfl ?_
  refine z_aload_n C (i := 0) (pc' := 4) dX6_soften_3 rfl rfl rfl ?_
  refine z_getf C (pc' := 7) flRX6_18 dX6_soften_4 rfl (fun v4 => ?_)
  refine z_icmp_ge C (pc' := 37) (pf := 10) dX6_soften_7 rfl rfl (fun _ => ?_) (fun _ => ?_)
  ·
    exact z_return C dX6_soften_37
  ·
    refine z_aload_n C (i := 0) (pc' := 11) dX6_soften_10 rfl rfl rfl ?_
    refine z_getfR C (pc' := 14) flRX6_15 dX6_soften_11 rfl (fun v5 => ?_)
    refine z_iconst C (pc' := 15) dX6_soften_14 kc_1 rfl ?_
    refine z_aald C (pc' := 16) (by decide) dX6_soften_15 rfl (fun v6 => ?_)
    refine z_iload_n C (i := 1) (pc' := 17) dX6_soften_16 rfl rfl rfl ?_
    refine z_iald C (pc' := 18) dX6_soften_17 rfl (fun v7 => ?_)
    refine z_iconst C (pc' := 19) dX6_soften_18 kc_2 rfl ?_
    refine zjoin (P := fun (f : zMem → zRs) => ∀ (u8 : zMem), zSim G p l e R s m args below meth c w 2 (znc u0) (zM w 0 (znc u0) below args s) 31 [(0, zR x0), (1, zI v1)] [] u8 (f u8)) (fun u8 => ?_) (fun k9 hk9 => ?_)
    ·
      refine z_iinc C (i := 1) (la' := [(1, zI (zw32 (v1 + 1))), (0, zR x0)]) (pc' := 34) dX6_soften_31 rfl (by decide) rfl rfl ?_
      refine z_goto C (pc' := 2) dX6_soften_34 rfl ?_
      exact zlocs (lb := [(0, zR x0), (1, zI (zw32 (v1 + 1)))]) ⟨rfl, rfl, trivial⟩ (hk3 _ _)
    ·
      refine z_icmp_ne C (pc' := 31) (pf := 22) dX6_soften_19 rfl rfl (fun _ => ?_) (fun _ => ?_)
      ·
        exact zlocs (lb := [(0, zR x0), (1, zI v1)]) ⟨rfl, rfl, trivial⟩ (hk9 _)
      ·
        refine z_aload_n C (i := 0) (pc' := 23) dX6_soften_22 rfl rfl rfl ?_
        refine z_getfR C (pc' := 26) flRX6_15 dX6_soften_23 rfl (fun v10 => ?_)
        refine z_iconst C (pc' := 27) dX6_soften_26 kc_1 rfl ?_
        refine z_aald C (pc' := 28) (by decide) dX6_soften_27 rfl (fun v11 => ?_)
        refine z_iload_n C (i := 1) (pc' := 29) dX6_soften_28 rfl rfl rfl ?_
        refine z_iconst C (pc' := 30) dX6_soften_29 kc_0 rfl ?_
        refine z_iast C (pc' := 31) dX6_soften_30 rfl (fun u12 => ?_)
        exact zlocs (lb := [(0, zR x0), (1, zI v1)]) ⟨rfl, rfl, trivial⟩ (hk9 _)
def fX6_decisionsLast (x0 : Int) (u0 : zMem) : zRs := zlp (fun _ _ _ => none) (fun k4 (v1 : Int) (v2 : Int) (u3 : zMem) => zgf 6 1 x0 u3 (fun v5 => if v2 ≥ v5 then (some (0, u3)) else (zvc 6 x0 (fX6_part x0 v1 1 u3) (fun v6 u7 => zjn (fun (v8 : Int) (u9 : zMem) => k4 v8 (zw32 (v2 + 1)) u9) (fun k10 => if v6 ≠ 3 then (k10 (zw32 (v1 + 1)) u7) else (zgf 6 1 x0 u7 (fun v11 => zvc 6 x0 (fX6_move x0 v1 (zw32 (v11 - 1)) u7) (fun _ u12 => k10 v1 u12)))))))) 1000000 0 0 u0
set_option maxRecDepth 100000 in
set_option maxHeartbeats 4000000 in
theorem rX6_decisionsLast (l : Launch) (w : zW) (x0 : Int) (u0 : zMem) : zSpc l w 3 yX6_decisionsLast cX6_decisionsLast 3 none 0 [zR x0] u0 (fX6_decisionsLast x0 u0) := by
  refine zSpc_of (own := RX6) pnRX6 rfl (Nat.le_of_ble_eq_true rfl) (fun G p e R s m args below meth c C hini => ?_)
  unfold fX6_decisionsLast
  refine zlocs (lb := [(0, zR x0)]) ⟨rfl, trivial⟩ ?_
  refine z_iconst C (pc' := 1) dX6_decisionsLast_0 kc_0 rfl ?_
  refine z_istore_n C (i := 1) (la' := [(1, zI 0), (0, zR x0)]) (pc' := 2) dX6_decisionsLast_1 rfl (by decide) rfl rfl ?_
  refine z_iconst C (pc' := 3) dX6_decisionsLast_2 kc_0 rfl ?_
  refine z_istore_n C (i := 2) (la' := [(2, zI 0), (1, zI 0), (0, zR x0)]) (pc' := 4) dX6_decisionsLast_3 rfl (by decide) rfl rfl ?_
  refine zlocs (lb := [(0, zR x0), (1, zI 0), (2, zI 0)]) ⟨rfl, rfl, rfl, trivial⟩ ?_
  refine zlp_ind (fun (f : Int → Int → zMem → zRs) => ∀ (v1 : Int) (v2 : Int) (u3 : zMem), zSim G p l e R s m args below meth c w 3 (znc u0) (zM w 0 (znc u0) below args s) 4 [(0, zR x0), (1, zI v1), (2, zI v2)] [] u3 (f v1 v2 u3)) (fun _ _ _ => znone) (fun k4 hk4 v1 v2 u3 => ?_) _ _ _ _
  refine z_iload_n C (i := 2) (pc' := 5) dX6_decisionsLast_4 rfl rfl rfl ?_
  refine z_aload_n C (i := 0) (pc' := 6) dX6_decisionsLast_5 rfl rfl rfl ?_
  refine z_getf C (pc' := 9) flRX6_18 dX6_decisionsLast_6 rfl (fun v5 => ?_)
  refine z_icmp_ge C (pc' := 45) (pf := 12) dX6_decisionsLast_9 rfl rfl (fun _ => ?_) (fun _ => ?_)
  ·
    exact z_return C dX6_decisionsLast_45
  ·
    refine z_aload_n C (i := 0) (pc' := 13) dX6_decisionsLast_12 rfl rfl rfl ?_
    refine z_iload_n C (i := 1) (pc' := 14) dX6_decisionsLast_13 rfl rfl rfl ?_
    refine z_iconst C (pc' := 15) dX6_decisionsLast_14 kc_1 rfl ?_
    refine z_callV1 C (pc' := 18) lvRX6_66 lc_X6_part rfl dX6_decisionsLast_15 rfl (by decide) (rX6_part l w x0 v1 1 u3) rfl (Nat.le_of_ble_eq_true rfl) (fun v6 u7 => ?_)
    refine z_iconst C (pc' := 19) dX6_decisionsLast_18 kc_3 rfl ?_
    refine zjoin (P := fun (f : Int → zMem → zRs) => ∀ (v8 : Int) (u9 : zMem), zSim G p l e R s m args below meth c w 3 (znc u0) (zM w 0 (znc u0) below args s) 39 [(0, zR x0), (1, zI v8), (2, zI v2)] [] u9 (f v8 u9)) (fun v8 u9 => ?_) (fun k10 hk10 => ?_)
    ·
      refine z_iinc C (i := 2) (la' := [(2, zI (zw32 (v2 + 1))), (0, zR x0), (1, zI v8)]) (pc' := 42) dX6_decisionsLast_39 rfl (by decide) rfl rfl ?_
      refine z_goto C (pc' := 4) dX6_decisionsLast_42 rfl ?_
      exact zlocs (lb := [(0, zR x0), (1, zI v8), (2, zI (zw32 (v2 + 1)))]) ⟨rfl, rfl, rfl, trivial⟩ (hk4 _ _ _)
    ·
      refine z_icmp_ne C (pc' := 36) (pf := 22) dX6_decisionsLast_19 rfl rfl (fun _ => ?_) (fun _ => ?_)
      ·
        refine z_iinc C (i := 1) (la' := [(1, zI (zw32 (v1 + 1))), (0, zR x0), (2, zI v2)]) (pc' := 39) dX6_decisionsLast_36 rfl (by decide) rfl rfl ?_
        exact zlocs (lb := [(0, zR x0), (1, zI (zw32 (v1 + 1))), (2, zI v2)]) ⟨rfl, rfl, rfl, trivial⟩ (hk10 _ _)
      ·
        refine z_aload_n C (i := 0) (pc' := 23) dX6_decisionsLast_22 rfl rfl rfl ?_
        refine z_iload_n C (i := 1) (pc' := 24) dX6_decisionsLast_23 rfl rfl rfl ?_
        refine z_aload_n C (i := 0) (pc' := 25) dX6_decisionsLast_24 rfl rfl rfl ?_
        refine z_getf C (pc' := 28) flRX6_18 dX6_decisionsLast_25 rfl (fun v11 => ?_)
        refine z_iconst C (pc' := 29) dX6_decisionsLast_28 kc_1 rfl ?_
        refine z_isub C (pc' := 30) dX6_decisionsLast_29 rfl ?_
        refine z_callV0 C (pc' := 33) lvRX6_29 lc_X6_move rfl dX6_decisionsLast_30 rfl (by decide) (rX6_move l w x0 v1 (zw32 (v11 - 1)) u7) rfl (Nat.le_of_ble_eq_true rfl) (fun _ u12 => ?_)
        refine z_goto C (pc' := 39) dX6_decisionsLast_33 rfl ?_
        exact zlocs (lb := [(0, zR x0), (1, zI v1), (2, zI v2)]) ⟨rfl, rfl, rfl, trivial⟩ (hk10 _ _)
def fX6_follow (x0 x1 x2 : Int) (u0 : zMem) : zRs := zvc 4 x1 (fX4_has x1 1 u0) (fun v1 u2 => zjn (fun (u3 : zMem) => zvc 4 x1 (fX4_has x1 2 u3) (fun v5 u6 => zjn (fun (u7 : zMem) => zvc 4 x1 (fX4_has x1 4 u7) (fun v9 u10 => if v9 = 0 then (some (0, u10)) else (zvc 6 x0 (fX6_decisionsLast x0 u10) (fun _ u11 => some (0, u11))))) (fun k8 => if v5 = 0 then (k8 u6) else (zvc 6 x0 (fX6_soften x0 u6) (fun _ u12 => k8 u12))))) (fun k4 => if v1 = 0 then (k4 u2) else (zvc 6 x0 (fX6_join x0 x2 u2) (fun _ u13 => k4 u13))))
set_option maxRecDepth 100000 in
set_option maxHeartbeats 4000000 in
theorem rX6_follow (l : Launch) (w : zW) (x0 x1 x2 : Int) (u0 : zMem) : zSpc l w 5 yX6_follow cX6_follow 3 none 0 [zR x0, zR x1, zR x2] u0 (fX6_follow x0 x1 x2 u0) := by
  refine zSpc_of (own := RX6) pnRX6 rfl (Nat.le_of_ble_eq_true rfl) (fun G p e R s m args below meth c C hini => ?_)
  unfold fX6_follow
  refine zlocs (lb := [(0, zR x0), (1, zR x1), (2, zR x2)]) ⟨rfl, rfl, rfl, trivial⟩ ?_
  refine z_aload_n C (i := 1) (pc' := 1) dX6_follow_0 rfl rfl rfl ?_
  refine z_iconst C (pc' := 2) dX6_follow_1 kc_1 rfl ?_
  refine z_callV1 C (pc' := 5) lvRX6_39 lc_X4_has rfl dX6_follow_2 rfl (by decide) (rX4_has l w x1 1 u0) rfl (Nat.le_of_ble_eq_true rfl) (fun v1 u2 => ?_)
  refine zjoin (P := fun (f : zMem → zRs) => ∀ (u3 : zMem), zSim G p l e R s m args below meth c w 3 (znc u0) (zM w 0 (znc u0) below args s) 13 [(0, zR x0), (1, zR x1)] [] u3 (f u3)) (fun u3 => ?_) (fun k4 hk4 => ?_)
  ·
    refine z_aload_n C (i := 1) (pc' := 14) dX6_follow_13 rfl rfl rfl ?_
    refine z_iconst C (pc' := 15) dX6_follow_14 kc_2 rfl ?_
    refine z_callV1 C (pc' := 18) lvRX6_39 lc_X4_has rfl dX6_follow_15 rfl (by decide) (rX4_has l w x1 2 u3) rfl (Nat.le_of_ble_eq_true rfl) (fun v5 u6 => ?_)
    refine zjoin (P := fun (f : zMem → zRs) => ∀ (u7 : zMem), zSim G p l e R s m args below meth c w 3 (znc u0) (zM w 0 (znc u0) below args s) 25 [(0, zR x0), (1, zR x1)] [] u7 (f u7)) (fun u7 => ?_) (fun k8 hk8 => ?_)
    ·
      refine z_aload_n C (i := 1) (pc' := 26) dX6_follow_25 rfl rfl rfl ?_
      refine z_iconst C (pc' := 27) dX6_follow_26 kc_4 rfl ?_
      refine z_callV1 C (pc' := 30) lvRX6_39 lc_X4_has rfl dX6_follow_27 rfl (by decide) (rX4_has l w x1 4 u7) rfl (Nat.le_of_ble_eq_true rfl) (fun v9 u10 => ?_)
      refine z_if_eq C (pc' := 37) (pf := 33) dX6_follow_30 rfl rfl (fun _ => ?_) (fun _ => ?_)
      ·
        exact z_return C dX6_follow_37
      ·
        refine z_aload_n C (i := 0) (pc' := 34) dX6_follow_33 rfl rfl rfl ?_
        refine z_callV0 C (pc' := 37) lvRX6_51 lc_X6_decisionsLast rfl dX6_follow_34 rfl (by decide) (rX6_decisionsLast l w x0 u10) rfl (Nat.le_of_ble_eq_true rfl) (fun _ u11 => ?_)
        exact z_return C dX6_follow_37
    ·
      refine z_if_eq C (pc' := 25) (pf := 21) dX6_follow_18 rfl rfl (fun _ => ?_) (fun _ => ?_)
      ·
        exact zlocs (lb := [(0, zR x0), (1, zR x1)]) ⟨rfl, rfl, trivial⟩ (hk8 _)
      ·
        refine z_aload_n C (i := 0) (pc' := 22) dX6_follow_21 rfl rfl rfl ?_
        refine z_callV0 C (pc' := 25) lvRX6_48 lc_X6_soften rfl dX6_follow_22 rfl (by decide) (rX6_soften l w x0 u6) rfl (Nat.le_of_ble_eq_true rfl) (fun _ u12 => ?_)
        exact zlocs (lb := [(0, zR x0), (1, zR x1)]) ⟨rfl, rfl, trivial⟩ (hk8 _)
  ·
    refine z_if_eq C (pc' := 13) (pf := 8) dX6_follow_5 rfl rfl (fun _ => ?_) (fun _ => ?_)
    ·
      exact zlocs (lb := [(0, zR x0), (1, zR x1)]) ⟨rfl, rfl, trivial⟩ (hk4 _)
    ·
      refine z_aload_n C (i := 0) (pc' := 9) dX6_follow_8 rfl rfl rfl ?_
      refine z_aload_n C (i := 2) (pc' := 10) dX6_follow_9 rfl rfl rfl ?_
      refine z_callV0 C (pc' := 13) lvRX6_44 lc_X6_join rfl dX6_follow_10 rfl (by decide) (rX6_join l w x0 x2 u2) rfl (Nat.le_of_ble_eq_true rfl) (fun _ u13 => ?_)
      exact zlocs (lb := [(0, zR x0), (1, zR x1)]) ⟨rfl, rfl, trivial⟩ (hk4 _)
def fX6_total (x0 : Int) (u0 : zMem) : zRs := zlp (fun _ _ _ => none) (fun k4 (v1 : Int) (v2 : Int) (u3 : zMem) => zgf 6 1 x0 u3 (fun v5 => if v2 ≥ v5 then (some (v1, u3)) else (zgf 6 0 x0 u3 (fun v6 => zald 26 v6 2 u3 (fun v7 => zald 20 v7 v2 u3 (fun v8 => k4 (zw32 (v1 + v8)) (zw32 (v2 + 1)) u3)))))) 1000000 0 0 u0
set_option maxRecDepth 100000 in
set_option maxHeartbeats 4000000 in
theorem rX6_total (l : Launch) (w : zW) (x0 : Int) (u0 : zMem) : zSpc l w 1 yX6_total cX6_total 3 (some .int) 1 [zR x0] u0 (fX6_total x0 u0) := by
  refine zSpc_of (own := RX6) pnRX6 rfl (Nat.le_of_ble_eq_true rfl) (fun G p e R s m args below meth c C hini => ?_)
  unfold fX6_total
  refine zlocs (lb := [(0, zR x0)]) ⟨rfl, trivial⟩ ?_
  refine z_iconst C (pc' := 1) dX6_total_0 kc_0 rfl ?_
  refine z_istore_n C (i := 1) (la' := [(1, zI 0), (0, zR x0)]) (pc' := 2) dX6_total_1 rfl (by decide) rfl rfl ?_
  refine z_iconst C (pc' := 3) dX6_total_2 kc_0 rfl ?_
  refine z_istore_n C (i := 2) (la' := [(2, zI 0), (1, zI 0), (0, zR x0)]) (pc' := 4) dX6_total_3 rfl (by decide) rfl rfl ?_
  refine zlocs (lb := [(0, zR x0), (1, zI 0), (2, zI 0)]) ⟨rfl, rfl, rfl, trivial⟩ ?_
  refine zlp_ind (fun (f : Int → Int → zMem → zRs) => ∀ (v1 : Int) (v2 : Int) (u3 : zMem), zSim G p l e R s m args below meth c w 3 (znc u0) (zM w 1 (znc u0) below args s) 4 [(0, zR x0), (1, zI v1), (2, zI v2)] [] u3 (f v1 v2 u3)) (fun _ _ _ => znone) (fun k4 hk4 v1 v2 u3 => ?_) _ _ _ _
  refine z_iload_n C (i := 2) (pc' := 5) dX6_total_4 rfl rfl rfl ?_
  refine z_aload_n C (i := 0) (pc' := 6) dX6_total_5 rfl rfl rfl ?_
  refine z_getf C (pc' := 9) flRX6_18 dX6_total_6 rfl (fun v5 => ?_)
  refine z_icmp_ge C (pc' := 29) (pf := 12) dX6_total_9 rfl rfl (fun _ => ?_) (fun _ => ?_)
  ·
    refine z_iload_n C (i := 1) (pc' := 30) dX6_total_29 rfl rfl rfl ?_
    exact z_ireturn C dX6_total_30
  ·
    refine z_iload_n C (i := 1) (pc' := 13) dX6_total_12 rfl rfl rfl ?_
    refine z_aload_n C (i := 0) (pc' := 14) dX6_total_13 rfl rfl rfl ?_
    refine z_getfR C (pc' := 17) flRX6_15 dX6_total_14 rfl (fun v6 => ?_)
    refine z_iconst C (pc' := 18) dX6_total_17 kc_2 rfl ?_
    refine z_aald C (pc' := 19) (by decide) dX6_total_18 rfl (fun v7 => ?_)
    refine z_iload_n C (i := 2) (pc' := 20) dX6_total_19 rfl rfl rfl ?_
    refine z_iald C (pc' := 21) dX6_total_20 rfl (fun v8 => ?_)
    refine z_iadd C (pc' := 22) dX6_total_21 rfl ?_
    refine z_istore_n C (i := 1) (la' := [(1, zI (zw32 (v1 + v8))), (0, zR x0), (2, zI v2)]) (pc' := 23) dX6_total_22 rfl (by decide) rfl rfl ?_
    refine z_iinc C (i := 2) (la' := [(2, zI (zw32 (v2 + 1))), (1, zI (zw32 (v1 + v8))), (0, zR x0)]) (pc' := 26) dX6_total_23 rfl (by decide) rfl rfl ?_
    refine z_goto C (pc' := 4) dX6_total_26 rfl ?_
    exact zlocs (lb := [(0, zR x0), (1, zI (zw32 (v1 + v8))), (2, zI (zw32 (v2 + 1)))]) ⟨rfl, rfl, rfl, trivial⟩ (hk4 _ _ _)
def fX6_markAdded (x0 x1 : Int) (u0 : zMem) : zRs := zvc 6 x0 (fX6_hasPlace x0 x1 u0) (fun v1 u2 => if v1 = 0 then (some (0, u2)) else (zgf 6 0 x0 u2 (fun v3 => zald 26 v3 3 u2 (fun v4 => zast 20 v4 x1 1 u2 (fun u5 => some (0, u5))))))
set_option maxRecDepth 100000 in
set_option maxHeartbeats 4000000 in
theorem rX6_markAdded (l : Launch) (w : zW) (x0 x1 : Int) (u0 : zMem) : zSpc l w 2 yX6_markAdded cX6_markAdded 2 none 0 [zR x0, zI x1] u0 (fX6_markAdded x0 x1 u0) := by
  refine zSpc_of (own := RX6) pnRX6 rfl (Nat.le_of_ble_eq_true rfl) (fun G p e R s m args below meth c C hini => ?_)
  unfold fX6_markAdded
  refine zlocs (lb := [(0, zR x0), (1, zI x1)]) ⟨rfl, rfl, trivial⟩ ?_
  refine z_aload_n C (i := 0) (pc' := 1) dX6_markAdded_0 rfl rfl rfl ?_
  refine z_iload_n C (i := 1) (pc' := 2) dX6_markAdded_1 rfl rfl rfl ?_
  refine z_callV1 C (pc' := 5) lvRX6_25 lc_X6_hasPlace rfl dX6_markAdded_2 rfl (by decide) (rX6_hasPlace l w x0 x1 u0) rfl (Nat.le_of_ble_eq_true rfl) (fun v1 u2 => ?_)
  refine z_if_eq C (pc' := 17) (pf := 8) dX6_markAdded_5 rfl rfl (fun _ => ?_) (fun _ => ?_)
  ·
    exact z_return C dX6_markAdded_17
  ·
    refine z_aload_n C (i := 0) (pc' := 9) dX6_markAdded_8 rfl rfl rfl ?_
    refine z_getfR C (pc' := 12) flRX6_15 dX6_markAdded_9 rfl (fun v3 => ?_)
    refine z_iconst C (pc' := 13) dX6_markAdded_12 kc_3 rfl ?_
    refine z_aald C (pc' := 14) (by decide) dX6_markAdded_13 rfl (fun v4 => ?_)
    refine z_iload_n C (i := 1) (pc' := 15) dX6_markAdded_14 rfl rfl rfl ?_
    refine z_iconst C (pc' := 16) dX6_markAdded_15 kc_1 rfl ?_
    refine z_iast C (pc' := 17) dX6_markAdded_16 rfl (fun u5 => ?_)
    exact z_return C dX6_markAdded_17
def fX6_hear (x0 x1 x2 : Int) (u0 : zMem) : zRs := zgf 6 1 x0 u0 (fun v1 => zgf 6 1 x0 u0 (fun v2 => zlp (fun _ _ => none) (fun k5 (v3 : Int) (u4 : zMem) => if v3 < 0 then (zgf 6 1 x0 u4 (fun v6 => some ((zw32 (v1 - v6)), u4))) else (zgf 6 0 x0 u4 (fun v7 => zald 26 v7 0 u4 (fun v8 => zald 20 v8 v3 u4 (fun v9 => zvc 5 x1 (fX5_part x1 v9 0 u4) (fun v10 u11 => zjn (fun (u12 : zMem) => k5 (zw32 (v3 + (-1))) u12) (fun k13 => if v10 = x2 then (zgf 6 0 x0 u11 (fun v14 => zald 26 v14 1 u11 (fun v15 => zald 20 v15 v3 u11 (fun v16 => if v16 ≠ 2 then (zgf 6 0 x0 u11 (fun v17 => zald 26 v17 2 u11 (fun v18 => zgf 6 0 x0 u11 (fun v19 => zald 26 v19 2 u11 (fun v20 => zald 20 v20 v3 u11 (fun v21 => zast 20 v18 v3 (zmi 999 (zw32 (2 * v21))) u11 (fun u22 => k13 u22))))))) else (zvc 6 x0 (fX6_drop x0 v3 u11) (fun _ u23 => k13 u23)))))) else (k13 u11)))))))) 1000000 (zw32 (v2 - 1)) u0))
set_option maxRecDepth 100000 in
set_option maxHeartbeats 4000000 in
theorem rX6_hear (l : Launch) (w : zW) (x0 x1 x2 : Int) (u0 : zMem) : zSpc l w 4 yX6_hear cX6_hear 5 (some .int) 1 [zR x0, zR x1, zI x2] u0 (fX6_hear x0 x1 x2 u0) := by
  refine zSpc_of (own := RX6) pnRX6 rfl (Nat.le_of_ble_eq_true rfl) (fun G p e R s m args below meth c C hini => ?_)
  unfold fX6_hear
  refine zlocs (lb := [(0, zR x0), (1, zR x1), (2, zI x2)]) ⟨rfl, rfl, rfl, trivial⟩ ?_
  refine z_aload_n C (i := 0) (pc' := 1) dX6_hear_0 rfl rfl rfl ?_
  refine z_getf C (pc' := 4) flRX6_18 dX6_hear_1 rfl (fun v1 => ?_)
  refine z_istore_n C (i := 3) (la' := [(3, zI v1), (0, zR x0), (1, zR x1), (2, zI x2)]) (pc' := 5) dX6_hear_4 rfl (by decide) rfl rfl ?_
  refine z_aload_n C (i := 0) (pc' := 6) dX6_hear_5 rfl rfl rfl ?_
  refine z_getf C (pc' := 9) flRX6_18 dX6_hear_6 rfl (fun v2 => ?_)
  refine z_iconst C (pc' := 10) dX6_hear_9 kc_1 rfl ?_
  refine z_isub C (pc' := 11) dX6_hear_10 rfl ?_
  refine z_istore C (i := 4) (la' := [(4, zI (zw32 (v2 - 1))), (3, zI v1), (0, zR x0), (1, zR x1), (2, zI x2)]) (pc' := 13) dX6_hear_11 (by decide) rfl rfl ?_
  refine zlocs (lb := [(0, zR x0), (1, zR x1), (2, zI x2), (3, zI v1), (4, zI (zw32 (v2 - 1)))]) ⟨rfl, rfl, rfl, rfl, rfl, trivial⟩ ?_
  refine zlp_ind (fun (f : Int → zMem → zRs) => ∀ (v3 : Int) (u4 : zMem), zSim G p l e R s m args below meth c w 5 (znc u0) (zM w 1 (znc u0) below args s) 13 [(0, zR x0), (1, zR x1), (2, zI x2), (3, zI v1), (4, zI v3)] [] u4 (f v3 u4)) (fun _ _ => znone) (fun k5 hk5 v3 u4 => ?_) _ _ _
  refine z_iload C (pc' := 15) dX6_hear_13 rfl rfl ?_
  refine z_if_lt C (pc' := 93) (pf := 18) dX6_hear_15 rfl rfl (fun _ => ?_) (fun _ => ?_)
  ·
    refine z_iload_n C (i := 3) (pc' := 94) dX6_hear_93 rfl rfl rfl ?_
    refine z_aload_n C (i := 0) (pc' := 95) dX6_hear_94 rfl rfl rfl ?_
    refine z_getf C (pc' := 98) flRX6_18 dX6_hear_95 rfl (fun v6 => ?_)
    refine z_isub C (pc' := 99) dX6_hear_98 rfl ?_
    exact z_ireturn C dX6_hear_99
  ·
    refine z_aload_n C (i := 1) (pc' := 19) dX6_hear_18 rfl rfl rfl ?_
    refine z_aload_n C (i := 0) (pc' := 20) dX6_hear_19 rfl rfl rfl ?_
    refine z_getfR C (pc' := 23) flRX6_15 dX6_hear_20 rfl (fun v7 => ?_)
    refine z_iconst C (pc' := 24) dX6_hear_23 kc_0 rfl ?_
    refine z_aald C (pc' := 25) (by decide) dX6_hear_24 rfl (fun v8 => ?_)
    refine z_iload C (pc' := 27) dX6_hear_25 rfl rfl ?_
    refine z_iald C (pc' := 28) dX6_hear_27 rfl (fun v9 => ?_)
    refine z_iconst C (pc' := 29) dX6_hear_28 kc_0 rfl ?_
    refine z_callV1 C (pc' := 32) lvRX6_62 lc_X5_part rfl dX6_hear_29 rfl (by decide) (rX5_part l w x1 v9 0 u4) rfl (Nat.le_of_ble_eq_true rfl) (fun v10 u11 => ?_)
    refine z_iload_n C (i := 2) (pc' := 33) dX6_hear_32 rfl rfl rfl ?_
    refine zjoin (P := fun (f : zMem → zRs) => ∀ (u12 : zMem), zSim G p l e R s m args below meth c w 5 (znc u0) (zM w 1 (znc u0) below args s) 87 [(0, zR x0), (1, zR x1), (2, zI x2), (3, zI v1), (4, zI v3)] [] u12 (f u12)) (fun u12 => ?_) (fun k13 hk13 => ?_)
    ·
      refine z_iinc C (i := 4) (la' := [(4, zI (zw32 (v3 + (-1)))), (0, zR x0), (1, zR x1), (2, zI x2), (3, zI v1)]) (pc' := 90) dX6_hear_87 rfl (by decide) rfl rfl ?_
      refine z_goto C (pc' := 13) dX6_hear_90 rfl ?_
      exact zlocs (lb := [(0, zR x0), (1, zR x1), (2, zI x2), (3, zI v1), (4, zI (zw32 (v3 + (-1))))]) ⟨rfl, rfl, rfl, rfl, rfl, trivial⟩ (hk5 _ _)
    ·
      refine z_icmp_eq C (pc' := 39) (pf := 36) dX6_hear_33 rfl rfl (fun _ => ?_) (fun _ => ?_)
      ·
        refine z_aload_n C (i := 0) (pc' := 40) dX6_hear_39 rfl rfl rfl ?_
        refine z_getfR C (pc' := 43) flRX6_15 dX6_hear_40 rfl (fun v14 => ?_)
        refine z_iconst C (pc' := 44) dX6_hear_43 kc_1 rfl ?_
        refine z_aald C (pc' := 45) (by decide) dX6_hear_44 rfl (fun v15 => ?_)
        refine z_iload C (pc' := 47) dX6_hear_45 rfl rfl ?_
        refine z_iald C (pc' := 48) dX6_hear_47 rfl (fun v16 => ?_)
        refine z_iconst C (pc' := 49) dX6_hear_48 kc_2 rfl ?_
        refine z_icmp_ne C (pc' := 61) (pf := 52) dX6_hear_49 rfl rfl (fun _ => ?_) (fun _ => ?_)
        ·
          refine z_aload_n C (i := 0) (pc' := 62) dX6_hear_61 rfl rfl rfl ?_
          refine z_getfR C (pc' := 65) flRX6_15 dX6_hear_62 rfl (fun v17 => ?_)
          refine z_iconst C (pc' := 66) dX6_hear_65 kc_2 rfl ?_
          refine z_aald C (pc' := 67) (by decide) dX6_hear_66 rfl (fun v18 => ?_)
          refine z_iload C (pc' := 69) dX6_hear_67 rfl rfl ?_
          refine z_sipush C (pc' := 72) dX6_hear_69 ks_999 rfl ?_
          refine z_iconst C (pc' := 73) dX6_hear_72 kc_2 rfl ?_
          refine z_aload_n C (i := 0) (pc' := 74) dX6_hear_73 rfl rfl rfl ?_
          refine z_getfR C (pc' := 77) flRX6_15 dX6_hear_74 rfl (fun v19 => ?_)
          refine z_iconst C (pc' := 78) dX6_hear_77 kc_2 rfl ?_
          refine z_aald C (pc' := 79) (by decide) dX6_hear_78 rfl (fun v20 => ?_)
          refine z_iload C (pc' := 81) dX6_hear_79 rfl rfl ?_
          refine z_iald C (pc' := 82) dX6_hear_81 rfl (fun v21 => ?_)
          refine z_imul C (pc' := 83) dX6_hear_82 rfl ?_
          refine z_mmin C (pc' := 86) wmRX6_67 wms_min wmi wmc_min dX6_hear_83 rfl (by decide) (Nat.le_of_ble_eq_true rfl) ?_
          refine z_iast C (pc' := 87) dX6_hear_86 rfl (fun u22 => ?_)
          exact zlocs (lb := [(0, zR x0), (1, zR x1), (2, zI x2), (3, zI v1), (4, zI v3)]) ⟨rfl, rfl, rfl, rfl, rfl, trivial⟩ (hk13 _)
        ·
          refine z_aload_n C (i := 0) (pc' := 53) dX6_hear_52 rfl rfl rfl ?_
          refine z_iload C (pc' := 55) dX6_hear_53 rfl rfl ?_
          refine z_callV0 C (pc' := 58) lvRX6_58 lc_X6_drop rfl dX6_hear_55 rfl (by decide) (rX6_drop l w x0 v3 u11) rfl (Nat.le_of_ble_eq_true rfl) (fun _ u23 => ?_)
          refine z_goto C (pc' := 87) dX6_hear_58 rfl ?_
          exact zlocs (lb := [(0, zR x0), (1, zR x1), (2, zI x2), (3, zI v1), (4, zI v3)]) ⟨rfl, rfl, rfl, rfl, rfl, trivial⟩ (hk13 _)
      ·
        refine z_goto C (pc' := 87) dX6_hear_36 rfl ?_
        exact zlocs (lb := [(0, zR x0), (1, zR x1), (2, zI x2), (3, zI v1), (4, zI v3)]) ⟨rfl, rfl, rfl, rfl, rfl, trivial⟩ (hk13 _)
def fX6_shortest (x0 : Int) (u0 : zMem) : zRs := zlp (fun _ _ _ => none) (fun k4 (v1 : Int) (v2 : Int) (u3 : zMem) => zgf 6 1 x0 u3 (fun v5 => if v2 ≥ v5 then (some (v1, u3)) else (zgf 6 0 x0 u3 (fun v6 => zald 26 v6 2 u3 (fun v7 => zald 20 v7 v2 u3 (fun v8 => zgf 6 0 x0 u3 (fun v9 => zald 26 v9 2 u3 (fun v10 => zald 20 v10 v1 u3 (fun v11 => zjn (fun (v12 : Int) (u13 : zMem) => k4 v12 (zw32 (v2 + 1)) u13) (fun k14 => if v8 > v11 then (k14 v1 u3) else (k14 v2 u3))))))))))) 1000000 0 1 u0
set_option maxRecDepth 100000 in
set_option maxHeartbeats 4000000 in
theorem rX6_shortest (l : Launch) (w : zW) (x0 : Int) (u0 : zMem) : zSpc l w 1 yX6_shortest cX6_shortest 3 (some .int) 1 [zR x0] u0 (fX6_shortest x0 u0) := by
  refine zSpc_of (own := RX6) pnRX6 rfl (Nat.le_of_ble_eq_true rfl) (fun G p e R s m args below meth c C hini => ?_)
  unfold fX6_shortest
  refine zlocs (lb := [(0, zR x0)]) ⟨rfl, trivial⟩ ?_
  refine z_iconst C (pc' := 1) dX6_shortest_0 kc_0 rfl ?_
  refine z_istore_n C (i := 1) (la' := [(1, zI 0), (0, zR x0)]) (pc' := 2) dX6_shortest_1 rfl (by decide) rfl rfl ?_
  refine z_iconst C (pc' := 3) dX6_shortest_2 kc_1 rfl ?_
  refine z_istore_n C (i := 2) (la' := [(2, zI 1), (1, zI 0), (0, zR x0)]) (pc' := 4) dX6_shortest_3 rfl (by decide) rfl rfl ?_
  refine zlocs (lb := [(0, zR x0), (1, zI 0), (2, zI 1)]) ⟨rfl, rfl, rfl, trivial⟩ ?_
  refine zlp_ind (fun (f : Int → Int → zMem → zRs) => ∀ (v1 : Int) (v2 : Int) (u3 : zMem), zSim G p l e R s m args below meth c w 3 (znc u0) (zM w 1 (znc u0) below args s) 4 [(0, zR x0), (1, zI v1), (2, zI v2)] [] u3 (f v1 v2 u3)) (fun _ _ _ => znone) (fun k4 hk4 v1 v2 u3 => ?_) _ _ _ _
  refine z_iload_n C (i := 2) (pc' := 5) dX6_shortest_4 rfl rfl rfl ?_
  refine z_aload_n C (i := 0) (pc' := 6) dX6_shortest_5 rfl rfl rfl ?_
  refine z_getf C (pc' := 9) flRX6_18 dX6_shortest_6 rfl (fun v5 => ?_)
  refine z_icmp_ge C (pc' := 39) (pf := 12) dX6_shortest_9 rfl rfl (fun _ => ?_) (fun _ => ?_)
  ·
    refine z_iload_n C (i := 1) (pc' := 40) dX6_shortest_39 rfl rfl rfl ?_
    exact z_ireturn C dX6_shortest_40
  ·
    refine z_aload_n C (i := 0) (pc' := 13) dX6_shortest_12 rfl rfl rfl ?_
    refine z_getfR C (pc' := 16) flRX6_15 dX6_shortest_13 rfl (fun v6 => ?_)
    refine z_iconst C (pc' := 17) dX6_shortest_16 kc_2 rfl ?_
    refine z_aald C (pc' := 18) (by decide) dX6_shortest_17 rfl (fun v7 => ?_)
    refine z_iload_n C (i := 2) (pc' := 19) dX6_shortest_18 rfl rfl rfl ?_
    refine z_iald C (pc' := 20) dX6_shortest_19 rfl (fun v8 => ?_)
    refine z_aload_n C (i := 0) (pc' := 21) dX6_shortest_20 rfl rfl rfl ?_
    refine z_getfR C (pc' := 24) flRX6_15 dX6_shortest_21 rfl (fun v9 => ?_)
    refine z_iconst C (pc' := 25) dX6_shortest_24 kc_2 rfl ?_
    refine z_aald C (pc' := 26) (by decide) dX6_shortest_25 rfl (fun v10 => ?_)
    refine z_iload_n C (i := 1) (pc' := 27) dX6_shortest_26 rfl rfl rfl ?_
    refine z_iald C (pc' := 28) dX6_shortest_27 rfl (fun v11 => ?_)
    refine zjoin (P := fun (f : Int → zMem → zRs) => ∀ (v12 : Int) (u13 : zMem), zSim G p l e R s m args below meth c w 3 (znc u0) (zM w 1 (znc u0) below args s) 33 [(0, zR x0), (1, zI v12), (2, zI v2)] [] u13 (f v12 u13)) (fun v12 u13 => ?_) (fun k14 hk14 => ?_)
    ·
      refine z_iinc C (i := 2) (la' := [(2, zI (zw32 (v2 + 1))), (0, zR x0), (1, zI v12)]) (pc' := 36) dX6_shortest_33 rfl (by decide) rfl rfl ?_
      refine z_goto C (pc' := 4) dX6_shortest_36 rfl ?_
      exact zlocs (lb := [(0, zR x0), (1, zI v12), (2, zI (zw32 (v2 + 1)))]) ⟨rfl, rfl, rfl, trivial⟩ (hk4 _ _ _)
    ·
      refine z_icmp_gt C (pc' := 33) (pf := 31) dX6_shortest_28 rfl rfl (fun _ => ?_) (fun _ => ?_)
      ·
        exact zlocs (lb := [(0, zR x0), (1, zI v1), (2, zI v2)]) ⟨rfl, rfl, rfl, trivial⟩ (hk14 _ _)
      ·
        refine z_iload_n C (i := 2) (pc' := 32) dX6_shortest_31 rfl rfl rfl ?_
        refine z_istore_n C (i := 1) (la' := [(1, zI v2), (0, zR x0), (2, zI v2)]) (pc' := 33) dX6_shortest_32 rfl (by decide) rfl rfl ?_
        exact zlocs (lb := [(0, zR x0), (1, zI v2), (2, zI v2)]) ⟨rfl, rfl, rfl, trivial⟩ (hk14 _ _)
def fX6_shorten (x0 x1 : Int) (u0 : zMem) : zRs := zgf 6 1 x0 u0 (fun v1 => zlp (fun _ _ => none) (fun k4 (v2 : Int) (u3 : zMem) => if v2 ≥ (zmx 0 (zw32 (v1 - x1))) then (some ((zmx 0 (zw32 (v1 - x1))), u3)) else (zvc 6 x0 (fX6_shortest x0 u3) (fun v5 u6 => zvc 6 x0 (fX6_drop x0 v5 u6) (fun _ u7 => k4 (zw32 (v2 + 1)) u7)))) 1000000 0 u0)
set_option maxRecDepth 100000 in
set_option maxHeartbeats 4000000 in
theorem rX6_shorten (l : Launch) (w : zW) (x0 x1 : Int) (u0 : zMem) : zSpc l w 4 yX6_shorten cX6_shorten 4 (some .int) 1 [zR x0, zI x1] u0 (fX6_shorten x0 x1 u0) := by
  refine zSpc_of (own := RX6) pnRX6 rfl (Nat.le_of_ble_eq_true rfl) (fun G p e R s m args below meth c C hini => ?_)
  unfold fX6_shorten
  refine zlocs (lb := [(0, zR x0), (1, zI x1)]) ⟨rfl, rfl, trivial⟩ ?_
  refine z_iconst C (pc' := 1) dX6_shorten_0 kc_0 rfl ?_
  refine z_aload_n C (i := 0) (pc' := 2) dX6_shorten_1 rfl rfl rfl ?_
  refine z_getf C (pc' := 5) flRX6_18 dX6_shorten_2 rfl (fun v1 => ?_)
  refine z_iload_n C (i := 1) (pc' := 6) dX6_shorten_5 rfl rfl rfl ?_
  refine z_isub C (pc' := 7) dX6_shorten_6 rfl ?_
  refine z_mmax C (pc' := 10) wmRX6_72 wms_max wmi wmc_max dX6_shorten_7 rfl (by decide) (Nat.le_of_ble_eq_true rfl) ?_
  refine z_istore_n C (i := 2) (la' := [(2, zI (zmx 0 (zw32 (v1 - x1)))), (0, zR x0), (1, zI x1)]) (pc' := 11) dX6_shorten_10 rfl (by decide) rfl rfl ?_
  refine z_iconst C (pc' := 12) dX6_shorten_11 kc_0 rfl ?_
  refine z_istore_n C (i := 3) (la' := [(3, zI 0), (2, zI (zmx 0 (zw32 (v1 - x1)))), (0, zR x0), (1, zI x1)]) (pc' := 13) dX6_shorten_12 rfl (by decide) rfl rfl ?_
  refine zlocs (lb := [(0, zR x0), (2, zI (zmx 0 (zw32 (v1 - x1)))), (3, zI 0)]) ⟨rfl, rfl, rfl, trivial⟩ ?_
  refine zlp_ind (fun (f : Int → zMem → zRs) => ∀ (v2 : Int) (u3 : zMem), zSim G p l e R s m args below meth c w 4 (znc u0) (zM w 1 (znc u0) below args s) 13 [(0, zR x0), (2, zI (zmx 0 (zw32 (v1 - x1)))), (3, zI v2)] [] u3 (f v2 u3)) (fun _ _ => znone) (fun k4 hk4 v2 u3 => ?_) _ _ _
  refine z_iload_n C (i := 3) (pc' := 14) dX6_shorten_13 rfl rfl rfl ?_
  refine z_iload_n C (i := 2) (pc' := 15) dX6_shorten_14 rfl rfl rfl ?_
  refine z_icmp_ge C (pc' := 32) (pf := 18) dX6_shorten_15 rfl rfl (fun _ => ?_) (fun _ => ?_)
  ·
    refine z_iload_n C (i := 2) (pc' := 33) dX6_shorten_32 rfl rfl rfl ?_
    exact z_ireturn C dX6_shorten_33
  ·
    refine z_aload_n C (i := 0) (pc' := 19) dX6_shorten_18 rfl rfl rfl ?_
    refine z_aload_n C (i := 0) (pc' := 20) dX6_shorten_19 rfl rfl rfl ?_
    refine z_callV1 C (pc' := 23) lvRX6_75 lc_X6_shortest rfl dX6_shorten_20 rfl (by decide) (rX6_shortest l w x0 u3) rfl (Nat.le_of_ble_eq_true rfl) (fun v5 u6 => ?_)
    refine z_callV0 C (pc' := 26) lvRX6_58 lc_X6_drop rfl dX6_shorten_23 rfl (by decide) (rX6_drop l w x0 v5 u6) rfl (Nat.le_of_ble_eq_true rfl) (fun _ u7 => ?_)
    refine z_iinc C (i := 3) (la' := [(3, zI (zw32 (v2 + 1))), (0, zR x0), (2, zI (zmx 0 (zw32 (v1 - x1))))]) (pc' := 29) dX6_shorten_26 rfl (by decide) rfl rfl ?_
    refine z_goto C (pc' := 13) dX6_shorten_29 rfl ?_
    exact zlocs (lb := [(0, zR x0), (2, zI (zmx 0 (zw32 (v1 - x1)))), (3, zI (zw32 (v2 + 1)))]) ⟨rfl, rfl, rfl, trivial⟩ (hk4 _ _)

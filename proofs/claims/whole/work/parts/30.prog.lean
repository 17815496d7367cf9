theorem dX11_within_0 : decode cX11_within 0 = .ok (.lload_n 0, 1) := by decide +kernel
theorem dX11_within_1 : decode cX11_within 1 = .ok (.lload_n 2, 1) := by decide +kernel
theorem dX11_within_2 : decode cX11_within 2 = .ok (.lcmp, 1) := by decide +kernel
theorem dX11_within_3 : decode cX11_within 3 = .ok (.ifCond .lt 14, 3) := by decide +kernel
theorem dX11_within_6 : decode cX11_within 6 = .ok (.lload_n 0, 1) := by decide +kernel
theorem dX11_within_7 : decode cX11_within 7 = .ok (.lload 4, 2) := by decide +kernel
theorem dX11_within_9 : decode cX11_within 9 = .ok (.lcmp, 1) := by decide +kernel
theorem dX11_within_10 : decode cX11_within 10 = .ok (.ifCond .gt 7, 3) := by decide +kernel
theorem dX11_within_13 : decode cX11_within 13 = .ok (.iconst 1, 1) := by decide +kernel
theorem dX11_within_14 : decode cX11_within 14 = .ok (.goto 4, 3) := by decide +kernel
theorem dX11_within_17 : decode cX11_within 17 = .ok (.iconst 0, 1) := by decide +kernel
theorem dX11_within_18 : decode cX11_within 18 = .ok (.ireturn, 1) := by decide +kernel
theorem dX11_size_0 : decode cX11_size 0 = .ok (.iload_n 0, 1) := by decide +kernel
theorem dX11_size_1 : decode cX11_size 1 = .ok (.ifCond .ge 8, 3) := by decide +kernel
theorem dX11_size_4 : decode cX11_size 4 = .ok (.iload_n 0, 1) := by decide +kernel
theorem dX11_size_5 : decode cX11_size 5 = .ok (.ineg, 1) := by decide +kernel
theorem dX11_size_6 : decode cX11_size 6 = .ok (.goto 4, 3) := by decide +kernel
theorem dX11_size_9 : decode cX11_size 9 = .ok (.iload_n 0, 1) := by decide +kernel
theorem dX11_size_10 : decode cX11_size 10 = .ok (.ireturn, 1) := by decide +kernel
theorem dX11_init_0 : decode cX11_init 0 = .ok (.aload_n 0, 1) := by decide +kernel
theorem dX11_init_1 : decode cX11_init 1 = .ok (.invokespecial 3, 3) := by decide +kernel
theorem dX11_init_4 : decode cX11_init 4 = .ok (.aload_n 0, 1) := by decide +kernel
theorem dX11_init_5 : decode cX11_init 5 = .ok (.bipush 64, 2) := by decide +kernel
theorem dX11_init_7 : decode cX11_init 7 = .ok (.newarray .int, 2) := by decide +kernel
theorem dX11_init_9 : decode cX11_init 9 = .ok (.putfield 9, 3) := by decide +kernel
theorem dX11_init_12 : decode cX11_init 12 = .ok (.aload_n 0, 1) := by decide +kernel
theorem dX11_init_13 : decode cX11_init 13 = .ok (.bipush 40, 2) := by decide +kernel
theorem dX11_init_15 : decode cX11_init 15 = .ok (.newarray .int, 2) := by decide +kernel
theorem dX11_init_17 : decode cX11_init 17 = .ok (.putfield 13, 3) := by decide +kernel
theorem dX11_init_20 : decode cX11_init 20 = .ok (.aload_n 0, 1) := by decide +kernel
theorem dX11_init_21 : decode cX11_init 21 = .ok (.bipush 40, 2) := by decide +kernel
theorem dX11_init_23 : decode cX11_init 23 = .ok (.newarray .int, 2) := by decide +kernel
theorem dX11_init_25 : decode cX11_init 25 = .ok (.putfield 16, 3) := by decide +kernel
theorem dX11_init_28 : decode cX11_init 28 = .ok (.aload_n 0, 1) := by decide +kernel
theorem dX11_init_29 : decode cX11_init 29 = .ok (.bipush 40, 2) := by decide +kernel
theorem dX11_init_31 : decode cX11_init 31 = .ok (.newarray .int, 2) := by decide +kernel
theorem dX11_init_33 : decode cX11_init 33 = .ok (.putfield 19, 3) := by decide +kernel
theorem dX11_init_36 : decode cX11_init 36 = .ok (.aload_n 0, 1) := by decide +kernel
theorem dX11_init_37 : decode cX11_init 37 = .ok (.bipush 120, 2) := by decide +kernel
theorem dX11_init_39 : decode cX11_init 39 = .ok (.newarray .int, 2) := by decide +kernel
theorem dX11_init_41 : decode cX11_init 41 = .ok (.putfield 22, 3) := by decide +kernel
theorem dX11_init_44 : decode cX11_init 44 = .ok (.aload_n 0, 1) := by decide +kernel
theorem dX11_init_45 : decode cX11_init 45 = .ok (.iconst 4, 1) := by decide +kernel
theorem dX11_init_46 : decode cX11_init 46 = .ok (.newarray .int, 2) := by decide +kernel
theorem dX11_init_48 : decode cX11_init 48 = .ok (.putfield 25, 3) := by decide +kernel
theorem dX11_init_51 : decode cX11_init 51 = .ok (.aload_n 0, 1) := by decide +kernel
theorem dX11_init_52 : decode cX11_init 52 = .ok (.iconst 4, 1) := by decide +kernel
theorem dX11_init_53 : decode cX11_init 53 = .ok (.newarray .int, 2) := by decide +kernel
theorem dX11_init_55 : decode cX11_init 55 = .ok (.putfield 28, 3) := by decide +kernel
theorem dX11_init_58 : decode cX11_init 58 = .ok (.aload_n 0, 1) := by decide +kernel
theorem dX11_init_59 : decode cX11_init 59 = .ok (.sipush 480, 3) := by decide +kernel
theorem dX11_init_62 : decode cX11_init 62 = .ok (.newarray .int, 2) := by decide +kernel
theorem dX11_init_64 : decode cX11_init 64 = .ok (.putfield 31, 3) := by decide +kernel
theorem dX11_init_67 : decode cX11_init 67 = .ok (.aload_n 0, 1) := by decide +kernel
theorem dX11_init_68 : decode cX11_init 68 = .ok (.iconst 4, 1) := by decide +kernel
theorem dX11_init_69 : decode cX11_init 69 = .ok (.newarray .int, 2) := by decide +kernel
theorem dX11_init_71 : decode cX11_init 71 = .ok (.putfield 34, 3) := by decide +kernel
theorem dX11_init_74 : decode cX11_init 74 = .ok (.aload_n 0, 1) := by decide +kernel
theorem dX11_init_75 : decode cX11_init 75 = .ok (.bipush 8, 2) := by decide +kernel
theorem dX11_init_77 : decode cX11_init 77 = .ok (.newarray .int, 2) := by decide +kernel
theorem dX11_init_79 : decode cX11_init 79 = .ok (.putfield 37, 3) := by decide +kernel
theorem dX11_init_82 : decode cX11_init 82 = .ok (.aload_n 0, 1) := by decide +kernel
theorem dX11_init_83 : decode cX11_init 83 = .ok (.bipush 10, 2) := by decide +kernel
theorem dX11_init_85 : decode cX11_init 85 = .ok (.newarray .int, 2) := by decide +kernel
theorem dX11_init_87 : decode cX11_init 87 = .ok (.putfield 40, 3) := by decide +kernel
theorem dX11_init_90 : decode cX11_init 90 = .ok (.aload_n 0, 1) := by decide +kernel
theorem dX11_init_91 : decode cX11_init 91 = .ok (.bipush 10, 2) := by decide +kernel
theorem dX11_init_93 : decode cX11_init 93 = .ok (.newarray .int, 2) := by decide +kernel
theorem dX11_init_95 : decode cX11_init 95 = .ok (.putfield 43, 3) := by decide +kernel
theorem dX11_init_98 : decode cX11_init 98 = .ok (.aload_n 0, 1) := by decide +kernel
theorem dX11_init_99 : decode cX11_init 99 = .ok (.sipush 160, 3) := by decide +kernel
theorem dX11_init_102 : decode cX11_init 102 = .ok (.newarray .int, 2) := by decide +kernel
theorem dX11_init_104 : decode cX11_init 104 = .ok (.putfield 46, 3) := by decide +kernel
theorem dX11_init_107 : decode cX11_init 107 = .ok (.aload_n 0, 1) := by decide +kernel
theorem dX11_init_108 : decode cX11_init 108 = .ok (.sipush 160, 3) := by decide +kernel
theorem dX11_init_111 : decode cX11_init 111 = .ok (.newarray .int, 2) := by decide +kernel
theorem dX11_init_113 : decode cX11_init 113 = .ok (.putfield 49, 3) := by decide +kernel
theorem dX11_init_116 : decode cX11_init 116 = .ok (.aload_n 0, 1) := by decide +kernel
theorem dX11_init_117 : decode cX11_init 117 = .ok (.sipush 160, 3) := by decide +kernel
theorem dX11_init_120 : decode cX11_init 120 = .ok (.newarray .int, 2) := by decide +kernel
theorem dX11_init_122 : decode cX11_init 122 = .ok (.putfield 52, 3) := by decide +kernel
theorem dX11_init_125 : decode cX11_init 125 = .ok (.aload_n 0, 1) := by decide +kernel
theorem dX11_init_126 : decode cX11_init 126 = .ok (.sipush 160, 3) := by decide +kernel
theorem dX11_init_129 : decode cX11_init 129 = .ok (.newarray .boolean, 2) := by decide +kernel
theorem dX11_init_131 : decode cX11_init 131 = .ok (.putfield 55, 3) := by decide +kernel
theorem dX11_init_134 : decode cX11_init 134 = .ok (.aload_n 0, 1) := by decide +kernel
theorem dX11_init_135 : decode cX11_init 135 = .ok (.bipush 50, 2) := by decide +kernel
theorem dX11_init_137 : decode cX11_init 137 = .ok (.newarray .int, 2) := by decide +kernel
theorem dX11_init_139 : decode cX11_init 139 = .ok (.putfield 59, 3) := by decide +kernel
theorem dX11_init_142 : decode cX11_init 142 = .ok (.aload_n 0, 1) := by decide +kernel
theorem dX11_init_143 : decode cX11_init 143 = .ok (.bipush 24, 2) := by decide +kernel
theorem dX11_init_145 : decode cX11_init 145 = .ok (.newarray .int, 2) := by decide +kernel
theorem dX11_init_147 : decode cX11_init 147 = .ok (.putfield 62, 3) := by decide +kernel
theorem dX11_init_150 : decode cX11_init 150 = .ok (.aload_n 0, 1) := by decide +kernel
theorem dX11_init_151 : decode cX11_init 151 = .ok (.bipush 6, 2) := by decide +kernel
theorem dX11_init_153 : decode cX11_init 153 = .ok (.newarray .int, 2) := by decide +kernel
theorem dX11_init_155 : decode cX11_init 155 = .ok (.putfield 65, 3) := by decide +kernel
theorem dX11_init_158 : decode cX11_init 158 = .ok (.aload_n 0, 1) := by decide +kernel
theorem dX11_init_159 : decode cX11_init 159 = .ok (.bipush 6, 2) := by decide +kernel
theorem dX11_init_161 : decode cX11_init 161 = .ok (.newarray .int, 2) := by decide +kernel
theorem dX11_init_163 : decode cX11_init 163 = .ok (.putfield 68, 3) := by decide +kernel
theorem dX11_init_166 : decode cX11_init 166 = .ok (.aload_n 0, 1) := by decide +kernel
theorem dX11_init_167 : decode cX11_init 167 = .ok (.sipush 360, 3) := by decide +kernel
theorem dX11_init_170 : decode cX11_init 170 = .ok (.newarray .long, 2) := by decide +kernel
theorem dX11_init_172 : decode cX11_init 172 = .ok (.putfield 71, 3) := by decide +kernel
theorem dX11_init_175 : decode cX11_init 175 = .ok (.aload_n 0, 1) := by decide +kernel
theorem dX11_init_176 : decode cX11_init 176 = .ok (.bipush 60, 2) := by decide +kernel
theorem dX11_init_178 : decode cX11_init 178 = .ok (.newarray .long, 2) := by decide +kernel
theorem dX11_init_180 : decode cX11_init 180 = .ok (.putfield 75, 3) := by decide +kernel
theorem dX11_init_183 : decode cX11_init 183 = .ok (.iconst 0, 1) := by decide +kernel
theorem dX11_init_184 : decode cX11_init 184 = .ok (.istore_n 1, 1) := by decide +kernel
theorem dX11_init_185 : decode cX11_init 185 = .ok (.iload_n 1, 1) := by decide +kernel
theorem dX11_init_186 : decode cX11_init 186 = .ok (.bipush 6, 2) := by decide +kernel
theorem dX11_init_188 : decode cX11_init 188 = .ok (.if_icmp .ge 16, 3) := by decide +kernel
theorem dX11_init_191 : decode cX11_init 191 = .ok (.aload_n 0, 1) := by decide +kernel
theorem dX11_init_192 : decode cX11_init 192 = .ok (.getfield 65, 3) := by decide +kernel
theorem dX11_init_195 : decode cX11_init 195 = .ok (.iload_n 1, 1) := by decide +kernel
theorem dX11_init_196 : decode cX11_init 196 = .ok (.iconst (-1), 1) := by decide +kernel
theorem dX11_init_197 : decode cX11_init 197 = .ok (.iastore, 1) := by decide +kernel
theorem dX11_init_198 : decode cX11_init 198 = .ok (.iinc 1 1, 3) := by decide +kernel
theorem dX11_init_201 : decode cX11_init 201 = .ok (.goto (-16), 3) := by decide +kernel
theorem dX11_init_204 : decode cX11_init 204 = .ok (.return_, 1) := by decide +kernel
theorem dX11_becomes_0 : decode cX11_becomes 0 = .ok (.aload_n 0, 1) := by decide +kernel
theorem dX11_becomes_1 : decode cX11_becomes 1 = .ok (.getfield 9, 3) := by decide +kernel
theorem dX11_becomes_4 : decode cX11_becomes 4 = .ok (.iload_n 1, 1) := by decide +kernel
theorem dX11_becomes_5 : decode cX11_becomes 5 = .ok (.iaload, 1) := by decide +kernel
theorem dX11_becomes_6 : decode cX11_becomes 6 = .ok (.istore_n 3, 1) := by decide +kernel
theorem dX11_becomes_7 : decode cX11_becomes 7 = .ok (.iload_n 3, 1) := by decide +kernel
theorem dX11_becomes_8 : decode cX11_becomes 8 = .ok (.iload_n 2, 1) := by decide +kernel
theorem dX11_becomes_9 : decode cX11_becomes 9 = .ok (.if_icmp .ne 5, 3) := by decide +kernel
theorem dX11_becomes_12 : decode cX11_becomes 12 = .ok (.iload_n 3, 1) := by decide +kernel
theorem dX11_becomes_13 : decode cX11_becomes 13 = .ok (.ireturn, 1) := by decide +kernel
theorem dX11_becomes_14 : decode cX11_becomes 14 = .ok (.aload_n 0, 1) := by decide +kernel
theorem dX11_becomes_15 : decode cX11_becomes 15 = .ok (.getfield 78, 3) := by decide +kernel
theorem dX11_becomes_18 : decode cX11_becomes 18 = .ok (.bipush 40, 2) := by decide +kernel
theorem dX11_becomes_20 : decode cX11_becomes 20 = .ok (.if_icmp .ne 77, 3) := by decide +kernel
theorem dX11_becomes_23 : decode cX11_becomes 23 = .ok (.iconst 1, 1) := by decide +kernel
theorem dX11_becomes_24 : decode cX11_becomes 24 = .ok (.istore 4, 2) := by decide +kernel
theorem dX11_becomes_26 : decode cX11_becomes 26 = .ok (.iload 4, 2) := by decide +kernel
theorem dX11_becomes_28 : decode cX11_becomes 28 = .ok (.bipush 40, 2) := by decide +kernel
theorem dX11_becomes_30 : decode cX11_becomes 30 = .ok (.if_icmp .ge 57, 3) := by decide +kernel
theorem dX11_becomes_33 : decode cX11_becomes 33 = .ok (.aload_n 0, 1) := by decide +kernel
theorem dX11_becomes_34 : decode cX11_becomes 34 = .ok (.getfield 13, 3) := by decide +kernel
theorem dX11_becomes_37 : decode cX11_becomes 37 = .ok (.iload 4, 2) := by decide +kernel
theorem dX11_becomes_39 : decode cX11_becomes 39 = .ok (.iconst 1, 1) := by decide +kernel
theorem dX11_becomes_40 : decode cX11_becomes 40 = .ok (.isub, 1) := by decide +kernel
theorem dX11_becomes_41 : decode cX11_becomes 41 = .ok (.aload_n 0, 1) := by decide +kernel
theorem dX11_becomes_42 : decode cX11_becomes 42 = .ok (.getfield 13, 3) := by decide +kernel
theorem dX11_becomes_45 : decode cX11_becomes 45 = .ok (.iload 4, 2) := by decide +kernel
theorem dX11_becomes_47 : decode cX11_becomes 47 = .ok (.iaload, 1) := by decide +kernel
theorem dX11_becomes_48 : decode cX11_becomes 48 = .ok (.iastore, 1) := by decide +kernel
theorem dX11_becomes_49 : decode cX11_becomes 49 = .ok (.aload_n 0, 1) := by decide +kernel
theorem dX11_becomes_50 : decode cX11_becomes 50 = .ok (.getfield 16, 3) := by decide +kernel
theorem dX11_becomes_53 : decode cX11_becomes 53 = .ok (.iload 4, 2) := by decide +kernel
theorem dX11_becomes_55 : decode cX11_becomes 55 = .ok (.iconst 1, 1) := by decide +kernel
theorem dX11_becomes_56 : decode cX11_becomes 56 = .ok (.isub, 1) := by decide +kernel
theorem dX11_becomes_57 : decode cX11_becomes 57 = .ok (.aload_n 0, 1) := by decide +kernel
theorem dX11_becomes_58 : decode cX11_becomes 58 = .ok (.getfield 16, 3) := by decide +kernel
theorem dX11_becomes_61 : decode cX11_becomes 61 = .ok (.iload 4, 2) := by decide +kernel
theorem dX11_becomes_63 : decode cX11_becomes 63 = .ok (.iaload, 1) := by decide +kernel
theorem dX11_becomes_64 : decode cX11_becomes 64 = .ok (.iastore, 1) := by decide +kernel
theorem dX11_becomes_65 : decode cX11_becomes 65 = .ok (.aload_n 0, 1) := by decide +kernel
theorem dX11_becomes_66 : decode cX11_becomes 66 = .ok (.getfield 19, 3) := by decide +kernel
theorem dX11_becomes_69 : decode cX11_becomes 69 = .ok (.iload 4, 2) := by decide +kernel
theorem dX11_becomes_71 : decode cX11_becomes 71 = .ok (.iconst 1, 1) := by decide +kernel
theorem dX11_becomes_72 : decode cX11_becomes 72 = .ok (.isub, 1) := by decide +kernel
theorem dX11_becomes_73 : decode cX11_becomes 73 = .ok (.aload_n 0, 1) := by decide +kernel
theorem dX11_becomes_74 : decode cX11_becomes 74 = .ok (.getfield 19, 3) := by decide +kernel
theorem dX11_becomes_77 : decode cX11_becomes 77 = .ok (.iload 4, 2) := by decide +kernel
theorem dX11_becomes_79 : decode cX11_becomes 79 = .ok (.iaload, 1) := by decide +kernel
theorem dX11_becomes_80 : decode cX11_becomes 80 = .ok (.iastore, 1) := by decide +kernel
theorem dX11_becomes_81 : decode cX11_becomes 81 = .ok (.iinc 4 1, 3) := by decide +kernel
theorem dX11_becomes_84 : decode cX11_becomes 84 = .ok (.goto (-58), 3) := by decide +kernel
theorem dX11_becomes_87 : decode cX11_becomes 87 = .ok (.aload_n 0, 1) := by decide +kernel
theorem dX11_becomes_88 : decode cX11_becomes 88 = .ok (.dup, 1) := by decide +kernel
theorem dX11_becomes_89 : decode cX11_becomes 89 = .ok (.getfield 78, 3) := by decide +kernel
theorem dX11_becomes_92 : decode cX11_becomes 92 = .ok (.iconst 1, 1) := by decide +kernel
theorem dX11_becomes_93 : decode cX11_becomes 93 = .ok (.isub, 1) := by decide +kernel
theorem dX11_becomes_94 : decode cX11_becomes 94 = .ok (.putfield 78, 3) := by decide +kernel
theorem dX11_becomes_97 : decode cX11_becomes 97 = .ok (.aload_n 0, 1) := by decide +kernel
theorem dX11_becomes_98 : decode cX11_becomes 98 = .ok (.getfield 13, 3) := by decide +kernel
theorem dX11_becomes_101 : decode cX11_becomes 101 = .ok (.aload_n 0, 1) := by decide +kernel
theorem dX11_becomes_102 : decode cX11_becomes 102 = .ok (.getfield 78, 3) := by decide +kernel
theorem dX11_becomes_105 : decode cX11_becomes 105 = .ok (.iload_n 1, 1) := by decide +kernel
theorem dX11_becomes_106 : decode cX11_becomes 106 = .ok (.iastore, 1) := by decide +kernel
theorem dX11_becomes_107 : decode cX11_becomes 107 = .ok (.aload_n 0, 1) := by decide +kernel
theorem dX11_becomes_108 : decode cX11_becomes 108 = .ok (.getfield 16, 3) := by decide +kernel
theorem dX11_becomes_111 : decode cX11_becomes 111 = .ok (.aload_n 0, 1) := by decide +kernel
theorem dX11_becomes_112 : decode cX11_becomes 112 = .ok (.getfield 78, 3) := by decide +kernel
theorem dX11_becomes_115 : decode cX11_becomes 115 = .ok (.iload_n 3, 1) := by decide +kernel
theorem dX11_becomes_116 : decode cX11_becomes 116 = .ok (.iastore, 1) := by decide +kernel
theorem dX11_becomes_117 : decode cX11_becomes 117 = .ok (.aload_n 0, 1) := by decide +kernel
theorem dX11_becomes_118 : decode cX11_becomes 118 = .ok (.getfield 19, 3) := by decide +kernel
theorem dX11_becomes_121 : decode cX11_becomes 121 = .ok (.aload_n 0, 1) := by decide +kernel
theorem dX11_becomes_122 : decode cX11_becomes 122 = .ok (.getfield 78, 3) := by decide +kernel
theorem dX11_becomes_125 : decode cX11_becomes 125 = .ok (.iload_n 2, 1) := by decide +kernel
theorem dX11_becomes_126 : decode cX11_becomes 126 = .ok (.iastore, 1) := by decide +kernel
theorem dX11_becomes_127 : decode cX11_becomes 127 = .ok (.aload_n 0, 1) := by decide +kernel
theorem dX11_becomes_128 : decode cX11_becomes 128 = .ok (.dup, 1) := by decide +kernel
theorem dX11_becomes_129 : decode cX11_becomes 129 = .ok (.getfield 78, 3) := by decide +kernel
theorem dX11_becomes_132 : decode cX11_becomes 132 = .ok (.iconst 1, 1) := by decide +kernel
theorem dX11_becomes_133 : decode cX11_becomes 133 = .ok (.iadd, 1) := by decide +kernel
theorem dX11_becomes_134 : decode cX11_becomes 134 = .ok (.putfield 78, 3) := by decide +kernel
theorem dX11_becomes_137 : decode cX11_becomes 137 = .ok (.aload_n 0, 1) := by decide +kernel
theorem dX11_becomes_138 : decode cX11_becomes 138 = .ok (.aload_n 0, 1) := by decide +kernel
theorem dX11_becomes_139 : decode cX11_becomes 139 = .ok (.getfield 78, 3) := by decide +kernel
theorem dX11_becomes_142 : decode cX11_becomes 142 = .ok (.putfield 82, 3) := by decide +kernel
theorem dX11_becomes_145 : decode cX11_becomes 145 = .ok (.aload_n 0, 1) := by decide +kernel
theorem dX11_becomes_146 : decode cX11_becomes 146 = .ok (.getfield 9, 3) := by decide +kernel
theorem dX11_becomes_149 : decode cX11_becomes 149 = .ok (.iload_n 1, 1) := by decide +kernel
theorem dX11_becomes_150 : decode cX11_becomes 150 = .ok (.iload_n 2, 1) := by decide +kernel
theorem dX11_becomes_151 : decode cX11_becomes 151 = .ok (.iastore, 1) := by decide +kernel
theorem dX11_becomes_152 : decode cX11_becomes 152 = .ok (.iload_n 3, 1) := by decide +kernel
theorem dX11_becomes_153 : decode cX11_becomes 153 = .ok (.ireturn, 1) := by decide +kernel
theorem dX11_undo_0 : decode cX11_undo 0 = .ok (.aload_n 0, 1) := by decide +kernel
theorem dX11_undo_1 : decode cX11_undo 1 = .ok (.getfield 78, 3) := by decide +kernel
theorem dX11_undo_4 : decode cX11_undo 4 = .ok (.ifCond .ne 6, 3) := by decide +kernel
theorem dX11_undo_7 : decode cX11_undo 7 = .ok (.bipush (-5), 2) := by decide +kernel
theorem dX11_undo_9 : decode cX11_undo 9 = .ok (.ireturn, 1) := by decide +kernel
theorem dX11_undo_10 : decode cX11_undo 10 = .ok (.aload_n 0, 1) := by decide +kernel
theorem dX11_undo_11 : decode cX11_undo 11 = .ok (.dup, 1) := by decide +kernel
theorem dX11_undo_12 : decode cX11_undo 12 = .ok (.getfield 78, 3) := by decide +kernel
theorem dX11_undo_15 : decode cX11_undo 15 = .ok (.iconst 1, 1) := by decide +kernel
theorem dX11_undo_16 : decode cX11_undo 16 = .ok (.isub, 1) := by decide +kernel
theorem dX11_undo_17 : decode cX11_undo 17 = .ok (.putfield 78, 3) := by decide +kernel
theorem dX11_undo_20 : decode cX11_undo 20 = .ok (.aload_n 0, 1) := by decide +kernel
theorem dX11_undo_21 : decode cX11_undo 21 = .ok (.getfield 9, 3) := by decide +kernel
theorem dX11_undo_24 : decode cX11_undo 24 = .ok (.aload_n 0, 1) := by decide +kernel
theorem dX11_undo_25 : decode cX11_undo 25 = .ok (.getfield 13, 3) := by decide +kernel
theorem dX11_undo_28 : decode cX11_undo 28 = .ok (.aload_n 0, 1) := by decide +kernel
theorem dX11_undo_29 : decode cX11_undo 29 = .ok (.getfield 78, 3) := by decide +kernel
theorem dX11_undo_32 : decode cX11_undo 32 = .ok (.iaload, 1) := by decide +kernel
theorem dX11_undo_33 : decode cX11_undo 33 = .ok (.aload_n 0, 1) := by decide +kernel
theorem dX11_undo_34 : decode cX11_undo 34 = .ok (.getfield 16, 3) := by decide +kernel
theorem dX11_undo_37 : decode cX11_undo 37 = .ok (.aload_n 0, 1) := by decide +kernel
theorem dX11_undo_38 : decode cX11_undo 38 = .ok (.getfield 78, 3) := by decide +kernel
theorem dX11_undo_41 : decode cX11_undo 41 = .ok (.iaload, 1) := by decide +kernel
theorem dX11_undo_42 : decode cX11_undo 42 = .ok (.iastore, 1) := by decide +kernel
theorem dX11_undo_43 : decode cX11_undo 43 = .ok (.aload_n 0, 1) := by decide +kernel
theorem dX11_undo_44 : decode cX11_undo 44 = .ok (.getfield 78, 3) := by decide +kernel
theorem dX11_undo_47 : decode cX11_undo 47 = .ok (.ireturn, 1) := by decide +kernel
theorem dX11_redo_0 : decode cX11_redo 0 = .ok (.aload_n 0, 1) := by decide +kernel
theorem dX11_redo_1 : decode cX11_redo 1 = .ok (.getfield 78, 3) := by decide +kernel
theorem dX11_redo_4 : decode cX11_redo 4 = .ok (.aload_n 0, 1) := by decide +kernel
theorem dX11_redo_5 : decode cX11_redo 5 = .ok (.getfield 82, 3) := by decide +kernel
theorem dX11_redo_8 : decode cX11_redo 8 = .ok (.if_icmp .ne 6, 3) := by decide +kernel
theorem dX11_redo_11 : decode cX11_redo 11 = .ok (.bipush (-5), 2) := by decide +kernel
theorem dX11_redo_13 : decode cX11_redo 13 = .ok (.ireturn, 1) := by decide +kernel
theorem dX11_redo_14 : decode cX11_redo 14 = .ok (.aload_n 0, 1) := by decide +kernel
theorem dX11_redo_15 : decode cX11_redo 15 = .ok (.getfield 9, 3) := by decide +kernel
theorem dX11_redo_18 : decode cX11_redo 18 = .ok (.aload_n 0, 1) := by decide +kernel
theorem dX11_redo_19 : decode cX11_redo 19 = .ok (.getfield 13, 3) := by decide +kernel
theorem dX11_redo_22 : decode cX11_redo 22 = .ok (.aload_n 0, 1) := by decide +kernel
theorem dX11_redo_23 : decode cX11_redo 23 = .ok (.getfield 78, 3) := by decide +kernel
theorem dX11_redo_26 : decode cX11_redo 26 = .ok (.iaload, 1) := by decide +kernel
theorem dX11_redo_27 : decode cX11_redo 27 = .ok (.aload_n 0, 1) := by decide +kernel
theorem dX11_redo_28 : decode cX11_redo 28 = .ok (.getfield 19, 3) := by decide +kernel
theorem dX11_redo_31 : decode cX11_redo 31 = .ok (.aload_n 0, 1) := by decide +kernel
theorem dX11_redo_32 : decode cX11_redo 32 = .ok (.getfield 78, 3) := by decide +kernel
theorem dX11_redo_35 : decode cX11_redo 35 = .ok (.iaload, 1) := by decide +kernel
theorem dX11_redo_36 : decode cX11_redo 36 = .ok (.iastore, 1) := by decide +kernel
theorem dX11_redo_37 : decode cX11_redo 37 = .ok (.aload_n 0, 1) := by decide +kernel
theorem dX11_redo_38 : decode cX11_redo 38 = .ok (.dup, 1) := by decide +kernel
theorem dX11_redo_39 : decode cX11_redo 39 = .ok (.getfield 78, 3) := by decide +kernel
theorem dX11_redo_42 : decode cX11_redo 42 = .ok (.iconst 1, 1) := by decide +kernel
theorem dX11_redo_43 : decode cX11_redo 43 = .ok (.iadd, 1) := by decide +kernel
theorem dX11_redo_44 : decode cX11_redo 44 = .ok (.putfield 78, 3) := by decide +kernel
theorem dX11_redo_47 : decode cX11_redo 47 = .ok (.aload_n 0, 1) := by decide +kernel
theorem dX11_redo_48 : decode cX11_redo 48 = .ok (.getfield 82, 3) := by decide +kernel
theorem dX11_redo_51 : decode cX11_redo 51 = .ok (.aload_n 0, 1) := by decide +kernel
theorem dX11_redo_52 : decode cX11_redo 52 = .ok (.getfield 78, 3) := by decide +kernel
theorem dX11_redo_55 : decode cX11_redo 55 = .ok (.isub, 1) := by decide +kernel
theorem dX11_redo_56 : decode cX11_redo 56 = .ok (.ireturn, 1) := by decide +kernel
theorem dX11_isSaying_0 : decode cX11_isSaying 0 = .ok (.iload_n 1, 1) := by decide +kernel
theorem dX11_isSaying_1 : decode cX11_isSaying 1 = .ok (.i2l, 1) := by decide +kernel
theorem dX11_isSaying_2 : decode cX11_isSaying 2 = .ok (.lconst 0, 1) := by decide +kernel
theorem dX11_isSaying_3 : decode cX11_isSaying 3 = .ok (.aload_n 0, 1) := by decide +kernel
theorem dX11_isSaying_4 : decode cX11_isSaying 4 = .ok (.getfield 85, 3) := by decide +kernel
theorem dX11_isSaying_7 : decode cX11_isSaying 7 = .ok (.iconst 1, 1) := by decide +kernel
theorem dX11_isSaying_8 : decode cX11_isSaying 8 = .ok (.isub, 1) := by decide +kernel
theorem dX11_isSaying_9 : decode cX11_isSaying 9 = .ok (.i2l, 1) := by decide +kernel
theorem dX11_isSaying_10 : decode cX11_isSaying 10 = .ok (.invokestatic 88, 3) := by decide +kernel
theorem dX11_isSaying_13 : decode cX11_isSaying 13 = .ok (.ireturn, 1) := by decide +kernel
theorem dX11_isOne_0 : decode cX11_isOne 0 = .ok (.lload_n 0, 1) := by decide +kernel
theorem dX11_isOne_1 : decode cX11_isOne 1 = .ok (.lconst 0, 1) := by decide +kernel
theorem dX11_isOne_2 : decode cX11_isOne 2 = .ok (.ldc2_w 92, 3) := by decide +kernel
theorem dX11_isOne_5 : decode cX11_isOne 5 = .ok (.invokestatic 88, 3) := by decide +kernel
theorem dX11_isOne_8 : decode cX11_isOne 8 = .ok (.ifCond .eq 42, 3) := by decide +kernel
theorem dX11_isOne_11 : decode cX11_isOne 11 = .ok (.lload_n 2, 1) := by decide +kernel
theorem dX11_isOne_12 : decode cX11_isOne 12 = .ok (.lconst 0, 1) := by decide +kernel
theorem dX11_isOne_13 : decode cX11_isOne 13 = .ok (.ldc2_w 94, 3) := by decide +kernel
theorem dX11_isOne_16 : decode cX11_isOne 16 = .ok (.invokestatic 88, 3) := by decide +kernel
theorem dX11_isOne_19 : decode cX11_isOne 19 = .ok (.ifCond .eq 31, 3) := by decide +kernel
theorem dX11_isOne_22 : decode cX11_isOne 22 = .ok (.lload 4, 2) := by decide +kernel
theorem dX11_isOne_24 : decode cX11_isOne 24 = .ok (.lconst 0, 1) := by decide +kernel
theorem dX11_isOne_25 : decode cX11_isOne 25 = .ok (.ldc2_w 96, 3) := by decide +kernel
theorem dX11_isOne_28 : decode cX11_isOne 28 = .ok (.invokestatic 88, 3) := by decide +kernel
theorem dX11_isOne_31 : decode cX11_isOne 31 = .ok (.ifCond .eq 19, 3) := by decide +kernel
theorem dX11_isOne_34 : decode cX11_isOne 34 = .ok (.lload 6, 2) := by decide +kernel
theorem dX11_isOne_36 : decode cX11_isOne 36 = .ok (.lconst 1, 1) := by decide +kernel
theorem dX11_isOne_37 : decode cX11_isOne 37 = .ok (.ldc2_w 98, 3) := by decide +kernel
theorem dX11_isOne_40 : decode cX11_isOne 40 = .ok (.invokestatic 88, 3) := by decide +kernel
theorem dX11_isOne_43 : decode cX11_isOne 43 = .ok (.ifCond .eq 7, 3) := by decide +kernel
theorem dX11_isOne_46 : decode cX11_isOne 46 = .ok (.iconst 1, 1) := by decide +kernel
theorem dX11_isOne_47 : decode cX11_isOne 47 = .ok (.goto 4, 3) := by decide +kernel
theorem dX11_isOne_50 : decode cX11_isOne 50 = .ok (.iconst 0, 1) := by decide +kernel
theorem dX11_isOne_51 : decode cX11_isOne 51 = .ok (.ireturn, 1) := by decide +kernel
theorem dX11_adds_0 : decode cX11_adds 0 = .ok (.aload_n 0, 1) := by decide +kernel
theorem dX11_adds_1 : decode cX11_adds 1 = .ok (.getfield 9, 3) := by decide +kernel
theorem dX11_adds_4 : decode cX11_adds 4 = .ok (.aload_n 0, 1) := by decide +kernel
theorem dX11_adds_5 : decode cX11_adds 5 = .ok (.getfield 85, 3) := by decide +kernel
theorem dX11_adds_8 : decode cX11_adds 8 = .ok (.iload_n 1, 1) := by decide +kernel
theorem dX11_adds_9 : decode cX11_adds 9 = .ok (.iastore, 1) := by decide +kernel
theorem dX11_adds_10 : decode cX11_adds 10 = .ok (.aload_n 0, 1) := by decide +kernel
theorem dX11_adds_11 : decode cX11_adds 11 = .ok (.getfield 9, 3) := by decide +kernel
theorem dX11_adds_14 : decode cX11_adds 14 = .ok (.bipush 16, 2) := by decide +kernel
theorem dX11_adds_16 : decode cX11_adds 16 = .ok (.aload_n 0, 1) := by decide +kernel
theorem dX11_adds_17 : decode cX11_adds 17 = .ok (.getfield 85, 3) := by decide +kernel
theorem dX11_adds_20 : decode cX11_adds 20 = .ok (.iadd, 1) := by decide +kernel
theorem dX11_adds_21 : decode cX11_adds 21 = .ok (.iload_n 2, 1) := by decide +kernel
theorem dX11_adds_22 : decode cX11_adds 22 = .ok (.iastore, 1) := by decide +kernel
theorem dX11_adds_23 : decode cX11_adds 23 = .ok (.aload_n 0, 1) := by decide +kernel
theorem dX11_adds_24 : decode cX11_adds 24 = .ok (.getfield 9, 3) := by decide +kernel
theorem dX11_adds_27 : decode cX11_adds 27 = .ok (.bipush 32, 2) := by decide +kernel
theorem dX11_adds_29 : decode cX11_adds 29 = .ok (.aload_n 0, 1) := by decide +kernel
theorem dX11_adds_30 : decode cX11_adds 30 = .ok (.getfield 85, 3) := by decide +kernel
theorem dX11_adds_33 : decode cX11_adds 33 = .ok (.iadd, 1) := by decide +kernel
theorem dX11_adds_34 : decode cX11_adds 34 = .ok (.iload_n 3, 1) := by decide +kernel
theorem dX11_adds_35 : decode cX11_adds 35 = .ok (.iastore, 1) := by decide +kernel
theorem dX11_adds_36 : decode cX11_adds 36 = .ok (.aload_n 0, 1) := by decide +kernel
theorem dX11_adds_37 : decode cX11_adds 37 = .ok (.getfield 9, 3) := by decide +kernel
theorem dX11_adds_40 : decode cX11_adds 40 = .ok (.bipush 48, 2) := by decide +kernel
theorem dX11_adds_42 : decode cX11_adds 42 = .ok (.aload_n 0, 1) := by decide +kernel
theorem dX11_adds_43 : decode cX11_adds 43 = .ok (.getfield 85, 3) := by decide +kernel
theorem dX11_adds_46 : decode cX11_adds 46 = .ok (.iadd, 1) := by decide +kernel
theorem dX11_adds_47 : decode cX11_adds 47 = .ok (.iload 4, 2) := by decide +kernel
theorem dX11_adds_49 : decode cX11_adds 49 = .ok (.iastore, 1) := by decide +kernel
theorem dX11_adds_50 : decode cX11_adds 50 = .ok (.aload_n 0, 1) := by decide +kernel
theorem dX11_adds_51 : decode cX11_adds 51 = .ok (.dup, 1) := by decide +kernel
theorem dX11_adds_52 : decode cX11_adds 52 = .ok (.getfield 85, 3) := by decide +kernel
theorem dX11_adds_55 : decode cX11_adds 55 = .ok (.iconst 1, 1) := by decide +kernel
theorem dX11_adds_56 : decode cX11_adds 56 = .ok (.iadd, 1) := by decide +kernel
theorem dX11_adds_57 : decode cX11_adds 57 = .ok (.putfield 85, 3) := by decide +kernel
theorem dX11_adds_60 : decode cX11_adds 60 = .ok (.return_, 1) := by decide +kernel
theorem dX11_saying_0 : decode cX11_saying 0 = .ok (.iload_n 1, 1) := by decide +kernel
theorem dX11_saying_1 : decode cX11_saying 1 = .ok (.ifCond .lt 33, 3) := by decide +kernel
theorem dX11_saying_4 : decode cX11_saying 4 = .ok (.iload_n 2, 1) := by decide +kernel
theorem dX11_saying_5 : decode cX11_saying 5 = .ok (.ifCond .lt 29, 3) := by decide +kernel
theorem dX11_saying_8 : decode cX11_saying 8 = .ok (.iload_n 1, 1) := by decide +kernel
theorem dX11_saying_9 : decode cX11_saying 9 = .ok (.bipush 10, 2) := by decide +kernel
theorem dX11_saying_11 : decode cX11_saying 11 = .ok (.idiv, 1) := by decide +kernel
theorem dX11_saying_12 : decode cX11_saying 12 = .ok (.i2l, 1) := by decide +kernel
theorem dX11_saying_13 : decode cX11_saying 13 = .ok (.iload_n 1, 1) := by decide +kernel
theorem dX11_saying_14 : decode cX11_saying 14 = .ok (.bipush 10, 2) := by decide +kernel
theorem dX11_saying_16 : decode cX11_saying 16 = .ok (.irem, 1) := by decide +kernel
theorem dX11_saying_17 : decode cX11_saying 17 = .ok (.i2l, 1) := by decide +kernel
theorem dX11_saying_18 : decode cX11_saying 18 = .ok (.iload_n 2, 1) := by decide +kernel
theorem dX11_saying_19 : decode cX11_saying 19 = .ok (.bipush 100, 2) := by decide +kernel
theorem dX11_saying_21 : decode cX11_saying 21 = .ok (.idiv, 1) := by decide +kernel
theorem dX11_saying_22 : decode cX11_saying 22 = .ok (.i2l, 1) := by decide +kernel
theorem dX11_saying_23 : decode cX11_saying 23 = .ok (.iload_n 2, 1) := by decide +kernel
theorem dX11_saying_24 : decode cX11_saying 24 = .ok (.bipush 100, 2) := by decide +kernel
theorem dX11_saying_26 : decode cX11_saying 26 = .ok (.irem, 1) := by decide +kernel
theorem dX11_saying_27 : decode cX11_saying 27 = .ok (.i2l, 1) := by decide +kernel
theorem dX11_saying_28 : decode cX11_saying 28 = .ok (.invokestatic 100, 3) := by decide +kernel
theorem dX11_saying_31 : decode cX11_saying 31 = .ok (.ifCond .ne 5, 3) := by decide +kernel
theorem dX11_saying_34 : decode cX11_saying 34 = .ok (.iconst (-1), 1) := by decide +kernel
theorem dX11_saying_35 : decode cX11_saying 35 = .ok (.ireturn, 1) := by decide +kernel
theorem dX11_saying_36 : decode cX11_saying 36 = .ok (.aload_n 0, 1) := by decide +kernel
theorem dX11_saying_37 : decode cX11_saying 37 = .ok (.getfield 85, 3) := by decide +kernel
theorem dX11_saying_40 : decode cX11_saying 40 = .ok (.bipush 16, 2) := by decide +kernel
theorem dX11_saying_42 : decode cX11_saying 42 = .ok (.if_icmp .ne 6, 3) := by decide +kernel
theorem dX11_saying_45 : decode cX11_saying 45 = .ok (.bipush (-3), 2) := by decide +kernel
theorem dX11_saying_47 : decode cX11_saying 47 = .ok (.ireturn, 1) := by decide +kernel
theorem dX11_saying_48 : decode cX11_saying 48 = .ok (.aload_n 0, 1) := by decide +kernel
theorem dX11_saying_49 : decode cX11_saying 49 = .ok (.iload_n 1, 1) := by decide +kernel
theorem dX11_saying_50 : decode cX11_saying 50 = .ok (.bipush 10, 2) := by decide +kernel
theorem dX11_saying_52 : decode cX11_saying 52 = .ok (.idiv, 1) := by decide +kernel
theorem dX11_saying_53 : decode cX11_saying 53 = .ok (.iload_n 1, 1) := by decide +kernel
theorem dX11_saying_54 : decode cX11_saying 54 = .ok (.bipush 10, 2) := by decide +kernel
theorem dX11_saying_56 : decode cX11_saying 56 = .ok (.irem, 1) := by decide +kernel
theorem dX11_saying_57 : decode cX11_saying 57 = .ok (.iload_n 2, 1) := by decide +kernel
theorem dX11_saying_58 : decode cX11_saying 58 = .ok (.bipush 100, 2) := by decide +kernel
theorem dX11_saying_60 : decode cX11_saying 60 = .ok (.idiv, 1) := by decide +kernel
theorem dX11_saying_61 : decode cX11_saying 61 = .ok (.iload_n 2, 1) := by decide +kernel
theorem dX11_saying_62 : decode cX11_saying 62 = .ok (.bipush 100, 2) := by decide +kernel
theorem dX11_saying_64 : decode cX11_saying 64 = .ok (.irem, 1) := by decide +kernel
theorem dX11_saying_65 : decode cX11_saying 65 = .ok (.invokevirtual 104, 3) := by decide +kernel
theorem dX11_saying_68 : decode cX11_saying 68 = .ok (.aload_n 0, 1) := by decide +kernel
theorem dX11_saying_69 : decode cX11_saying 69 = .ok (.getfield 85, 3) := by decide +kernel
theorem dX11_saying_72 : decode cX11_saying 72 = .ok (.iconst 1, 1) := by decide +kernel
theorem dX11_saying_73 : decode cX11_saying 73 = .ok (.isub, 1) := by decide +kernel
theorem dX11_saying_74 : decode cX11_saying 74 = .ok (.ireturn, 1) := by decide +kernel
theorem dX11_isShelf_0 : decode cX11_isShelf 0 = .ok (.iload_n 0, 1) := by decide +kernel
theorem dX11_isShelf_1 : decode cX11_isShelf 1 = .ok (.i2l, 1) := by decide +kernel
theorem dX11_isShelf_2 : decode cX11_isShelf 2 = .ok (.lconst 0, 1) := by decide +kernel
theorem dX11_isShelf_3 : decode cX11_isShelf 3 = .ok (.ldc2_w 295, 3) := by decide +kernel
theorem dX11_isShelf_6 : decode cX11_isShelf 6 = .ok (.invokestatic 88, 3) := by decide +kernel
theorem dX11_isShelf_9 : decode cX11_isShelf 9 = .ok (.ireturn, 1) := by decide +kernel
theorem dX11_sayings_0 : decode cX11_sayings 0 = .ok (.iload_n 1, 1) := by decide +kernel
theorem dX11_sayings_1 : decode cX11_sayings 1 = .ok (.invokestatic 108, 3) := by decide +kernel
theorem dX11_sayings_4 : decode cX11_sayings 4 = .ok (.ifCond .eq 15, 3) := by decide +kernel
theorem dX11_sayings_7 : decode cX11_sayings 7 = .ok (.iload_n 3, 1) := by decide +kernel
theorem dX11_sayings_8 : decode cX11_sayings 8 = .ok (.i2l, 1) := by decide +kernel
theorem dX11_sayings_9 : decode cX11_sayings 9 = .ok (.lconst 1, 1) := by decide +kernel
theorem dX11_sayings_10 : decode cX11_sayings 10 = .ok (.ldc2_w 112, 3) := by decide +kernel
theorem dX11_sayings_13 : decode cX11_sayings 13 = .ok (.invokestatic 88, 3) := by decide +kernel
theorem dX11_sayings_16 : decode cX11_sayings 16 = .ok (.ifCond .ne 5, 3) := by decide +kernel
theorem dX11_sayings_19 : decode cX11_sayings 19 = .ok (.iconst (-1), 1) := by decide +kernel
theorem dX11_sayings_20 : decode cX11_sayings 20 = .ok (.ireturn, 1) := by decide +kernel
theorem dX11_sayings_21 : decode cX11_sayings 21 = .ok (.aload_n 0, 1) := by decide +kernel
theorem dX11_sayings_22 : decode cX11_sayings 22 = .ok (.getfield 65, 3) := by decide +kernel
theorem dX11_sayings_25 : decode cX11_sayings 25 = .ok (.iload_n 1, 1) := by decide +kernel
theorem dX11_sayings_26 : decode cX11_sayings 26 = .ok (.iaload, 1) := by decide +kernel
theorem dX11_sayings_27 : decode cX11_sayings 27 = .ok (.ifCond .lt 17, 3) := by decide +kernel
theorem dX11_sayings_30 : decode cX11_sayings 30 = .ok (.aload_n 0, 1) := by decide +kernel
theorem dX11_sayings_31 : decode cX11_sayings 31 = .ok (.getfield 65, 3) := by decide +kernel
theorem dX11_sayings_34 : decode cX11_sayings 34 = .ok (.iload_n 1, 1) := by decide +kernel
theorem dX11_sayings_35 : decode cX11_sayings 35 = .ok (.iaload, 1) := by decide +kernel
theorem dX11_sayings_36 : decode cX11_sayings 36 = .ok (.bipush 50, 2) := by decide +kernel
theorem dX11_sayings_38 : decode cX11_sayings 38 = .ok (.if_icmp .eq 6, 3) := by decide +kernel
theorem dX11_sayings_41 : decode cX11_sayings 41 = .ok (.bipush (-12), 2) := by decide +kernel
theorem dX11_sayings_43 : decode cX11_sayings 43 = .ok (.ireturn, 1) := by decide +kernel
theorem dX11_sayings_44 : decode cX11_sayings 44 = .ok (.iconst 0, 1) := by decide +kernel
theorem dX11_sayings_45 : decode cX11_sayings 45 = .ok (.istore 4, 2) := by decide +kernel
theorem dX11_sayings_47 : decode cX11_sayings 47 = .ok (.aload_n 0, 1) := by decide +kernel
theorem dX11_sayings_48 : decode cX11_sayings 48 = .ok (.getfield 65, 3) := by decide +kernel
theorem dX11_sayings_51 : decode cX11_sayings 51 = .ok (.iload_n 1, 1) := by decide +kernel
theorem dX11_sayings_52 : decode cX11_sayings 52 = .ok (.iaload, 1) := by decide +kernel
theorem dX11_sayings_53 : decode cX11_sayings 53 = .ok (.bipush 50, 2) := by decide +kernel
theorem dX11_sayings_55 : decode cX11_sayings 55 = .ok (.if_icmp .ne 11, 3) := by decide +kernel
theorem dX11_sayings_58 : decode cX11_sayings 58 = .ok (.iload_n 2, 1) := by decide +kernel
theorem dX11_sayings_59 : decode cX11_sayings 59 = .ok (.ifCond .lt 7, 3) := by decide +kernel
theorem dX11_sayings_62 : decode cX11_sayings 62 = .ok (.iconst 1, 1) := by decide +kernel
theorem dX11_sayings_63 : decode cX11_sayings 63 = .ok (.goto 4, 3) := by decide +kernel
theorem dX11_sayings_66 : decode cX11_sayings 66 = .ok (.iconst 0, 1) := by decide +kernel
theorem dX11_sayings_67 : decode cX11_sayings 67 = .ok (.istore 5, 2) := by decide +kernel
theorem dX11_sayings_69 : decode cX11_sayings 69 = .ok (.iload 5, 2) := by decide +kernel
theorem dX11_sayings_71 : decode cX11_sayings 71 = .ok (.ifCond .eq 160, 3) := by decide +kernel
theorem dX11_sayings_74 : decode cX11_sayings 74 = .ok (.iload 4, 2) := by decide +kernel
theorem dX11_sayings_76 : decode cX11_sayings 76 = .ok (.iload_n 3, 1) := by decide +kernel
theorem dX11_sayings_77 : decode cX11_sayings 77 = .ok (.if_icmp .ge 154, 3) := by decide +kernel
theorem dX11_sayings_80 : decode cX11_sayings 80 = .ok (.iload_n 2, 1) := by decide +kernel
theorem dX11_sayings_81 : decode cX11_sayings 81 = .ok (.aload_n 0, 1) := by decide +kernel
theorem dX11_sayings_82 : decode cX11_sayings 82 = .ok (.getfield 68, 3) := by decide +kernel
theorem dX11_sayings_85 : decode cX11_sayings 85 = .ok (.iload_n 1, 1) := by decide +kernel
theorem dX11_sayings_86 : decode cX11_sayings 86 = .ok (.iaload, 1) := by decide +kernel
theorem dX11_sayings_87 : decode cX11_sayings 87 = .ok (.iconst 4, 1) := by decide +kernel
theorem dX11_sayings_88 : decode cX11_sayings 88 = .ok (.isub, 1) := by decide +kernel
theorem dX11_sayings_89 : decode cX11_sayings 89 = .ok (.iconst 4, 1) := by decide +kernel
theorem dX11_sayings_90 : decode cX11_sayings 90 = .ok (.iload 4, 2) := by decide +kernel
theorem dX11_sayings_92 : decode cX11_sayings 92 = .ok (.imul, 1) := by decide +kernel
theorem dX11_sayings_93 : decode cX11_sayings 93 = .ok (.isub, 1) := by decide +kernel
theorem dX11_sayings_94 : decode cX11_sayings 94 = .ok (.if_icmp .gt 16, 3) := by decide +kernel
theorem dX11_sayings_97 : decode cX11_sayings 97 = .ok (.aload_n 0, 1) := by decide +kernel
theorem dX11_sayings_98 : decode cX11_sayings 98 = .ok (.getfield 85, 3) := by decide +kernel
theorem dX11_sayings_101 : decode cX11_sayings 101 = .ok (.bipush 16, 2) := by decide +kernel
theorem dX11_sayings_103 : decode cX11_sayings 103 = .ok (.if_icmp .ge 7, 3) := by decide +kernel
theorem dX11_sayings_106 : decode cX11_sayings 106 = .ok (.iconst 1, 1) := by decide +kernel
theorem dX11_sayings_107 : decode cX11_sayings 107 = .ok (.goto 4, 3) := by decide +kernel
theorem dX11_sayings_110 : decode cX11_sayings 110 = .ok (.iconst 0, 1) := by decide +kernel
theorem dX11_sayings_111 : decode cX11_sayings 111 = .ok (.istore 5, 2) := by decide +kernel
theorem dX11_sayings_113 : decode cX11_sayings 113 = .ok (.bipush 60, 2) := by decide +kernel
theorem dX11_sayings_115 : decode cX11_sayings 115 = .ok (.iload_n 1, 1) := by decide +kernel
theorem dX11_sayings_116 : decode cX11_sayings 116 = .ok (.imul, 1) := by decide +kernel
theorem dX11_sayings_117 : decode cX11_sayings 117 = .ok (.iload_n 2, 1) := by decide +kernel
theorem dX11_sayings_118 : decode cX11_sayings 118 = .ok (.iadd, 1) := by decide +kernel
theorem dX11_sayings_119 : decode cX11_sayings 119 = .ok (.iconst 4, 1) := by decide +kernel
theorem dX11_sayings_120 : decode cX11_sayings 120 = .ok (.iload 4, 2) := by decide +kernel
theorem dX11_sayings_122 : decode cX11_sayings 122 = .ok (.imul, 1) := by decide +kernel
theorem dX11_sayings_123 : decode cX11_sayings 123 = .ok (.iadd, 1) := by decide +kernel
theorem dX11_sayings_124 : decode cX11_sayings 124 = .ok (.istore 6, 2) := by decide +kernel
theorem dX11_sayings_126 : decode cX11_sayings 126 = .ok (.iload 5, 2) := by decide +kernel
theorem dX11_sayings_128 : decode cX11_sayings 128 = .ok (.ifCond .eq 47, 3) := by decide +kernel
theorem dX11_sayings_131 : decode cX11_sayings 131 = .ok (.aload_n 0, 1) := by decide +kernel
theorem dX11_sayings_132 : decode cX11_sayings 132 = .ok (.getfield 71, 3) := by decide +kernel
theorem dX11_sayings_135 : decode cX11_sayings 135 = .ok (.iload 6, 2) := by decide +kernel
theorem dX11_sayings_137 : decode cX11_sayings 137 = .ok (.laload, 1) := by decide +kernel
theorem dX11_sayings_138 : decode cX11_sayings 138 = .ok (.aload_n 0, 1) := by decide +kernel
theorem dX11_sayings_139 : decode cX11_sayings 139 = .ok (.getfield 71, 3) := by decide +kernel
theorem dX11_sayings_142 : decode cX11_sayings 142 = .ok (.iload 6, 2) := by decide +kernel
theorem dX11_sayings_144 : decode cX11_sayings 144 = .ok (.iconst 1, 1) := by decide +kernel
theorem dX11_sayings_145 : decode cX11_sayings 145 = .ok (.iadd, 1) := by decide +kernel
theorem dX11_sayings_146 : decode cX11_sayings 146 = .ok (.laload, 1) := by decide +kernel
theorem dX11_sayings_147 : decode cX11_sayings 147 = .ok (.aload_n 0, 1) := by decide +kernel
theorem dX11_sayings_148 : decode cX11_sayings 148 = .ok (.getfield 71, 3) := by decide +kernel
theorem dX11_sayings_151 : decode cX11_sayings 151 = .ok (.iload 6, 2) := by decide +kernel
theorem dX11_sayings_153 : decode cX11_sayings 153 = .ok (.iconst 2, 1) := by decide +kernel
theorem dX11_sayings_154 : decode cX11_sayings 154 = .ok (.iadd, 1) := by decide +kernel
theorem dX11_sayings_155 : decode cX11_sayings 155 = .ok (.laload, 1) := by decide +kernel
theorem dX11_sayings_156 : decode cX11_sayings 156 = .ok (.aload_n 0, 1) := by decide +kernel
theorem dX11_sayings_157 : decode cX11_sayings 157 = .ok (.getfield 71, 3) := by decide +kernel
theorem dX11_sayings_160 : decode cX11_sayings 160 = .ok (.iload 6, 2) := by decide +kernel
theorem dX11_sayings_162 : decode cX11_sayings 162 = .ok (.iconst 3, 1) := by decide +kernel
theorem dX11_sayings_163 : decode cX11_sayings 163 = .ok (.iadd, 1) := by decide +kernel
theorem dX11_sayings_164 : decode cX11_sayings 164 = .ok (.laload, 1) := by decide +kernel
theorem dX11_sayings_165 : decode cX11_sayings 165 = .ok (.invokestatic 100, 3) := by decide +kernel
theorem dX11_sayings_168 : decode cX11_sayings 168 = .ok (.ifCond .eq 7, 3) := by decide +kernel
theorem dX11_sayings_171 : decode cX11_sayings 171 = .ok (.iconst 1, 1) := by decide +kernel
theorem dX11_sayings_172 : decode cX11_sayings 172 = .ok (.goto 4, 3) := by decide +kernel
theorem dX11_sayings_175 : decode cX11_sayings 175 = .ok (.iconst 0, 1) := by decide +kernel
theorem dX11_sayings_176 : decode cX11_sayings 176 = .ok (.istore 5, 2) := by decide +kernel
theorem dX11_sayings_178 : decode cX11_sayings 178 = .ok (.iload 5, 2) := by decide +kernel
theorem dX11_sayings_180 : decode cX11_sayings 180 = .ok (.ifCond .eq 48, 3) := by decide +kernel
theorem dX11_sayings_183 : decode cX11_sayings 183 = .ok (.aload_n 0, 1) := by decide +kernel
theorem dX11_sayings_184 : decode cX11_sayings 184 = .ok (.aload_n 0, 1) := by decide +kernel
theorem dX11_sayings_185 : decode cX11_sayings 185 = .ok (.getfield 71, 3) := by decide +kernel
theorem dX11_sayings_188 : decode cX11_sayings 188 = .ok (.iload 6, 2) := by decide +kernel
theorem dX11_sayings_190 : decode cX11_sayings 190 = .ok (.laload, 1) := by decide +kernel
theorem dX11_sayings_191 : decode cX11_sayings 191 = .ok (.l2i, 1) := by decide +kernel
theorem dX11_sayings_192 : decode cX11_sayings 192 = .ok (.aload_n 0, 1) := by decide +kernel
theorem dX11_sayings_193 : decode cX11_sayings 193 = .ok (.getfield 71, 3) := by decide +kernel
theorem dX11_sayings_196 : decode cX11_sayings 196 = .ok (.iload 6, 2) := by decide +kernel
theorem dX11_sayings_198 : decode cX11_sayings 198 = .ok (.iconst 1, 1) := by decide +kernel
theorem dX11_sayings_199 : decode cX11_sayings 199 = .ok (.iadd, 1) := by decide +kernel
theorem dX11_sayings_200 : decode cX11_sayings 200 = .ok (.laload, 1) := by decide +kernel
theorem dX11_sayings_201 : decode cX11_sayings 201 = .ok (.l2i, 1) := by decide +kernel
theorem dX11_sayings_202 : decode cX11_sayings 202 = .ok (.aload_n 0, 1) := by decide +kernel
theorem dX11_sayings_203 : decode cX11_sayings 203 = .ok (.getfield 71, 3) := by decide +kernel
theorem dX11_sayings_206 : decode cX11_sayings 206 = .ok (.iload 6, 2) := by decide +kernel
theorem dX11_sayings_208 : decode cX11_sayings 208 = .ok (.iconst 2, 1) := by decide +kernel
theorem dX11_sayings_209 : decode cX11_sayings 209 = .ok (.iadd, 1) := by decide +kernel
theorem dX11_sayings_210 : decode cX11_sayings 210 = .ok (.laload, 1) := by decide +kernel
theorem dX11_sayings_211 : decode cX11_sayings 211 = .ok (.l2i, 1) := by decide +kernel
theorem dX11_sayings_212 : decode cX11_sayings 212 = .ok (.aload_n 0, 1) := by decide +kernel
theorem dX11_sayings_213 : decode cX11_sayings 213 = .ok (.getfield 71, 3) := by decide +kernel
theorem dX11_sayings_216 : decode cX11_sayings 216 = .ok (.iload 6, 2) := by decide +kernel
theorem dX11_sayings_218 : decode cX11_sayings 218 = .ok (.iconst 3, 1) := by decide +kernel
theorem dX11_sayings_219 : decode cX11_sayings 219 = .ok (.iadd, 1) := by decide +kernel
theorem dX11_sayings_220 : decode cX11_sayings 220 = .ok (.laload, 1) := by decide +kernel
theorem dX11_sayings_221 : decode cX11_sayings 221 = .ok (.l2i, 1) := by decide +kernel
theorem dX11_sayings_222 : decode cX11_sayings 222 = .ok (.invokevirtual 104, 3) := by decide +kernel
theorem dX11_sayings_225 : decode cX11_sayings 225 = .ok (.iinc 4 1, 3) := by decide +kernel
theorem dX11_sayings_228 : decode cX11_sayings 228 = .ok (.goto (-159), 3) := by decide +kernel
theorem dX11_sayings_231 : decode cX11_sayings 231 = .ok (.iload 4, 2) := by decide +kernel
theorem dX11_sayings_233 : decode cX11_sayings 233 = .ok (.ireturn, 1) := by decide +kernel
theorem dX11_mend_0 : decode cX11_mend 0 = .ok (.aload_n 0, 1) := by decide +kernel
theorem dX11_mend_1 : decode cX11_mend 1 = .ok (.iload_n 1, 1) := by decide +kernel
theorem dX11_mend_2 : decode cX11_mend 2 = .ok (.invokevirtual 114, 3) := by decide +kernel
theorem dX11_mend_5 : decode cX11_mend 5 = .ok (.ifCond .eq 15, 3) := by decide +kernel
theorem dX11_mend_8 : decode cX11_mend 8 = .ok (.iload_n 2, 1) := by decide +kernel
theorem dX11_mend_9 : decode cX11_mend 9 = .ok (.i2l, 1) := by decide +kernel
theorem dX11_mend_10 : decode cX11_mend 10 = .ok (.lconst 0, 1) := by decide +kernel
theorem dX11_mend_11 : decode cX11_mend 11 = .ok (.ldc2_w 94, 3) := by decide +kernel
theorem dX11_mend_14 : decode cX11_mend 14 = .ok (.invokestatic 88, 3) := by decide +kernel
theorem dX11_mend_17 : decode cX11_mend 17 = .ok (.ifCond .ne 5, 3) := by decide +kernel
theorem dX11_mend_20 : decode cX11_mend 20 = .ok (.iconst (-1), 1) := by decide +kernel
theorem dX11_mend_21 : decode cX11_mend 21 = .ok (.ireturn, 1) := by decide +kernel
theorem dX11_mend_22 : decode cX11_mend 22 = .ok (.iload_n 2, 1) := by decide +kernel
theorem dX11_mend_23 : decode cX11_mend 23 = .ok (.iconst 3, 1) := by decide +kernel
theorem dX11_mend_24 : decode cX11_mend 24 = .ok (.if_icmp .ne 15, 3) := by decide +kernel
theorem dX11_mend_27 : decode cX11_mend 27 = .ok (.iload_n 3, 1) := by decide +kernel
theorem dX11_mend_28 : decode cX11_mend 28 = .ok (.i2l, 1) := by decide +kernel
theorem dX11_mend_29 : decode cX11_mend 29 = .ok (.lconst 1, 1) := by decide +kernel
theorem dX11_mend_30 : decode cX11_mend 30 = .ok (.ldc2_w 98, 3) := by decide +kernel
theorem dX11_mend_33 : decode cX11_mend 33 = .ok (.invokestatic 88, 3) := by decide +kernel
theorem dX11_mend_36 : decode cX11_mend 36 = .ok (.goto 33, 3) := by decide +kernel
theorem dX11_mend_39 : decode cX11_mend 39 = .ok (.iload_n 3, 1) := by decide +kernel
theorem dX11_mend_40 : decode cX11_mend 40 = .ok (.i2l, 1) := by decide +kernel
theorem dX11_mend_41 : decode cX11_mend 41 = .ok (.lconst 0, 1) := by decide +kernel
theorem dX11_mend_42 : decode cX11_mend 42 = .ok (.iload_n 2, 1) := by decide +kernel
theorem dX11_mend_43 : decode cX11_mend 43 = .ok (.ifCond .ne 9, 3) := by decide +kernel
theorem dX11_mend_46 : decode cX11_mend 46 = .ok (.ldc2_w 92, 3) := by decide +kernel
theorem dX11_mend_49 : decode cX11_mend 49 = .ok (.goto 17, 3) := by decide +kernel
theorem dX11_mend_52 : decode cX11_mend 52 = .ok (.iload_n 2, 1) := by decide +kernel
theorem dX11_mend_53 : decode cX11_mend 53 = .ok (.iconst 1, 1) := by decide +kernel
theorem dX11_mend_54 : decode cX11_mend 54 = .ok (.if_icmp .ne 9, 3) := by decide +kernel
theorem dX11_mend_57 : decode cX11_mend 57 = .ok (.ldc2_w 94, 3) := by decide +kernel
theorem dX11_mend_60 : decode cX11_mend 60 = .ok (.goto 6, 3) := by decide +kernel
theorem dX11_mend_63 : decode cX11_mend 63 = .ok (.ldc2_w 96, 3) := by decide +kernel
theorem dX11_mend_66 : decode cX11_mend 66 = .ok (.invokestatic 88, 3) := by decide +kernel
theorem dX11_mend_69 : decode cX11_mend 69 = .ok (.istore 4, 2) := by decide +kernel
theorem dX11_mend_71 : decode cX11_mend 71 = .ok (.iload 4, 2) := by decide +kernel
theorem dX11_mend_73 : decode cX11_mend 73 = .ok (.ifCond .eq 17, 3) := by decide +kernel
theorem dX11_mend_76 : decode cX11_mend 76 = .ok (.aload_n 0, 1) := by decide +kernel
theorem dX11_mend_77 : decode cX11_mend 77 = .ok (.bipush 16, 2) := by decide +kernel
theorem dX11_mend_79 : decode cX11_mend 79 = .ok (.iload_n 2, 1) := by decide +kernel
theorem dX11_mend_80 : decode cX11_mend 80 = .ok (.imul, 1) := by decide +kernel
theorem dX11_mend_81 : decode cX11_mend 81 = .ok (.iload_n 1, 1) := by decide +kernel
theorem dX11_mend_82 : decode cX11_mend 82 = .ok (.iadd, 1) := by decide +kernel
theorem dX11_mend_83 : decode cX11_mend 83 = .ok (.iload_n 3, 1) := by decide +kernel
theorem dX11_mend_84 : decode cX11_mend 84 = .ok (.invokevirtual 117, 3) := by decide +kernel
theorem dX11_mend_87 : decode cX11_mend 87 = .ok (.goto 4, 3) := by decide +kernel
theorem dX11_mend_90 : decode cX11_mend 90 = .ok (.iconst (-1), 1) := by decide +kernel
theorem dX11_mend_91 : decode cX11_mend 91 = .ok (.ireturn, 1) := by decide +kernel
theorem dX11_minuteOf_0 : decode cX11_minuteOf 0 = .ok (.iconst 0, 1) := by decide +kernel
theorem dX11_minuteOf_1 : decode cX11_minuteOf 1 = .ok (.istore_n 2, 1) := by decide +kernel
theorem dX11_minuteOf_2 : decode cX11_minuteOf 2 = .ok (.iconst 0, 1) := by decide +kernel
theorem dX11_minuteOf_3 : decode cX11_minuteOf 3 = .ok (.istore_n 3, 1) := by decide +kernel
theorem dX11_minuteOf_4 : decode cX11_minuteOf 4 = .ok (.iload_n 3, 1) := by decide +kernel
theorem dX11_minuteOf_5 : decode cX11_minuteOf 5 = .ok (.iload_n 1, 1) := by decide +kernel
theorem dX11_minuteOf_6 : decode cX11_minuteOf 6 = .ok (.if_icmp .ge 21, 3) := by decide +kernel
theorem dX11_minuteOf_9 : decode cX11_minuteOf 9 = .ok (.iload_n 2, 1) := by decide +kernel
theorem dX11_minuteOf_10 : decode cX11_minuteOf 10 = .ok (.aload_n 0, 1) := by decide +kernel
theorem dX11_minuteOf_11 : decode cX11_minuteOf 11 = .ok (.getfield 9, 3) := by decide +kernel
theorem dX11_minuteOf_14 : decode cX11_minuteOf 14 = .ok (.bipush 48, 2) := by decide +kernel
theorem dX11_minuteOf_16 : decode cX11_minuteOf 16 = .ok (.iload_n 3, 1) := by decide +kernel
theorem dX11_minuteOf_17 : decode cX11_minuteOf 17 = .ok (.iadd, 1) := by decide +kernel
theorem dX11_minuteOf_18 : decode cX11_minuteOf 18 = .ok (.iaload, 1) := by decide +kernel
theorem dX11_minuteOf_19 : decode cX11_minuteOf 19 = .ok (.iadd, 1) := by decide +kernel
theorem dX11_minuteOf_20 : decode cX11_minuteOf 20 = .ok (.istore_n 2, 1) := by decide +kernel
theorem dX11_minuteOf_21 : decode cX11_minuteOf 21 = .ok (.iinc 3 1, 3) := by decide +kernel
theorem dX11_minuteOf_24 : decode cX11_minuteOf 24 = .ok (.goto (-20), 3) := by decide +kernel
theorem dX11_minuteOf_27 : decode cX11_minuteOf 27 = .ok (.iload_n 2, 1) := by decide +kernel
theorem dX11_minuteOf_28 : decode cX11_minuteOf 28 = .ok (.ireturn, 1) := by decide +kernel
theorem dX11_of_0 : decode cX11_of 0 = .ok (.aload_n 0, 1) := by decide +kernel
theorem dX11_of_1 : decode cX11_of 1 = .ok (.iload_n 1, 1) := by decide +kernel
theorem dX11_of_2 : decode cX11_of 2 = .ok (.invokevirtual 114, 3) := by decide +kernel
theorem dX11_of_5 : decode cX11_of 5 = .ok (.ifCond .eq 15, 3) := by decide +kernel
theorem dX11_of_8 : decode cX11_of 8 = .ok (.iload_n 2, 1) := by decide +kernel
theorem dX11_of_9 : decode cX11_of 9 = .ok (.i2l, 1) := by decide +kernel
theorem dX11_of_10 : decode cX11_of 10 = .ok (.lconst 0, 1) := by decide +kernel
theorem dX11_of_11 : decode cX11_of 11 = .ok (.ldc2_w 121, 3) := by decide +kernel
theorem dX11_of_14 : decode cX11_of 14 = .ok (.invokestatic 88, 3) := by decide +kernel
theorem dX11_of_17 : decode cX11_of 17 = .ok (.ifCond .ne 5, 3) := by decide +kernel
theorem dX11_of_20 : decode cX11_of 20 = .ok (.iconst (-1), 1) := by decide +kernel
theorem dX11_of_21 : decode cX11_of 21 = .ok (.ireturn, 1) := by decide +kernel
theorem dX11_of_22 : decode cX11_of 22 = .ok (.iload_n 2, 1) := by decide +kernel
theorem dX11_of_23 : decode cX11_of 23 = .ok (.iconst 4, 1) := by decide +kernel
theorem dX11_of_24 : decode cX11_of 24 = .ok (.if_icmp .ne 11, 3) := by decide +kernel
theorem dX11_of_27 : decode cX11_of 27 = .ok (.aload_n 0, 1) := by decide +kernel
theorem dX11_of_28 : decode cX11_of 28 = .ok (.iload_n 1, 1) := by decide +kernel
theorem dX11_of_29 : decode cX11_of 29 = .ok (.invokevirtual 123, 3) := by decide +kernel
theorem dX11_of_32 : decode cX11_of 32 = .ok (.goto 14, 3) := by decide +kernel
theorem dX11_of_35 : decode cX11_of 35 = .ok (.aload_n 0, 1) := by decide +kernel
theorem dX11_of_36 : decode cX11_of 36 = .ok (.getfield 9, 3) := by decide +kernel
theorem dX11_of_39 : decode cX11_of 39 = .ok (.bipush 16, 2) := by decide +kernel
theorem dX11_of_41 : decode cX11_of 41 = .ok (.iload_n 2, 1) := by decide +kernel
theorem dX11_of_42 : decode cX11_of 42 = .ok (.imul, 1) := by decide +kernel
theorem dX11_of_43 : decode cX11_of 43 = .ok (.iload_n 1, 1) := by decide +kernel
theorem dX11_of_44 : decode cX11_of 44 = .ok (.iadd, 1) := by decide +kernel
theorem dX11_of_45 : decode cX11_of 45 = .ok (.iaload, 1) := by decide +kernel
theorem dX11_of_46 : decode cX11_of 46 = .ok (.ireturn, 1) := by decide +kernel
theorem dX11_isWriter_0 : decode cX11_isWriter 0 = .ok (.iload_n 1, 1) := by decide +kernel
theorem dX11_isWriter_1 : decode cX11_isWriter 1 = .ok (.i2l, 1) := by decide +kernel
theorem dX11_isWriter_2 : decode cX11_isWriter 2 = .ok (.lconst 0, 1) := by decide +kernel
theorem dX11_isWriter_3 : decode cX11_isWriter 3 = .ok (.aload_n 0, 1) := by decide +kernel
theorem dX11_isWriter_4 : decode cX11_isWriter 4 = .ok (.getfield 127, 3) := by decide +kernel
theorem dX11_isWriter_7 : decode cX11_isWriter 7 = .ok (.iconst 1, 1) := by decide +kernel
theorem dX11_isWriter_8 : decode cX11_isWriter 8 = .ok (.isub, 1) := by decide +kernel
theorem dX11_isWriter_9 : decode cX11_isWriter 9 = .ok (.i2l, 1) := by decide +kernel
theorem dX11_isWriter_10 : decode cX11_isWriter 10 = .ok (.invokestatic 88, 3) := by decide +kernel
theorem dX11_isWriter_13 : decode cX11_isWriter 13 = .ok (.ireturn, 1) := by decide +kernel
theorem dX11_feed_0 : decode cX11_feed 0 = .ok (.iload_n 1, 1) := by decide +kernel
theorem dX11_feed_1 : decode cX11_feed 1 = .ok (.i2l, 1) := by decide +kernel
theorem dX11_feed_2 : decode cX11_feed 2 = .ok (.lconst 0, 1) := by decide +kernel
theorem dX11_feed_3 : decode cX11_feed 3 = .ok (.ldc2_w 130, 3) := by decide +kernel
theorem dX11_feed_6 : decode cX11_feed 6 = .ok (.invokestatic 88, 3) := by decide +kernel
theorem dX11_feed_9 : decode cX11_feed 9 = .ok (.ifCond .ne 5, 3) := by decide +kernel
theorem dX11_feed_12 : decode cX11_feed 12 = .ok (.iconst (-1), 1) := by decide +kernel
theorem dX11_feed_13 : decode cX11_feed 13 = .ok (.ireturn, 1) := by decide +kernel
theorem dX11_feed_14 : decode cX11_feed 14 = .ok (.aload_n 0, 1) := by decide +kernel
theorem dX11_feed_15 : decode cX11_feed 15 = .ok (.getfield 132, 3) := by decide +kernel
theorem dX11_feed_18 : decode cX11_feed 18 = .ok (.bipush 120, 2) := by decide +kernel
theorem dX11_feed_20 : decode cX11_feed 20 = .ok (.if_icmp .ne 6, 3) := by decide +kernel
theorem dX11_feed_23 : decode cX11_feed 23 = .ok (.bipush (-3), 2) := by decide +kernel
theorem dX11_feed_25 : decode cX11_feed 25 = .ok (.ireturn, 1) := by decide +kernel
theorem dX11_feed_26 : decode cX11_feed 26 = .ok (.aload_n 0, 1) := by decide +kernel
theorem dX11_feed_27 : decode cX11_feed 27 = .ok (.getfield 22, 3) := by decide +kernel
theorem dX11_feed_30 : decode cX11_feed 30 = .ok (.aload_n 0, 1) := by decide +kernel
theorem dX11_feed_31 : decode cX11_feed 31 = .ok (.getfield 132, 3) := by decide +kernel
theorem dX11_feed_34 : decode cX11_feed 34 = .ok (.iload_n 1, 1) := by decide +kernel
theorem dX11_feed_35 : decode cX11_feed 35 = .ok (.iastore, 1) := by decide +kernel
theorem dX11_feed_36 : decode cX11_feed 36 = .ok (.aload_n 0, 1) := by decide +kernel
theorem dX11_feed_37 : decode cX11_feed 37 = .ok (.dup, 1) := by decide +kernel
theorem dX11_feed_38 : decode cX11_feed 38 = .ok (.getfield 132, 3) := by decide +kernel
theorem dX11_feed_41 : decode cX11_feed 41 = .ok (.iconst 1, 1) := by decide +kernel
theorem dX11_feed_42 : decode cX11_feed 42 = .ok (.iadd, 1) := by decide +kernel
theorem dX11_feed_43 : decode cX11_feed 43 = .ok (.putfield 132, 3) := by decide +kernel
theorem dX11_feed_46 : decode cX11_feed 46 = .ok (.aload_n 0, 1) := by decide +kernel
theorem dX11_feed_47 : decode cX11_feed 47 = .ok (.getfield 132, 3) := by decide +kernel
theorem dX11_feed_50 : decode cX11_feed 50 = .ok (.ireturn, 1) := by decide +kernel
theorem dX11_byteAt_0 : decode cX11_byteAt 0 = .ok (.aload_n 0, 1) := by decide +kernel
theorem dX11_byteAt_1 : decode cX11_byteAt 1 = .ok (.getfield 135, 3) := by decide +kernel
theorem dX11_byteAt_4 : decode cX11_byteAt 4 = .ok (.aload_n 0, 1) := by decide +kernel
theorem dX11_byteAt_5 : decode cX11_byteAt 5 = .ok (.getfield 138, 3) := by decide +kernel
theorem dX11_byteAt_8 : decode cX11_byteAt 8 = .ok (.if_icmp .ge 39, 3) := by decide +kernel
theorem dX11_byteAt_11 : decode cX11_byteAt 11 = .ok (.aload_n 0, 1) := by decide +kernel
theorem dX11_byteAt_12 : decode cX11_byteAt 12 = .ok (.getfield 141, 3) := by decide +kernel
theorem dX11_byteAt_15 : decode cX11_byteAt 15 = .ok (.ifCond .ge 15, 3) := by decide +kernel
theorem dX11_byteAt_18 : decode cX11_byteAt 18 = .ok (.aload_n 0, 1) := by decide +kernel
theorem dX11_byteAt_19 : decode cX11_byteAt 19 = .ok (.getfield 22, 3) := by decide +kernel
theorem dX11_byteAt_22 : decode cX11_byteAt 22 = .ok (.aload_n 0, 1) := by decide +kernel
theorem dX11_byteAt_23 : decode cX11_byteAt 23 = .ok (.getfield 135, 3) := by decide +kernel
theorem dX11_byteAt_26 : decode cX11_byteAt 26 = .ok (.iaload, 1) := by decide +kernel
theorem dX11_byteAt_27 : decode cX11_byteAt 27 = .ok (.goto 21, 3) := by decide +kernel
theorem dX11_byteAt_30 : decode cX11_byteAt 30 = .ok (.aload_n 0, 1) := by decide +kernel
theorem dX11_byteAt_31 : decode cX11_byteAt 31 = .ok (.getfield 31, 3) := by decide +kernel
theorem dX11_byteAt_34 : decode cX11_byteAt 34 = .ok (.aload_n 0, 1) := by decide +kernel
theorem dX11_byteAt_35 : decode cX11_byteAt 35 = .ok (.getfield 141, 3) := by decide +kernel
theorem dX11_byteAt_38 : decode cX11_byteAt 38 = .ok (.aload_n 0, 1) := by decide +kernel
theorem dX11_byteAt_39 : decode cX11_byteAt 39 = .ok (.getfield 135, 3) := by decide +kernel
theorem dX11_byteAt_42 : decode cX11_byteAt 42 = .ok (.iadd, 1) := by decide +kernel
theorem dX11_byteAt_43 : decode cX11_byteAt 43 = .ok (.iaload, 1) := by decide +kernel
theorem dX11_byteAt_44 : decode cX11_byteAt 44 = .ok (.goto 4, 3) := by decide +kernel
theorem dX11_byteAt_47 : decode cX11_byteAt 47 = .ok (.iconst 0, 1) := by decide +kernel
theorem dX11_byteAt_48 : decode cX11_byteAt 48 = .ok (.ireturn, 1) := by decide +kernel
theorem dX11_wrong_0 : decode cX11_wrong 0 = .ok (.aload_n 0, 1) := by decide +kernel
theorem dX11_wrong_1 : decode cX11_wrong 1 = .ok (.aload_n 0, 1) := by decide +kernel
theorem dX11_wrong_2 : decode cX11_wrong 2 = .ok (.getfield 144, 3) := by decide +kernel
theorem dX11_wrong_5 : decode cX11_wrong 5 = .ok (.ifCond .ge 10, 3) := by decide +kernel
theorem dX11_wrong_8 : decode cX11_wrong 8 = .ok (.aload_n 0, 1) := by decide +kernel
theorem dX11_wrong_9 : decode cX11_wrong 9 = .ok (.getfield 135, 3) := by decide +kernel
theorem dX11_wrong_12 : decode cX11_wrong 12 = .ok (.goto 7, 3) := by decide +kernel
theorem dX11_wrong_15 : decode cX11_wrong 15 = .ok (.aload_n 0, 1) := by decide +kernel
theorem dX11_wrong_16 : decode cX11_wrong 16 = .ok (.getfield 144, 3) := by decide +kernel
theorem dX11_wrong_19 : decode cX11_wrong 19 = .ok (.putfield 144, 3) := by decide +kernel
theorem dX11_wrong_22 : decode cX11_wrong 22 = .ok (.iconst 0, 1) := by decide +kernel
theorem dX11_wrong_23 : decode cX11_wrong 23 = .ok (.ireturn, 1) := by decide +kernel
theorem dX11_takes_0 : decode cX11_takes 0 = .ok (.aload_n 0, 1) := by decide +kernel
theorem dX11_takes_1 : decode cX11_takes 1 = .ok (.getfield 144, 3) := by decide +kernel
theorem dX11_takes_4 : decode cX11_takes 4 = .ok (.ifCond .ge 11, 3) := by decide +kernel
theorem dX11_takes_7 : decode cX11_takes 7 = .ok (.aload_n 0, 1) := by decide +kernel
theorem dX11_takes_8 : decode cX11_takes 8 = .ok (.invokevirtual 147, 3) := by decide +kernel
theorem dX11_takes_11 : decode cX11_takes 11 = .ok (.iload_n 1, 1) := by decide +kernel
theorem dX11_takes_12 : decode cX11_takes 12 = .ok (.if_icmp .eq 5, 3) := by decide +kernel
theorem dX11_takes_15 : decode cX11_takes 15 = .ok (.iconst 0, 1) := by decide +kernel
theorem dX11_takes_16 : decode cX11_takes 16 = .ok (.ireturn, 1) := by decide +kernel
theorem dX11_takes_17 : decode cX11_takes 17 = .ok (.aload_n 0, 1) := by decide +kernel
theorem dX11_takes_18 : decode cX11_takes 18 = .ok (.dup, 1) := by decide +kernel
theorem dX11_takes_19 : decode cX11_takes 19 = .ok (.getfield 135, 3) := by decide +kernel
theorem dX11_takes_22 : decode cX11_takes 22 = .ok (.iconst 1, 1) := by decide +kernel
theorem dX11_takes_23 : decode cX11_takes 23 = .ok (.iadd, 1) := by decide +kernel
theorem dX11_takes_24 : decode cX11_takes 24 = .ok (.putfield 135, 3) := by decide +kernel
theorem dX11_takes_27 : decode cX11_takes 27 = .ok (.iconst 1, 1) := by decide +kernel
theorem dX11_takes_28 : decode cX11_takes 28 = .ok (.ireturn, 1) := by decide +kernel
theorem dX11_nameOf_0 : decode cX11_nameOf 0 = .ok (.iload_n 0, 1) := by decide +kernel
theorem dX11_nameOf_1 : decode cX11_nameOf 1 = .ok (.tableswitch 93 105 119 #[83, 93, 77, 81, 85, 90, 79, 93, 93, 93, 87, 93, 93, 93, 75], 75) := by decide +kernel
theorem dX11_nameOf_76 : decode cX11_nameOf 76 = .ok (.iconst 0, 1) := by decide +kernel
theorem dX11_nameOf_77 : decode cX11_nameOf 77 = .ok (.ireturn, 1) := by decide +kernel
theorem dX11_nameOf_78 : decode cX11_nameOf 78 = .ok (.iconst 1, 1) := by decide +kernel
theorem dX11_nameOf_79 : decode cX11_nameOf 79 = .ok (.ireturn, 1) := by decide +kernel
theorem dX11_nameOf_80 : decode cX11_nameOf 80 = .ok (.iconst 2, 1) := by decide +kernel
theorem dX11_nameOf_81 : decode cX11_nameOf 81 = .ok (.ireturn, 1) := by decide +kernel
theorem dX11_nameOf_82 : decode cX11_nameOf 82 = .ok (.iconst 3, 1) := by decide +kernel
theorem dX11_nameOf_83 : decode cX11_nameOf 83 = .ok (.ireturn, 1) := by decide +kernel
theorem dX11_nameOf_84 : decode cX11_nameOf 84 = .ok (.iconst 4, 1) := by decide +kernel
theorem dX11_nameOf_85 : decode cX11_nameOf 85 = .ok (.ireturn, 1) := by decide +kernel
theorem dX11_nameOf_86 : decode cX11_nameOf 86 = .ok (.iconst 5, 1) := by decide +kernel
theorem dX11_nameOf_87 : decode cX11_nameOf 87 = .ok (.ireturn, 1) := by decide +kernel
theorem dX11_nameOf_88 : decode cX11_nameOf 88 = .ok (.bipush 6, 2) := by decide +kernel
theorem dX11_nameOf_90 : decode cX11_nameOf 90 = .ok (.ireturn, 1) := by decide +kernel
theorem dX11_nameOf_91 : decode cX11_nameOf 91 = .ok (.bipush 7, 2) := by decide +kernel
theorem dX11_nameOf_93 : decode cX11_nameOf 93 = .ok (.ireturn, 1) := by decide +kernel
theorem dX11_nameOf_94 : decode cX11_nameOf 94 = .ok (.iconst (-1), 1) := by decide +kernel
theorem dX11_nameOf_95 : decode cX11_nameOf 95 = .ok (.ireturn, 1) := by decide +kernel
theorem dX11_either_0 : decode cX11_either 0 = .ok (.aload_n 0, 1) := by decide +kernel
theorem dX11_either_1 : decode cX11_either 1 = .ok (.invokevirtual 151, 3) := by decide +kernel
theorem dX11_either_4 : decode cX11_either 4 = .ok (.istore_n 1, 1) := by decide +kernel
theorem dX11_either_5 : decode cX11_either 5 = .ok (.aload_n 0, 1) := by decide +kernel
theorem dX11_either_6 : decode cX11_either 6 = .ok (.bipush 124, 2) := by decide +kernel
theorem dX11_either_8 : decode cX11_either 8 = .ok (.invokevirtual 154, 3) := by decide +kernel
theorem dX11_either_11 : decode cX11_either 11 = .ok (.ifCond .eq 25, 3) := by decide +kernel
theorem dX11_either_14 : decode cX11_either 14 = .ok (.aload_n 0, 1) := by decide +kernel
theorem dX11_either_15 : decode cX11_either 15 = .ok (.invokevirtual 151, 3) := by decide +kernel
theorem dX11_either_18 : decode cX11_either 18 = .ok (.istore_n 2, 1) := by decide +kernel
theorem dX11_either_19 : decode cX11_either 19 = .ok (.iload_n 1, 1) := by decide +kernel
theorem dX11_either_20 : decode cX11_either 20 = .ok (.ifCond .ne 7, 3) := by decide +kernel
theorem dX11_either_23 : decode cX11_either 23 = .ok (.iload_n 2, 1) := by decide +kernel
theorem dX11_either_24 : decode cX11_either 24 = .ok (.ifCond .eq 7, 3) := by decide +kernel
theorem dX11_either_27 : decode cX11_either 27 = .ok (.iconst 1, 1) := by decide +kernel
theorem dX11_either_28 : decode cX11_either 28 = .ok (.goto 4, 3) := by decide +kernel
theorem dX11_either_31 : decode cX11_either 31 = .ok (.iconst 0, 1) := by decide +kernel
theorem dX11_either_32 : decode cX11_either 32 = .ok (.istore_n 1, 1) := by decide +kernel
theorem dX11_either_33 : decode cX11_either 33 = .ok (.goto (-28), 3) := by decide +kernel
theorem dX11_either_36 : decode cX11_either 36 = .ok (.iload_n 1, 1) := by decide +kernel
theorem dX11_either_37 : decode cX11_either 37 = .ok (.ireturn, 1) := by decide +kernel
theorem dX11_both_0 : decode cX11_both 0 = .ok (.aload_n 0, 1) := by decide +kernel
theorem dX11_both_1 : decode cX11_both 1 = .ok (.invokevirtual 157, 3) := by decide +kernel
theorem dX11_both_4 : decode cX11_both 4 = .ok (.istore_n 1, 1) := by decide +kernel
theorem dX11_both_5 : decode cX11_both 5 = .ok (.aload_n 0, 1) := by decide +kernel
theorem dX11_both_6 : decode cX11_both 6 = .ok (.bipush 38, 2) := by decide +kernel
theorem dX11_both_8 : decode cX11_both 8 = .ok (.invokevirtual 154, 3) := by decide +kernel
theorem dX11_both_11 : decode cX11_both 11 = .ok (.ifCond .eq 25, 3) := by decide +kernel
theorem dX11_both_14 : decode cX11_both 14 = .ok (.aload_n 0, 1) := by decide +kernel
theorem dX11_both_15 : decode cX11_both 15 = .ok (.invokevirtual 157, 3) := by decide +kernel
theorem dX11_both_18 : decode cX11_both 18 = .ok (.istore_n 2, 1) := by decide +kernel
theorem dX11_both_19 : decode cX11_both 19 = .ok (.iload_n 1, 1) := by decide +kernel
theorem dX11_both_20 : decode cX11_both 20 = .ok (.ifCond .eq 11, 3) := by decide +kernel
theorem dX11_both_23 : decode cX11_both 23 = .ok (.iload_n 2, 1) := by decide +kernel
theorem dX11_both_24 : decode cX11_both 24 = .ok (.ifCond .eq 7, 3) := by decide +kernel
theorem dX11_both_27 : decode cX11_both 27 = .ok (.iconst 1, 1) := by decide +kernel
theorem dX11_both_28 : decode cX11_both 28 = .ok (.goto 4, 3) := by decide +kernel
theorem dX11_both_31 : decode cX11_both 31 = .ok (.iconst 0, 1) := by decide +kernel
theorem dX11_both_32 : decode cX11_both 32 = .ok (.istore_n 1, 1) := by decide +kernel
theorem dX11_both_33 : decode cX11_both 33 = .ok (.goto (-28), 3) := by decide +kernel
theorem dX11_both_36 : decode cX11_both 36 = .ok (.iload_n 1, 1) := by decide +kernel
theorem dX11_both_37 : decode cX11_both 37 = .ok (.ireturn, 1) := by decide +kernel
theorem dX11_compared_0 : decode cX11_compared 0 = .ok (.aload_n 0, 1) := by decide +kernel
theorem dX11_compared_1 : decode cX11_compared 1 = .ok (.invokevirtual 160, 3) := by decide +kernel
theorem dX11_compared_4 : decode cX11_compared 4 = .ok (.istore_n 1, 1) := by decide +kernel
theorem dX11_compared_5 : decode cX11_compared 5 = .ok (.aload_n 0, 1) := by decide +kernel
theorem dX11_compared_6 : decode cX11_compared 6 = .ok (.invokevirtual 147, 3) := by decide +kernel
theorem dX11_compared_9 : decode cX11_compared 9 = .ok (.istore_n 2, 1) := by decide +kernel
theorem dX11_compared_10 : decode cX11_compared 10 = .ok (.aload_n 0, 1) := by decide +kernel
theorem dX11_compared_11 : decode cX11_compared 11 = .ok (.getfield 144, 3) := by decide +kernel
theorem dX11_compared_14 : decode cX11_compared 14 = .ok (.ifCond .ge 21, 3) := by decide +kernel
theorem dX11_compared_17 : decode cX11_compared 17 = .ok (.iload_n 2, 1) := by decide +kernel
theorem dX11_compared_18 : decode cX11_compared 18 = .ok (.bipush 60, 2) := by decide +kernel
theorem dX11_compared_20 : decode cX11_compared 20 = .ok (.if_icmp .eq 17, 3) := by decide +kernel
theorem dX11_compared_23 : decode cX11_compared 23 = .ok (.iload_n 2, 1) := by decide +kernel
theorem dX11_compared_24 : decode cX11_compared 24 = .ok (.bipush 61, 2) := by decide +kernel
theorem dX11_compared_26 : decode cX11_compared 26 = .ok (.if_icmp .eq 11, 3) := by decide +kernel
theorem dX11_compared_29 : decode cX11_compared 29 = .ok (.iload_n 2, 1) := by decide +kernel
theorem dX11_compared_30 : decode cX11_compared 30 = .ok (.bipush 62, 2) := by decide +kernel
theorem dX11_compared_32 : decode cX11_compared 32 = .ok (.if_icmp .eq 5, 3) := by decide +kernel
theorem dX11_compared_35 : decode cX11_compared 35 = .ok (.iload_n 1, 1) := by decide +kernel
theorem dX11_compared_36 : decode cX11_compared 36 = .ok (.ireturn, 1) := by decide +kernel
theorem dX11_compared_37 : decode cX11_compared 37 = .ok (.aload_n 0, 1) := by decide +kernel
theorem dX11_compared_38 : decode cX11_compared 38 = .ok (.dup, 1) := by decide +kernel
theorem dX11_compared_39 : decode cX11_compared 39 = .ok (.getfield 135, 3) := by decide +kernel
theorem dX11_compared_42 : decode cX11_compared 42 = .ok (.iconst 1, 1) := by decide +kernel
theorem dX11_compared_43 : decode cX11_compared 43 = .ok (.iadd, 1) := by decide +kernel
theorem dX11_compared_44 : decode cX11_compared 44 = .ok (.putfield 135, 3) := by decide +kernel
theorem dX11_compared_47 : decode cX11_compared 47 = .ok (.aload_n 0, 1) := by decide +kernel
theorem dX11_compared_48 : decode cX11_compared 48 = .ok (.invokevirtual 160, 3) := by decide +kernel
theorem dX11_compared_51 : decode cX11_compared 51 = .ok (.istore_n 3, 1) := by decide +kernel
theorem dX11_compared_52 : decode cX11_compared 52 = .ok (.iload_n 2, 1) := by decide +kernel
theorem dX11_compared_53 : decode cX11_compared 53 = .ok (.bipush 60, 2) := by decide +kernel
theorem dX11_compared_55 : decode cX11_compared 55 = .ok (.if_icmp .ne 11, 3) := by decide +kernel
theorem dX11_compared_58 : decode cX11_compared 58 = .ok (.iload_n 1, 1) := by decide +kernel
theorem dX11_compared_59 : decode cX11_compared 59 = .ok (.iload_n 3, 1) := by decide +kernel
theorem dX11_compared_60 : decode cX11_compared 60 = .ok (.if_icmp .ge 29, 3) := by decide +kernel
theorem dX11_compared_63 : decode cX11_compared 63 = .ok (.goto 22, 3) := by decide +kernel
theorem dX11_compared_66 : decode cX11_compared 66 = .ok (.iload_n 2, 1) := by decide +kernel
theorem dX11_compared_67 : decode cX11_compared 67 = .ok (.bipush 61, 2) := by decide +kernel
theorem dX11_compared_69 : decode cX11_compared 69 = .ok (.if_icmp .ne 11, 3) := by decide +kernel
theorem dX11_compared_72 : decode cX11_compared 72 = .ok (.iload_n 1, 1) := by decide +kernel
theorem dX11_compared_73 : decode cX11_compared 73 = .ok (.iload_n 3, 1) := by decide +kernel
theorem dX11_compared_74 : decode cX11_compared 74 = .ok (.if_icmp .ne 15, 3) := by decide +kernel
theorem dX11_compared_77 : decode cX11_compared 77 = .ok (.goto 8, 3) := by decide +kernel
theorem dX11_compared_80 : decode cX11_compared 80 = .ok (.iload_n 1, 1) := by decide +kernel
theorem dX11_compared_81 : decode cX11_compared 81 = .ok (.iload_n 3, 1) := by decide +kernel
theorem dX11_compared_82 : decode cX11_compared 82 = .ok (.if_icmp .le 7, 3) := by decide +kernel
theorem dX11_compared_85 : decode cX11_compared 85 = .ok (.iconst 1, 1) := by decide +kernel
theorem dX11_compared_86 : decode cX11_compared 86 = .ok (.goto 4, 3) := by decide +kernel
theorem dX11_compared_89 : decode cX11_compared 89 = .ok (.iconst 0, 1) := by decide +kernel
theorem dX11_compared_90 : decode cX11_compared 90 = .ok (.ireturn, 1) := by decide +kernel
theorem dX11_sums_0 : decode cX11_sums 0 = .ok (.aload_n 0, 1) := by decide +kernel
theorem dX11_sums_1 : decode cX11_sums 1 = .ok (.invokevirtual 163, 3) := by decide +kernel
theorem dX11_sums_4 : decode cX11_sums 4 = .ok (.istore_n 1, 1) := by decide +kernel
theorem dX11_sums_5 : decode cX11_sums 5 = .ok (.aload_n 0, 1) := by decide +kernel
theorem dX11_sums_6 : decode cX11_sums 6 = .ok (.getfield 144, 3) := by decide +kernel
theorem dX11_sums_9 : decode cX11_sums 9 = .ok (.ifCond .ge 68, 3) := by decide +kernel
theorem dX11_sums_12 : decode cX11_sums 12 = .ok (.aload_n 0, 1) := by decide +kernel
theorem dX11_sums_13 : decode cX11_sums 13 = .ok (.invokevirtual 147, 3) := by decide +kernel
theorem dX11_sums_16 : decode cX11_sums 16 = .ok (.bipush 43, 2) := by decide +kernel
theorem dX11_sums_18 : decode cX11_sums 18 = .ok (.if_icmp .eq 12, 3) := by decide +kernel
theorem dX11_sums_21 : decode cX11_sums 21 = .ok (.aload_n 0, 1) := by decide +kernel
theorem dX11_sums_22 : decode cX11_sums 22 = .ok (.invokevirtual 147, 3) := by decide +kernel
theorem dX11_sums_25 : decode cX11_sums 25 = .ok (.bipush 45, 2) := by decide +kernel
theorem dX11_sums_27 : decode cX11_sums 27 = .ok (.if_icmp .ne 50, 3) := by decide +kernel
theorem dX11_sums_30 : decode cX11_sums 30 = .ok (.aload_n 0, 1) := by decide +kernel
theorem dX11_sums_31 : decode cX11_sums 31 = .ok (.invokevirtual 147, 3) := by decide +kernel
theorem dX11_sums_34 : decode cX11_sums 34 = .ok (.bipush 43, 2) := by decide +kernel
theorem dX11_sums_36 : decode cX11_sums 36 = .ok (.if_icmp .ne 7, 3) := by decide +kernel
theorem dX11_sums_39 : decode cX11_sums 39 = .ok (.iconst 1, 1) := by decide +kernel
theorem dX11_sums_40 : decode cX11_sums 40 = .ok (.goto 4, 3) := by decide +kernel
theorem dX11_sums_43 : decode cX11_sums 43 = .ok (.iconst 0, 1) := by decide +kernel
theorem dX11_sums_44 : decode cX11_sums 44 = .ok (.istore_n 2, 1) := by decide +kernel
theorem dX11_sums_45 : decode cX11_sums 45 = .ok (.aload_n 0, 1) := by decide +kernel
theorem dX11_sums_46 : decode cX11_sums 46 = .ok (.dup, 1) := by decide +kernel
theorem dX11_sums_47 : decode cX11_sums 47 = .ok (.getfield 135, 3) := by decide +kernel
theorem dX11_sums_50 : decode cX11_sums 50 = .ok (.iconst 1, 1) := by decide +kernel
theorem dX11_sums_51 : decode cX11_sums 51 = .ok (.iadd, 1) := by decide +kernel
theorem dX11_sums_52 : decode cX11_sums 52 = .ok (.putfield 135, 3) := by decide +kernel
theorem dX11_sums_55 : decode cX11_sums 55 = .ok (.aload_n 0, 1) := by decide +kernel
theorem dX11_sums_56 : decode cX11_sums 56 = .ok (.invokevirtual 163, 3) := by decide +kernel
theorem dX11_sums_59 : decode cX11_sums 59 = .ok (.istore_n 3, 1) := by decide +kernel
theorem dX11_sums_60 : decode cX11_sums 60 = .ok (.iload_n 2, 1) := by decide +kernel
theorem dX11_sums_61 : decode cX11_sums 61 = .ok (.ifCond .eq 9, 3) := by decide +kernel
theorem dX11_sums_64 : decode cX11_sums 64 = .ok (.iload_n 1, 1) := by decide +kernel
theorem dX11_sums_65 : decode cX11_sums 65 = .ok (.iload_n 3, 1) := by decide +kernel
theorem dX11_sums_66 : decode cX11_sums 66 = .ok (.iadd, 1) := by decide +kernel
theorem dX11_sums_67 : decode cX11_sums 67 = .ok (.goto 6, 3) := by decide +kernel
theorem dX11_sums_70 : decode cX11_sums 70 = .ok (.iload_n 1, 1) := by decide +kernel
theorem dX11_sums_71 : decode cX11_sums 71 = .ok (.iload_n 3, 1) := by decide +kernel
theorem dX11_sums_72 : decode cX11_sums 72 = .ok (.isub, 1) := by decide +kernel
theorem dX11_sums_73 : decode cX11_sums 73 = .ok (.istore_n 1, 1) := by decide +kernel
theorem dX11_sums_74 : decode cX11_sums 74 = .ok (.goto (-69), 3) := by decide +kernel
theorem dX11_sums_77 : decode cX11_sums 77 = .ok (.iload_n 1, 1) := by decide +kernel
theorem dX11_sums_78 : decode cX11_sums 78 = .ok (.ireturn, 1) := by decide +kernel
theorem dX11_product_0 : decode cX11_product 0 = .ok (.aload_n 0, 1) := by decide +kernel
theorem dX11_product_1 : decode cX11_product 1 = .ok (.invokevirtual 166, 3) := by decide +kernel
theorem dX11_product_4 : decode cX11_product 4 = .ok (.istore_n 1, 1) := by decide +kernel
theorem dX11_product_5 : decode cX11_product 5 = .ok (.aload_n 0, 1) := by decide +kernel
theorem dX11_product_6 : decode cX11_product 6 = .ok (.invokevirtual 147, 3) := by decide +kernel
theorem dX11_product_9 : decode cX11_product 9 = .ok (.istore_n 2, 1) := by decide +kernel
theorem dX11_product_10 : decode cX11_product 10 = .ok (.aload_n 0, 1) := by decide +kernel
theorem dX11_product_11 : decode cX11_product 11 = .ok (.getfield 144, 3) := by decide +kernel
theorem dX11_product_14 : decode cX11_product 14 = .ok (.ifCond .ge 80, 3) := by decide +kernel
theorem dX11_product_17 : decode cX11_product 17 = .ok (.iload_n 2, 1) := by decide +kernel
theorem dX11_product_18 : decode cX11_product 18 = .ok (.bipush 42, 2) := by decide +kernel
theorem dX11_product_20 : decode cX11_product 20 = .ok (.if_icmp .eq 15, 3) := by decide +kernel
theorem dX11_product_23 : decode cX11_product 23 = .ok (.iload_n 2, 1) := by decide +kernel
theorem dX11_product_24 : decode cX11_product 24 = .ok (.bipush 47, 2) := by decide +kernel
theorem dX11_product_26 : decode cX11_product 26 = .ok (.if_icmp .eq 9, 3) := by decide +kernel
theorem dX11_product_29 : decode cX11_product 29 = .ok (.iload_n 2, 1) := by decide +kernel
theorem dX11_product_30 : decode cX11_product 30 = .ok (.bipush 37, 2) := by decide +kernel
theorem dX11_product_32 : decode cX11_product 32 = .ok (.if_icmp .ne 62, 3) := by decide +kernel
theorem dX11_product_35 : decode cX11_product 35 = .ok (.aload_n 0, 1) := by decide +kernel
theorem dX11_product_36 : decode cX11_product 36 = .ok (.dup, 1) := by decide +kernel
theorem dX11_product_37 : decode cX11_product 37 = .ok (.getfield 135, 3) := by decide +kernel
theorem dX11_product_40 : decode cX11_product 40 = .ok (.iconst 1, 1) := by decide +kernel
theorem dX11_product_41 : decode cX11_product 41 = .ok (.iadd, 1) := by decide +kernel
theorem dX11_product_42 : decode cX11_product 42 = .ok (.putfield 135, 3) := by decide +kernel
theorem dX11_product_45 : decode cX11_product 45 = .ok (.aload_n 0, 1) := by decide +kernel
theorem dX11_product_46 : decode cX11_product 46 = .ok (.invokevirtual 166, 3) := by decide +kernel
theorem dX11_product_49 : decode cX11_product 49 = .ok (.istore_n 3, 1) := by decide +kernel
theorem dX11_product_50 : decode cX11_product 50 = .ok (.iload_n 2, 1) := by decide +kernel
theorem dX11_product_51 : decode cX11_product 51 = .ok (.bipush 42, 2) := by decide +kernel
theorem dX11_product_53 : decode cX11_product 53 = .ok (.if_icmp .ne 9, 3) := by decide +kernel
theorem dX11_product_56 : decode cX11_product 56 = .ok (.iload_n 1, 1) := by decide +kernel
theorem dX11_product_57 : decode cX11_product 57 = .ok (.iload_n 3, 1) := by decide +kernel
theorem dX11_product_58 : decode cX11_product 58 = .ok (.imul, 1) := by decide +kernel
theorem dX11_product_59 : decode cX11_product 59 = .ok (.goto 26, 3) := by decide +kernel
theorem dX11_product_62 : decode cX11_product 62 = .ok (.iload_n 3, 1) := by decide +kernel
theorem dX11_product_63 : decode cX11_product 63 = .ok (.ifCond .ne 7, 3) := by decide +kernel
theorem dX11_product_66 : decode cX11_product 66 = .ok (.iconst 0, 1) := by decide +kernel
theorem dX11_product_67 : decode cX11_product 67 = .ok (.goto 18, 3) := by decide +kernel
theorem dX11_product_70 : decode cX11_product 70 = .ok (.iload_n 2, 1) := by decide +kernel
theorem dX11_product_71 : decode cX11_product 71 = .ok (.bipush 47, 2) := by decide +kernel
theorem dX11_product_73 : decode cX11_product 73 = .ok (.if_icmp .ne 9, 3) := by decide +kernel
theorem dX11_product_76 : decode cX11_product 76 = .ok (.iload_n 1, 1) := by decide +kernel
theorem dX11_product_77 : decode cX11_product 77 = .ok (.iload_n 3, 1) := by decide +kernel
theorem dX11_product_78 : decode cX11_product 78 = .ok (.idiv, 1) := by decide +kernel
theorem dX11_product_79 : decode cX11_product 79 = .ok (.goto 6, 3) := by decide +kernel
theorem dX11_product_82 : decode cX11_product 82 = .ok (.iload_n 1, 1) := by decide +kernel
theorem dX11_product_83 : decode cX11_product 83 = .ok (.iload_n 3, 1) := by decide +kernel
theorem dX11_product_84 : decode cX11_product 84 = .ok (.irem, 1) := by decide +kernel
theorem dX11_product_85 : decode cX11_product 85 = .ok (.istore_n 1, 1) := by decide +kernel
theorem dX11_product_86 : decode cX11_product 86 = .ok (.aload_n 0, 1) := by decide +kernel
theorem dX11_product_87 : decode cX11_product 87 = .ok (.invokevirtual 147, 3) := by decide +kernel
theorem dX11_product_90 : decode cX11_product 90 = .ok (.istore_n 2, 1) := by decide +kernel
theorem dX11_product_91 : decode cX11_product 91 = .ok (.goto (-81), 3) := by decide +kernel
theorem dX11_product_94 : decode cX11_product 94 = .ok (.iload_n 1, 1) := by decide +kernel
theorem dX11_product_95 : decode cX11_product 95 = .ok (.ireturn, 1) := by decide +kernel
theorem dX11_one_0 : decode cX11_one 0 = .ok (.aload_n 0, 1) := by decide +kernel
theorem dX11_one_1 : decode cX11_one 1 = .ok (.getfield 144, 3) := by decide +kernel
theorem dX11_one_4 : decode cX11_one 4 = .ok (.ifCond .lt 5, 3) := by decide +kernel
theorem dX11_one_7 : decode cX11_one 7 = .ok (.iconst 0, 1) := by decide +kernel
theorem dX11_one_8 : decode cX11_one 8 = .ok (.ireturn, 1) := by decide +kernel
theorem dX11_one_9 : decode cX11_one 9 = .ok (.aload_n 0, 1) := by decide +kernel
theorem dX11_one_10 : decode cX11_one 10 = .ok (.invokevirtual 147, 3) := by decide +kernel
theorem dX11_one_13 : decode cX11_one 13 = .ok (.istore_n 1, 1) := by decide +kernel
theorem dX11_one_14 : decode cX11_one 14 = .ok (.iload_n 1, 1) := by decide +kernel
theorem dX11_one_15 : decode cX11_one 15 = .ok (.bipush 33, 2) := by decide +kernel
theorem dX11_one_17 : decode cX11_one 17 = .ok (.if_icmp .eq 15, 3) := by decide +kernel
theorem dX11_one_20 : decode cX11_one 20 = .ok (.iload_n 1, 1) := by decide +kernel
theorem dX11_one_21 : decode cX11_one 21 = .ok (.bipush 45, 2) := by decide +kernel
theorem dX11_one_23 : decode cX11_one 23 = .ok (.if_icmp .eq 9, 3) := by decide +kernel
theorem dX11_one_26 : decode cX11_one 26 = .ok (.iload_n 1, 1) := by decide +kernel
theorem dX11_one_27 : decode cX11_one 27 = .ok (.bipush 40, 2) := by decide +kernel
theorem dX11_one_29 : decode cX11_one 29 = .ok (.if_icmp .ne 116, 3) := by decide +kernel
theorem dX11_one_32 : decode cX11_one 32 = .ok (.aload_n 0, 1) := by decide +kernel
theorem dX11_one_33 : decode cX11_one 33 = .ok (.getfield 169, 3) := by decide +kernel
theorem dX11_one_36 : decode cX11_one 36 = .ok (.bipush 6, 2) := by decide +kernel
theorem dX11_one_38 : decode cX11_one 38 = .ok (.if_icmp .ne 8, 3) := by decide +kernel
theorem dX11_one_41 : decode cX11_one 41 = .ok (.aload_n 0, 1) := by decide +kernel
theorem dX11_one_42 : decode cX11_one 42 = .ok (.invokevirtual 172, 3) := by decide +kernel
theorem dX11_one_45 : decode cX11_one 45 = .ok (.ireturn, 1) := by decide +kernel
theorem dX11_one_46 : decode cX11_one 46 = .ok (.aload_n 0, 1) := by decide +kernel
theorem dX11_one_47 : decode cX11_one 47 = .ok (.dup, 1) := by decide +kernel
theorem dX11_one_48 : decode cX11_one 48 = .ok (.getfield 169, 3) := by decide +kernel
theorem dX11_one_51 : decode cX11_one 51 = .ok (.iconst 1, 1) := by decide +kernel
theorem dX11_one_52 : decode cX11_one 52 = .ok (.iadd, 1) := by decide +kernel
theorem dX11_one_53 : decode cX11_one 53 = .ok (.putfield 169, 3) := by decide +kernel
theorem dX11_one_56 : decode cX11_one 56 = .ok (.aload_n 0, 1) := by decide +kernel
theorem dX11_one_57 : decode cX11_one 57 = .ok (.dup, 1) := by decide +kernel
theorem dX11_one_58 : decode cX11_one 58 = .ok (.getfield 135, 3) := by decide +kernel
theorem dX11_one_61 : decode cX11_one 61 = .ok (.iconst 1, 1) := by decide +kernel
theorem dX11_one_62 : decode cX11_one 62 = .ok (.iadd, 1) := by decide +kernel
theorem dX11_one_63 : decode cX11_one 63 = .ok (.putfield 135, 3) := by decide +kernel
theorem dX11_one_66 : decode cX11_one 66 = .ok (.iload_n 1, 1) := by decide +kernel
theorem dX11_one_67 : decode cX11_one 67 = .ok (.bipush 40, 2) := by decide +kernel
theorem dX11_one_69 : decode cX11_one 69 = .ok (.if_icmp .ne 10, 3) := by decide +kernel
theorem dX11_one_72 : decode cX11_one 72 = .ok (.aload_n 0, 1) := by decide +kernel
theorem dX11_one_73 : decode cX11_one 73 = .ok (.invokevirtual 175, 3) := by decide +kernel
theorem dX11_one_76 : decode cX11_one 76 = .ok (.goto 7, 3) := by decide +kernel
theorem dX11_one_79 : decode cX11_one 79 = .ok (.aload_n 0, 1) := by decide +kernel
theorem dX11_one_80 : decode cX11_one 80 = .ok (.invokevirtual 166, 3) := by decide +kernel
theorem dX11_one_83 : decode cX11_one 83 = .ok (.istore_n 2, 1) := by decide +kernel
theorem dX11_one_84 : decode cX11_one 84 = .ok (.iload_n 1, 1) := by decide +kernel
theorem dX11_one_85 : decode cX11_one 85 = .ok (.bipush 40, 2) := by decide +kernel
theorem dX11_one_87 : decode cX11_one 87 = .ok (.if_icmp .ne 17, 3) := by decide +kernel
theorem dX11_one_90 : decode cX11_one 90 = .ok (.aload_n 0, 1) := by decide +kernel
theorem dX11_one_91 : decode cX11_one 91 = .ok (.bipush 41, 2) := by decide +kernel
theorem dX11_one_93 : decode cX11_one 93 = .ok (.invokevirtual 154, 3) := by decide +kernel
theorem dX11_one_96 : decode cX11_one 96 = .ok (.ifCond .ne 8, 3) := by decide +kernel
theorem dX11_one_99 : decode cX11_one 99 = .ok (.aload_n 0, 1) := by decide +kernel
theorem dX11_one_100 : decode cX11_one 100 = .ok (.invokevirtual 172, 3) := by decide +kernel
theorem dX11_one_103 : decode cX11_one 103 = .ok (.ireturn, 1) := by decide +kernel
theorem dX11_one_104 : decode cX11_one 104 = .ok (.aload_n 0, 1) := by decide +kernel
theorem dX11_one_105 : decode cX11_one 105 = .ok (.dup, 1) := by decide +kernel
theorem dX11_one_106 : decode cX11_one 106 = .ok (.getfield 169, 3) := by decide +kernel
theorem dX11_one_109 : decode cX11_one 109 = .ok (.iconst 1, 1) := by decide +kernel
theorem dX11_one_110 : decode cX11_one 110 = .ok (.isub, 1) := by decide +kernel
theorem dX11_one_111 : decode cX11_one 111 = .ok (.putfield 169, 3) := by decide +kernel
theorem dX11_one_114 : decode cX11_one 114 = .ok (.iload_n 1, 1) := by decide +kernel
theorem dX11_one_115 : decode cX11_one 115 = .ok (.bipush 40, 2) := by decide +kernel
theorem dX11_one_117 : decode cX11_one 117 = .ok (.if_icmp .ne 7, 3) := by decide +kernel
theorem dX11_one_120 : decode cX11_one 120 = .ok (.iload_n 2, 1) := by decide +kernel
theorem dX11_one_121 : decode cX11_one 121 = .ok (.goto 23, 3) := by decide +kernel
theorem dX11_one_124 : decode cX11_one 124 = .ok (.iload_n 1, 1) := by decide +kernel
theorem dX11_one_125 : decode cX11_one 125 = .ok (.bipush 45, 2) := by decide +kernel
theorem dX11_one_127 : decode cX11_one 127 = .ok (.if_icmp .ne 8, 3) := by decide +kernel
theorem dX11_one_130 : decode cX11_one 130 = .ok (.iload_n 2, 1) := by decide +kernel
theorem dX11_one_131 : decode cX11_one 131 = .ok (.ineg, 1) := by decide +kernel
theorem dX11_one_132 : decode cX11_one 132 = .ok (.goto 12, 3) := by decide +kernel
theorem dX11_one_135 : decode cX11_one 135 = .ok (.iload_n 2, 1) := by decide +kernel
theorem dX11_one_136 : decode cX11_one 136 = .ok (.ifCond .ne 7, 3) := by decide +kernel
theorem dX11_one_139 : decode cX11_one 139 = .ok (.iconst 1, 1) := by decide +kernel
theorem dX11_one_140 : decode cX11_one 140 = .ok (.goto 4, 3) := by decide +kernel
theorem dX11_one_143 : decode cX11_one 143 = .ok (.iconst 0, 1) := by decide +kernel
theorem dX11_one_144 : decode cX11_one 144 = .ok (.ireturn, 1) := by decide +kernel
theorem dX11_one_145 : decode cX11_one 145 = .ok (.iload_n 1, 1) := by decide +kernel
theorem dX11_one_146 : decode cX11_one 146 = .ok (.invokestatic 178, 3) := by decide +kernel
theorem dX11_one_149 : decode cX11_one 149 = .ok (.istore_n 2, 1) := by decide +kernel
theorem dX11_one_150 : decode cX11_one 150 = .ok (.iload_n 2, 1) := by decide +kernel
theorem dX11_one_151 : decode cX11_one 151 = .ok (.ifCond .lt 20, 3) := by decide +kernel
theorem dX11_one_154 : decode cX11_one 154 = .ok (.aload_n 0, 1) := by decide +kernel
theorem dX11_one_155 : decode cX11_one 155 = .ok (.dup, 1) := by decide +kernel
theorem dX11_one_156 : decode cX11_one 156 = .ok (.getfield 135, 3) := by decide +kernel
theorem dX11_one_159 : decode cX11_one 159 = .ok (.iconst 1, 1) := by decide +kernel
theorem dX11_one_160 : decode cX11_one 160 = .ok (.iadd, 1) := by decide +kernel
theorem dX11_one_161 : decode cX11_one 161 = .ok (.putfield 135, 3) := by decide +kernel
theorem dX11_one_164 : decode cX11_one 164 = .ok (.aload_n 0, 1) := by decide +kernel
theorem dX11_one_165 : decode cX11_one 165 = .ok (.getfield 37, 3) := by decide +kernel
theorem dX11_one_168 : decode cX11_one 168 = .ok (.iload_n 2, 1) := by decide +kernel
theorem dX11_one_169 : decode cX11_one 169 = .ok (.iaload, 1) := by decide +kernel
theorem dX11_one_170 : decode cX11_one 170 = .ok (.ireturn, 1) := by decide +kernel
theorem dX11_one_171 : decode cX11_one 171 = .ok (.iconst 0, 1) := by decide +kernel
theorem dX11_one_172 : decode cX11_one 172 = .ok (.istore_n 3, 1) := by decide +kernel
theorem dX11_one_173 : decode cX11_one 173 = .ok (.iconst 0, 1) := by decide +kernel
theorem dX11_one_174 : decode cX11_one 174 = .ok (.istore 4, 2) := by decide +kernel
theorem dX11_one_176 : decode cX11_one 176 = .ok (.iload 4, 2) := by decide +kernel
theorem dX11_one_178 : decode cX11_one 178 = .ok (.iconst 4, 1) := by decide +kernel
theorem dX11_one_179 : decode cX11_one 179 = .ok (.if_icmp .ge 50, 3) := by decide +kernel
theorem dX11_one_182 : decode cX11_one 182 = .ok (.aload_n 0, 1) := by decide +kernel
theorem dX11_one_183 : decode cX11_one 183 = .ok (.invokevirtual 147, 3) := by decide +kernel
theorem dX11_one_186 : decode cX11_one 186 = .ok (.bipush 48, 2) := by decide +kernel
theorem dX11_one_188 : decode cX11_one 188 = .ok (.if_icmp .lt 41, 3) := by decide +kernel
theorem dX11_one_191 : decode cX11_one 191 = .ok (.aload_n 0, 1) := by decide +kernel
theorem dX11_one_192 : decode cX11_one 192 = .ok (.invokevirtual 147, 3) := by decide +kernel
theorem dX11_one_195 : decode cX11_one 195 = .ok (.bipush 57, 2) := by decide +kernel
theorem dX11_one_197 : decode cX11_one 197 = .ok (.if_icmp .gt 32, 3) := by decide +kernel
theorem dX11_one_200 : decode cX11_one 200 = .ok (.bipush 10, 2) := by decide +kernel
theorem dX11_one_202 : decode cX11_one 202 = .ok (.iload_n 3, 1) := by decide +kernel
theorem dX11_one_203 : decode cX11_one 203 = .ok (.imul, 1) := by decide +kernel
theorem dX11_one_204 : decode cX11_one 204 = .ok (.aload_n 0, 1) := by decide +kernel
theorem dX11_one_205 : decode cX11_one 205 = .ok (.invokevirtual 147, 3) := by decide +kernel
theorem dX11_one_208 : decode cX11_one 208 = .ok (.iadd, 1) := by decide +kernel
theorem dX11_one_209 : decode cX11_one 209 = .ok (.bipush 48, 2) := by decide +kernel
theorem dX11_one_211 : decode cX11_one 211 = .ok (.isub, 1) := by decide +kernel
theorem dX11_one_212 : decode cX11_one 212 = .ok (.istore_n 3, 1) := by decide +kernel
theorem dX11_one_213 : decode cX11_one 213 = .ok (.iinc 4 1, 3) := by decide +kernel
theorem dX11_one_216 : decode cX11_one 216 = .ok (.aload_n 0, 1) := by decide +kernel
theorem dX11_one_217 : decode cX11_one 217 = .ok (.dup, 1) := by decide +kernel
theorem dX11_one_218 : decode cX11_one 218 = .ok (.getfield 135, 3) := by decide +kernel
theorem dX11_one_221 : decode cX11_one 221 = .ok (.iconst 1, 1) := by decide +kernel
theorem dX11_one_222 : decode cX11_one 222 = .ok (.iadd, 1) := by decide +kernel
theorem dX11_one_223 : decode cX11_one 223 = .ok (.putfield 135, 3) := by decide +kernel
theorem dX11_one_226 : decode cX11_one 226 = .ok (.goto (-50), 3) := by decide +kernel
theorem dX11_one_229 : decode cX11_one 229 = .ok (.iload 4, 2) := by decide +kernel
theorem dX11_one_231 : decode cX11_one 231 = .ok (.ifCond .ne 10, 3) := by decide +kernel
theorem dX11_one_234 : decode cX11_one 234 = .ok (.aload_n 0, 1) := by decide +kernel
theorem dX11_one_235 : decode cX11_one 235 = .ok (.invokevirtual 172, 3) := by decide +kernel
theorem dX11_one_238 : decode cX11_one 238 = .ok (.goto 4, 3) := by decide +kernel
theorem dX11_one_241 : decode cX11_one 241 = .ok (.iload_n 3, 1) := by decide +kernel
theorem dX11_one_242 : decode cX11_one 242 = .ok (.ireturn, 1) := by decide +kernel
theorem dX11_workOut_0 : decode cX11_workOut 0 = .ok (.aload_n 0, 1) := by decide +kernel
theorem dX11_workOut_1 : decode cX11_workOut 1 = .ok (.iload_n 1, 1) := by decide +kernel
theorem dX11_workOut_2 : decode cX11_workOut 2 = .ok (.putfield 141, 3) := by decide +kernel
theorem dX11_workOut_5 : decode cX11_workOut 5 = .ok (.aload_n 0, 1) := by decide +kernel
theorem dX11_workOut_6 : decode cX11_workOut 6 = .ok (.iconst 0, 1) := by decide +kernel
theorem dX11_workOut_7 : decode cX11_workOut 7 = .ok (.putfield 135, 3) := by decide +kernel
theorem dX11_workOut_10 : decode cX11_workOut 10 = .ok (.aload_n 0, 1) := by decide +kernel
theorem dX11_workOut_11 : decode cX11_workOut 11 = .ok (.iload_n 2, 1) := by decide +kernel
theorem dX11_workOut_12 : decode cX11_workOut 12 = .ok (.putfield 138, 3) := by decide +kernel
theorem dX11_workOut_15 : decode cX11_workOut 15 = .ok (.aload_n 0, 1) := by decide +kernel
theorem dX11_workOut_16 : decode cX11_workOut 16 = .ok (.iconst (-1), 1) := by decide +kernel
theorem dX11_workOut_17 : decode cX11_workOut 17 = .ok (.putfield 144, 3) := by decide +kernel
theorem dX11_workOut_20 : decode cX11_workOut 20 = .ok (.aload_n 0, 1) := by decide +kernel
theorem dX11_workOut_21 : decode cX11_workOut 21 = .ok (.iconst 0, 1) := by decide +kernel
theorem dX11_workOut_22 : decode cX11_workOut 22 = .ok (.putfield 169, 3) := by decide +kernel
theorem dX11_workOut_25 : decode cX11_workOut 25 = .ok (.iconst 0, 1) := by decide +kernel
theorem dX11_workOut_26 : decode cX11_workOut 26 = .ok (.istore_n 3, 1) := by decide +kernel
theorem dX11_workOut_27 : decode cX11_workOut 27 = .ok (.iconst 0, 1) := by decide +kernel
theorem dX11_workOut_28 : decode cX11_workOut 28 = .ok (.istore 4, 2) := by decide +kernel
theorem dX11_workOut_30 : decode cX11_workOut 30 = .ok (.iconst 1, 1) := by decide +kernel
theorem dX11_workOut_31 : decode cX11_workOut 31 = .ok (.istore 5, 2) := by decide +kernel
theorem dX11_workOut_33 : decode cX11_workOut 33 = .ok (.iload 5, 2) := by decide +kernel
theorem dX11_workOut_35 : decode cX11_workOut 35 = .ok (.ifCond .eq 72, 3) := by decide +kernel
theorem dX11_workOut_38 : decode cX11_workOut 38 = .ok (.aload_n 0, 1) := by decide +kernel
theorem dX11_workOut_39 : decode cX11_workOut 39 = .ok (.invokevirtual 175, 3) := by decide +kernel
theorem dX11_workOut_42 : decode cX11_workOut 42 = .ok (.istore 6, 2) := by decide +kernel
theorem dX11_workOut_44 : decode cX11_workOut 44 = .ok (.iconst 1, 1) := by decide +kernel
theorem dX11_workOut_45 : decode cX11_workOut 45 = .ok (.istore 7, 2) := by decide +kernel
theorem dX11_workOut_47 : decode cX11_workOut 47 = .ok (.aload_n 0, 1) := by decide +kernel
theorem dX11_workOut_48 : decode cX11_workOut 48 = .ok (.bipush 63, 2) := by decide +kernel
theorem dX11_workOut_50 : decode cX11_workOut 50 = .ok (.invokevirtual 154, 3) := by decide +kernel
theorem dX11_workOut_53 : decode cX11_workOut 53 = .ok (.ifCond .eq 21, 3) := by decide +kernel
theorem dX11_workOut_56 : decode cX11_workOut 56 = .ok (.iload 6, 2) := by decide +kernel
theorem dX11_workOut_58 : decode cX11_workOut 58 = .ok (.ifCond .eq 7, 3) := by decide +kernel
theorem dX11_workOut_61 : decode cX11_workOut 61 = .ok (.iconst 1, 1) := by decide +kernel
theorem dX11_workOut_62 : decode cX11_workOut 62 = .ok (.goto 4, 3) := by decide +kernel
theorem dX11_workOut_65 : decode cX11_workOut 65 = .ok (.iconst 0, 1) := by decide +kernel
theorem dX11_workOut_66 : decode cX11_workOut 66 = .ok (.istore 7, 2) := by decide +kernel
theorem dX11_workOut_68 : decode cX11_workOut 68 = .ok (.aload_n 0, 1) := by decide +kernel
theorem dX11_workOut_69 : decode cX11_workOut 69 = .ok (.invokevirtual 175, 3) := by decide +kernel
theorem dX11_workOut_72 : decode cX11_workOut 72 = .ok (.istore 6, 2) := by decide +kernel
theorem dX11_workOut_74 : decode cX11_workOut 74 = .ok (.aload_n 0, 1) := by decide +kernel
theorem dX11_workOut_75 : decode cX11_workOut 75 = .ok (.getfield 144, 3) := by decide +kernel
theorem dX11_workOut_78 : decode cX11_workOut 78 = .ok (.ifCond .ge 18, 3) := by decide +kernel
theorem dX11_workOut_81 : decode cX11_workOut 81 = .ok (.iload 7, 2) := by decide +kernel
theorem dX11_workOut_83 : decode cX11_workOut 83 = .ok (.ifCond .eq 13, 3) := by decide +kernel
theorem dX11_workOut_86 : decode cX11_workOut 86 = .ok (.iload_n 3, 1) := by decide +kernel
theorem dX11_workOut_87 : decode cX11_workOut 87 = .ok (.ifCond .ne 9, 3) := by decide +kernel
theorem dX11_workOut_90 : decode cX11_workOut 90 = .ok (.iconst 1, 1) := by decide +kernel
theorem dX11_workOut_91 : decode cX11_workOut 91 = .ok (.istore_n 3, 1) := by decide +kernel
theorem dX11_workOut_92 : decode cX11_workOut 92 = .ok (.iload 6, 2) := by decide +kernel
theorem dX11_workOut_94 : decode cX11_workOut 94 = .ok (.istore 4, 2) := by decide +kernel
theorem dX11_workOut_96 : decode cX11_workOut 96 = .ok (.aload_n 0, 1) := by decide +kernel
theorem dX11_workOut_97 : decode cX11_workOut 97 = .ok (.bipush 59, 2) := by decide +kernel
theorem dX11_workOut_99 : decode cX11_workOut 99 = .ok (.invokevirtual 154, 3) := by decide +kernel
theorem dX11_workOut_102 : decode cX11_workOut 102 = .ok (.istore 5, 2) := by decide +kernel
theorem dX11_workOut_104 : decode cX11_workOut 104 = .ok (.goto (-71), 3) := by decide +kernel
theorem dX11_workOut_107 : decode cX11_workOut 107 = .ok (.aload_n 0, 1) := by decide +kernel
theorem dX11_workOut_108 : decode cX11_workOut 108 = .ok (.getfield 144, 3) := by decide +kernel
theorem dX11_workOut_111 : decode cX11_workOut 111 = .ok (.ifCond .ge 19, 3) := by decide +kernel
theorem dX11_workOut_114 : decode cX11_workOut 114 = .ok (.aload_n 0, 1) := by decide +kernel
theorem dX11_workOut_115 : decode cX11_workOut 115 = .ok (.getfield 135, 3) := by decide +kernel
theorem dX11_workOut_118 : decode cX11_workOut 118 = .ok (.aload_n 0, 1) := by decide +kernel
theorem dX11_workOut_119 : decode cX11_workOut 119 = .ok (.getfield 138, 3) := by decide +kernel
theorem dX11_workOut_122 : decode cX11_workOut 122 = .ok (.if_icmp .ge 8, 3) := by decide +kernel
theorem dX11_workOut_125 : decode cX11_workOut 125 = .ok (.aload_n 0, 1) := by decide +kernel
theorem dX11_workOut_126 : decode cX11_workOut 126 = .ok (.invokevirtual 172, 3) := by decide +kernel
theorem dX11_workOut_129 : decode cX11_workOut 129 = .ok (.ireturn, 1) := by decide +kernel
theorem dX11_workOut_130 : decode cX11_workOut 130 = .ok (.iload 4, 2) := by decide +kernel
theorem dX11_workOut_132 : decode cX11_workOut 132 = .ok (.ireturn, 1) := by decide +kernel
theorem dX11_writer_0 : decode cX11_writer 0 = .ok (.iload_n 1, 1) := by decide +kernel
theorem dX11_writer_1 : decode cX11_writer 1 = .ok (.i2l, 1) := by decide +kernel
theorem dX11_writer_2 : decode cX11_writer 2 = .ok (.lconst 0, 1) := by decide +kernel
theorem dX11_writer_3 : decode cX11_writer 3 = .ok (.ldc2_w 92, 3) := by decide +kernel
theorem dX11_writer_6 : decode cX11_writer 6 = .ok (.invokestatic 88, 3) := by decide +kernel
theorem dX11_writer_9 : decode cX11_writer 9 = .ok (.ifCond .eq 15, 3) := by decide +kernel
theorem dX11_writer_12 : decode cX11_writer 12 = .ok (.iload_n 2, 1) := by decide +kernel
theorem dX11_writer_13 : decode cX11_writer 13 = .ok (.i2l, 1) := by decide +kernel
theorem dX11_writer_14 : decode cX11_writer 14 = .ok (.lconst 0, 1) := by decide +kernel
theorem dX11_writer_15 : decode cX11_writer 15 = .ok (.ldc2_w 96, 3) := by decide +kernel
theorem dX11_writer_18 : decode cX11_writer 18 = .ok (.invokestatic 88, 3) := by decide +kernel
theorem dX11_writer_21 : decode cX11_writer 21 = .ok (.ifCond .ne 5, 3) := by decide +kernel
theorem dX11_writer_24 : decode cX11_writer 24 = .ok (.iconst (-1), 1) := by decide +kernel
theorem dX11_writer_25 : decode cX11_writer 25 = .ok (.ireturn, 1) := by decide +kernel
theorem dX11_writer_26 : decode cX11_writer 26 = .ok (.aload_n 0, 1) := by decide +kernel
theorem dX11_writer_27 : decode cX11_writer 27 = .ok (.getfield 127, 3) := by decide +kernel
theorem dX11_writer_30 : decode cX11_writer 30 = .ok (.iconst 4, 1) := by decide +kernel
theorem dX11_writer_31 : decode cX11_writer 31 = .ok (.if_icmp .ne 6, 3) := by decide +kernel
theorem dX11_writer_34 : decode cX11_writer 34 = .ok (.bipush (-3), 2) := by decide +kernel
theorem dX11_writer_36 : decode cX11_writer 36 = .ok (.ireturn, 1) := by decide +kernel
theorem dX11_writer_37 : decode cX11_writer 37 = .ok (.aload_n 0, 1) := by decide +kernel
theorem dX11_writer_38 : decode cX11_writer 38 = .ok (.iconst (-1), 1) := by decide +kernel
theorem dX11_writer_39 : decode cX11_writer 39 = .ok (.aload_n 0, 1) := by decide +kernel
theorem dX11_writer_40 : decode cX11_writer 40 = .ok (.getfield 132, 3) := by decide +kernel
theorem dX11_writer_43 : decode cX11_writer 43 = .ok (.invokevirtual 181, 3) := by decide +kernel
theorem dX11_writer_46 : decode cX11_writer 46 = .ok (.istore_n 3, 1) := by decide +kernel
theorem dX11_writer_47 : decode cX11_writer 47 = .ok (.aload_n 0, 1) := by decide +kernel
theorem dX11_writer_48 : decode cX11_writer 48 = .ok (.getfield 132, 3) := by decide +kernel
theorem dX11_writer_51 : decode cX11_writer 51 = .ok (.istore 4, 2) := by decide +kernel
theorem dX11_writer_53 : decode cX11_writer 53 = .ok (.aload_n 0, 1) := by decide +kernel
theorem dX11_writer_54 : decode cX11_writer 54 = .ok (.iconst 0, 1) := by decide +kernel
theorem dX11_writer_55 : decode cX11_writer 55 = .ok (.putfield 132, 3) := by decide +kernel
theorem dX11_writer_58 : decode cX11_writer 58 = .ok (.aload_n 0, 1) := by decide +kernel
theorem dX11_writer_59 : decode cX11_writer 59 = .ok (.getfield 144, 3) := by decide +kernel
theorem dX11_writer_62 : decode cX11_writer 62 = .ok (.ifCond .lt 11, 3) := by decide +kernel
theorem dX11_writer_65 : decode cX11_writer 65 = .ok (.bipush (-100), 2) := by decide +kernel
theorem dX11_writer_67 : decode cX11_writer 67 = .ok (.aload_n 0, 1) := by decide +kernel
theorem dX11_writer_68 : decode cX11_writer 68 = .ok (.getfield 144, 3) := by decide +kernel
theorem dX11_writer_71 : decode cX11_writer 71 = .ok (.isub, 1) := by decide +kernel
theorem dX11_writer_72 : decode cX11_writer 72 = .ok (.ireturn, 1) := by decide +kernel
theorem dX11_writer_73 : decode cX11_writer 73 = .ok (.iconst 0, 1) := by decide +kernel
theorem dX11_writer_74 : decode cX11_writer 74 = .ok (.istore 5, 2) := by decide +kernel
theorem dX11_writer_76 : decode cX11_writer 76 = .ok (.iload 5, 2) := by decide +kernel
theorem dX11_writer_78 : decode cX11_writer 78 = .ok (.iload 4, 2) := by decide +kernel
theorem dX11_writer_80 : decode cX11_writer 80 = .ok (.if_icmp .ge 31, 3) := by decide +kernel
theorem dX11_writer_83 : decode cX11_writer 83 = .ok (.aload_n 0, 1) := by decide +kernel
theorem dX11_writer_84 : decode cX11_writer 84 = .ok (.getfield 31, 3) := by decide +kernel
theorem dX11_writer_87 : decode cX11_writer 87 = .ok (.bipush 120, 2) := by decide +kernel
theorem dX11_writer_89 : decode cX11_writer 89 = .ok (.aload_n 0, 1) := by decide +kernel
theorem dX11_writer_90 : decode cX11_writer 90 = .ok (.getfield 127, 3) := by decide +kernel
theorem dX11_writer_93 : decode cX11_writer 93 = .ok (.imul, 1) := by decide +kernel
theorem dX11_writer_94 : decode cX11_writer 94 = .ok (.iload 5, 2) := by decide +kernel
theorem dX11_writer_96 : decode cX11_writer 96 = .ok (.iadd, 1) := by decide +kernel
theorem dX11_writer_97 : decode cX11_writer 97 = .ok (.aload_n 0, 1) := by decide +kernel
theorem dX11_writer_98 : decode cX11_writer 98 = .ok (.getfield 22, 3) := by decide +kernel
theorem dX11_writer_101 : decode cX11_writer 101 = .ok (.iload 5, 2) := by decide +kernel
theorem dX11_writer_103 : decode cX11_writer 103 = .ok (.iaload, 1) := by decide +kernel
theorem dX11_writer_104 : decode cX11_writer 104 = .ok (.iastore, 1) := by decide +kernel
theorem dX11_writer_105 : decode cX11_writer 105 = .ok (.iinc 5 1, 3) := by decide +kernel
theorem dX11_writer_108 : decode cX11_writer 108 = .ok (.goto (-32), 3) := by decide +kernel
theorem dX11_writer_111 : decode cX11_writer 111 = .ok (.aload_n 0, 1) := by decide +kernel
theorem dX11_writer_112 : decode cX11_writer 112 = .ok (.getfield 34, 3) := by decide +kernel
theorem dX11_writer_115 : decode cX11_writer 115 = .ok (.aload_n 0, 1) := by decide +kernel
theorem dX11_writer_116 : decode cX11_writer 116 = .ok (.getfield 127, 3) := by decide +kernel
theorem dX11_writer_119 : decode cX11_writer 119 = .ok (.iload 4, 2) := by decide +kernel
theorem dX11_writer_121 : decode cX11_writer 121 = .ok (.iastore, 1) := by decide +kernel
theorem dX11_writer_122 : decode cX11_writer 122 = .ok (.aload_n 0, 1) := by decide +kernel
theorem dX11_writer_123 : decode cX11_writer 123 = .ok (.getfield 25, 3) := by decide +kernel
theorem dX11_writer_126 : decode cX11_writer 126 = .ok (.aload_n 0, 1) := by decide +kernel
theorem dX11_writer_127 : decode cX11_writer 127 = .ok (.getfield 127, 3) := by decide +kernel
theorem dX11_writer_130 : decode cX11_writer 130 = .ok (.iload_n 1, 1) := by decide +kernel
theorem dX11_writer_131 : decode cX11_writer 131 = .ok (.iastore, 1) := by decide +kernel
theorem dX11_writer_132 : decode cX11_writer 132 = .ok (.aload_n 0, 1) := by decide +kernel
theorem dX11_writer_133 : decode cX11_writer 133 = .ok (.getfield 28, 3) := by decide +kernel
theorem dX11_writer_136 : decode cX11_writer 136 = .ok (.aload_n 0, 1) := by decide +kernel
theorem dX11_writer_137 : decode cX11_writer 137 = .ok (.getfield 127, 3) := by decide +kernel
theorem dX11_writer_140 : decode cX11_writer 140 = .ok (.iload_n 2, 1) := by decide +kernel
theorem dX11_writer_141 : decode cX11_writer 141 = .ok (.iastore, 1) := by decide +kernel
theorem dX11_writer_142 : decode cX11_writer 142 = .ok (.aload_n 0, 1) := by decide +kernel
theorem dX11_writer_143 : decode cX11_writer 143 = .ok (.dup, 1) := by decide +kernel
theorem dX11_writer_144 : decode cX11_writer 144 = .ok (.getfield 127, 3) := by decide +kernel
theorem dX11_writer_147 : decode cX11_writer 147 = .ok (.iconst 1, 1) := by decide +kernel
theorem dX11_writer_148 : decode cX11_writer 148 = .ok (.iadd, 1) := by decide +kernel
theorem dX11_writer_149 : decode cX11_writer 149 = .ok (.putfield 127, 3) := by decide +kernel
theorem dX11_writer_152 : decode cX11_writer 152 = .ok (.aload_n 0, 1) := by decide +kernel
theorem dX11_writer_153 : decode cX11_writer 153 = .ok (.getfield 127, 3) := by decide +kernel
theorem dX11_writer_156 : decode cX11_writer 156 = .ok (.iconst 1, 1) := by decide +kernel
theorem dX11_writer_157 : decode cX11_writer 157 = .ok (.isub, 1) := by decide +kernel
theorem dX11_writer_158 : decode cX11_writer 158 = .ok (.ireturn, 1) := by decide +kernel
theorem dX11_heedOf_0 : decode cX11_heedOf 0 = .ok (.iconst 0, 1) := by decide +kernel
theorem dX11_heedOf_1 : decode cX11_heedOf 1 = .ok (.istore_n 3, 1) := by decide +kernel
theorem dX11_heedOf_2 : decode cX11_heedOf 2 = .ok (.iconst 0, 1) := by decide +kernel
theorem dX11_heedOf_3 : decode cX11_heedOf 3 = .ok (.istore 4, 2) := by decide +kernel
theorem dX11_heedOf_5 : decode cX11_heedOf 5 = .ok (.iload 4, 2) := by decide +kernel
theorem dX11_heedOf_7 : decode cX11_heedOf 7 = .ok (.iload_n 2, 1) := by decide +kernel
theorem dX11_heedOf_8 : decode cX11_heedOf 8 = .ok (.if_icmp .ge 39, 3) := by decide +kernel
theorem dX11_heedOf_11 : decode cX11_heedOf 11 = .ok (.iload_n 3, 1) := by decide +kernel
theorem dX11_heedOf_12 : decode cX11_heedOf 12 = .ok (.aload_n 0, 1) := by decide +kernel
theorem dX11_heedOf_13 : decode cX11_heedOf 13 = .ok (.getfield 9, 3) := by decide +kernel
theorem dX11_heedOf_16 : decode cX11_heedOf 16 = .ok (.bipush 32, 2) := by decide +kernel
theorem dX11_heedOf_18 : decode cX11_heedOf 18 = .ok (.iload 4, 2) := by decide +kernel
theorem dX11_heedOf_20 : decode cX11_heedOf 20 = .ok (.iadd, 1) := by decide +kernel
theorem dX11_heedOf_21 : decode cX11_heedOf 21 = .ok (.iaload, 1) := by decide +kernel
theorem dX11_heedOf_22 : decode cX11_heedOf 22 = .ok (.aload_n 0, 1) := by decide +kernel
theorem dX11_heedOf_23 : decode cX11_heedOf 23 = .ok (.getfield 9, 3) := by decide +kernel
theorem dX11_heedOf_26 : decode cX11_heedOf 26 = .ok (.bipush 32, 2) := by decide +kernel
theorem dX11_heedOf_28 : decode cX11_heedOf 28 = .ok (.iload_n 2, 1) := by decide +kernel
theorem dX11_heedOf_29 : decode cX11_heedOf 29 = .ok (.iadd, 1) := by decide +kernel
theorem dX11_heedOf_30 : decode cX11_heedOf 30 = .ok (.iaload, 1) := by decide +kernel
theorem dX11_heedOf_31 : decode cX11_heedOf 31 = .ok (.if_icmp .ne 7, 3) := by decide +kernel
theorem dX11_heedOf_34 : decode cX11_heedOf 34 = .ok (.iconst 1, 1) := by decide +kernel
theorem dX11_heedOf_35 : decode cX11_heedOf 35 = .ok (.goto 4, 3) := by decide +kernel
theorem dX11_heedOf_38 : decode cX11_heedOf 38 = .ok (.iconst 0, 1) := by decide +kernel
theorem dX11_heedOf_39 : decode cX11_heedOf 39 = .ok (.iadd, 1) := by decide +kernel
theorem dX11_heedOf_40 : decode cX11_heedOf 40 = .ok (.istore_n 3, 1) := by decide +kernel
theorem dX11_heedOf_41 : decode cX11_heedOf 41 = .ok (.iinc 4 1, 3) := by decide +kernel
theorem dX11_heedOf_44 : decode cX11_heedOf 44 = .ok (.goto (-39), 3) := by decide +kernel
theorem dX11_heedOf_47 : decode cX11_heedOf 47 = .ok (.aload_n 0, 1) := by decide +kernel
theorem dX11_heedOf_48 : decode cX11_heedOf 48 = .ok (.getfield 37, 3) := by decide +kernel
theorem dX11_heedOf_51 : decode cX11_heedOf 51 = .ok (.iconst 0, 1) := by decide +kernel
theorem dX11_heedOf_52 : decode cX11_heedOf 52 = .ok (.aload_n 0, 1) := by decide +kernel
theorem dX11_heedOf_53 : decode cX11_heedOf 53 = .ok (.getfield 9, 3) := by decide +kernel
theorem dX11_heedOf_56 : decode cX11_heedOf 56 = .ok (.iload_n 2, 1) := by decide +kernel
theorem dX11_heedOf_57 : decode cX11_heedOf 57 = .ok (.iaload, 1) := by decide +kernel
theorem dX11_heedOf_58 : decode cX11_heedOf 58 = .ok (.iastore, 1) := by decide +kernel
theorem dX11_heedOf_59 : decode cX11_heedOf 59 = .ok (.aload_n 0, 1) := by decide +kernel
theorem dX11_heedOf_60 : decode cX11_heedOf 60 = .ok (.getfield 37, 3) := by decide +kernel
theorem dX11_heedOf_63 : decode cX11_heedOf 63 = .ok (.iconst 1, 1) := by decide +kernel
theorem dX11_heedOf_64 : decode cX11_heedOf 64 = .ok (.aload_n 0, 1) := by decide +kernel
theorem dX11_heedOf_65 : decode cX11_heedOf 65 = .ok (.getfield 9, 3) := by decide +kernel
theorem dX11_heedOf_68 : decode cX11_heedOf 68 = .ok (.bipush 16, 2) := by decide +kernel
theorem dX11_heedOf_70 : decode cX11_heedOf 70 = .ok (.iload_n 2, 1) := by decide +kernel
theorem dX11_heedOf_71 : decode cX11_heedOf 71 = .ok (.iadd, 1) := by decide +kernel
theorem dX11_heedOf_72 : decode cX11_heedOf 72 = .ok (.iaload, 1) := by decide +kernel
theorem dX11_heedOf_73 : decode cX11_heedOf 73 = .ok (.iastore, 1) := by decide +kernel
theorem dX11_heedOf_74 : decode cX11_heedOf 74 = .ok (.aload_n 0, 1) := by decide +kernel
theorem dX11_heedOf_75 : decode cX11_heedOf 75 = .ok (.getfield 37, 3) := by decide +kernel
theorem dX11_heedOf_78 : decode cX11_heedOf 78 = .ok (.iconst 2, 1) := by decide +kernel
theorem dX11_heedOf_79 : decode cX11_heedOf 79 = .ok (.aload_n 0, 1) := by decide +kernel
theorem dX11_heedOf_80 : decode cX11_heedOf 80 = .ok (.getfield 9, 3) := by decide +kernel
theorem dX11_heedOf_83 : decode cX11_heedOf 83 = .ok (.bipush 32, 2) := by decide +kernel
theorem dX11_heedOf_85 : decode cX11_heedOf 85 = .ok (.iload_n 2, 1) := by decide +kernel
theorem dX11_heedOf_86 : decode cX11_heedOf 86 = .ok (.iadd, 1) := by decide +kernel
theorem dX11_heedOf_87 : decode cX11_heedOf 87 = .ok (.iaload, 1) := by decide +kernel
theorem dX11_heedOf_88 : decode cX11_heedOf 88 = .ok (.iastore, 1) := by decide +kernel
theorem dX11_heedOf_89 : decode cX11_heedOf 89 = .ok (.aload_n 0, 1) := by decide +kernel
theorem dX11_heedOf_90 : decode cX11_heedOf 90 = .ok (.getfield 37, 3) := by decide +kernel
theorem dX11_heedOf_93 : decode cX11_heedOf 93 = .ok (.iconst 3, 1) := by decide +kernel
theorem dX11_heedOf_94 : decode cX11_heedOf 94 = .ok (.aload_n 0, 1) := by decide +kernel
theorem dX11_heedOf_95 : decode cX11_heedOf 95 = .ok (.getfield 9, 3) := by decide +kernel
theorem dX11_heedOf_98 : decode cX11_heedOf 98 = .ok (.bipush 48, 2) := by decide +kernel
theorem dX11_heedOf_100 : decode cX11_heedOf 100 = .ok (.iload_n 2, 1) := by decide +kernel
theorem dX11_heedOf_101 : decode cX11_heedOf 101 = .ok (.iadd, 1) := by decide +kernel
theorem dX11_heedOf_102 : decode cX11_heedOf 102 = .ok (.iaload, 1) := by decide +kernel
theorem dX11_heedOf_103 : decode cX11_heedOf 103 = .ok (.iastore, 1) := by decide +kernel
theorem dX11_heedOf_104 : decode cX11_heedOf 104 = .ok (.aload_n 0, 1) := by decide +kernel
theorem dX11_heedOf_105 : decode cX11_heedOf 105 = .ok (.getfield 37, 3) := by decide +kernel
theorem dX11_heedOf_108 : decode cX11_heedOf 108 = .ok (.iconst 4, 1) := by decide +kernel
theorem dX11_heedOf_109 : decode cX11_heedOf 109 = .ok (.iload_n 2, 1) := by decide +kernel
theorem dX11_heedOf_110 : decode cX11_heedOf 110 = .ok (.iastore, 1) := by decide +kernel
theorem dX11_heedOf_111 : decode cX11_heedOf 111 = .ok (.aload_n 0, 1) := by decide +kernel
theorem dX11_heedOf_112 : decode cX11_heedOf 112 = .ok (.getfield 37, 3) := by decide +kernel
theorem dX11_heedOf_115 : decode cX11_heedOf 115 = .ok (.iconst 5, 1) := by decide +kernel
theorem dX11_heedOf_116 : decode cX11_heedOf 116 = .ok (.aload_n 0, 1) := by decide +kernel
theorem dX11_heedOf_117 : decode cX11_heedOf 117 = .ok (.iload_n 2, 1) := by decide +kernel
theorem dX11_heedOf_118 : decode cX11_heedOf 118 = .ok (.invokevirtual 123, 3) := by decide +kernel
theorem dX11_heedOf_121 : decode cX11_heedOf 121 = .ok (.iastore, 1) := by decide +kernel
theorem dX11_heedOf_122 : decode cX11_heedOf 122 = .ok (.aload_n 0, 1) := by decide +kernel
theorem dX11_heedOf_123 : decode cX11_heedOf 123 = .ok (.getfield 37, 3) := by decide +kernel
theorem dX11_heedOf_126 : decode cX11_heedOf 126 = .ok (.bipush 6, 2) := by decide +kernel
theorem dX11_heedOf_128 : decode cX11_heedOf 128 = .ok (.aload_n 0, 1) := by decide +kernel
theorem dX11_heedOf_129 : decode cX11_heedOf 129 = .ok (.getfield 9, 3) := by decide +kernel
theorem dX11_heedOf_132 : decode cX11_heedOf 132 = .ok (.iload_n 2, 1) := by decide +kernel
theorem dX11_heedOf_133 : decode cX11_heedOf 133 = .ok (.iaload, 1) := by decide +kernel
theorem dX11_heedOf_134 : decode cX11_heedOf 134 = .ok (.aload_n 0, 1) := by decide +kernel
theorem dX11_heedOf_135 : decode cX11_heedOf 135 = .ok (.getfield 25, 3) := by decide +kernel
theorem dX11_heedOf_138 : decode cX11_heedOf 138 = .ok (.iload_n 1, 1) := by decide +kernel
theorem dX11_heedOf_139 : decode cX11_heedOf 139 = .ok (.iaload, 1) := by decide +kernel
theorem dX11_heedOf_140 : decode cX11_heedOf 140 = .ok (.if_icmp .ne 7, 3) := by decide +kernel
theorem dX11_heedOf_143 : decode cX11_heedOf 143 = .ok (.iconst 1, 1) := by decide +kernel
theorem dX11_heedOf_144 : decode cX11_heedOf 144 = .ok (.goto 4, 3) := by decide +kernel
theorem dX11_heedOf_147 : decode cX11_heedOf 147 = .ok (.iconst 0, 1) := by decide +kernel
theorem dX11_heedOf_148 : decode cX11_heedOf 148 = .ok (.iastore, 1) := by decide +kernel
theorem dX11_heedOf_149 : decode cX11_heedOf 149 = .ok (.aload_n 0, 1) := by decide +kernel
theorem dX11_heedOf_150 : decode cX11_heedOf 150 = .ok (.getfield 37, 3) := by decide +kernel
theorem dX11_heedOf_153 : decode cX11_heedOf 153 = .ok (.bipush 7, 2) := by decide +kernel
theorem dX11_heedOf_155 : decode cX11_heedOf 155 = .ok (.iload_n 3, 1) := by decide +kernel
theorem dX11_heedOf_156 : decode cX11_heedOf 156 = .ok (.iastore, 1) := by decide +kernel
theorem dX11_heedOf_157 : decode cX11_heedOf 157 = .ok (.aload_n 0, 1) := by decide +kernel
theorem dX11_heedOf_158 : decode cX11_heedOf 158 = .ok (.bipush 120, 2) := by decide +kernel
theorem dX11_heedOf_160 : decode cX11_heedOf 160 = .ok (.iload_n 1, 1) := by decide +kernel
theorem dX11_heedOf_161 : decode cX11_heedOf 161 = .ok (.imul, 1) := by decide +kernel
theorem dX11_heedOf_162 : decode cX11_heedOf 162 = .ok (.aload_n 0, 1) := by decide +kernel
theorem dX11_heedOf_163 : decode cX11_heedOf 163 = .ok (.getfield 34, 3) := by decide +kernel
theorem dX11_heedOf_166 : decode cX11_heedOf 166 = .ok (.iload_n 1, 1) := by decide +kernel
theorem dX11_heedOf_167 : decode cX11_heedOf 167 = .ok (.iaload, 1) := by decide +kernel
theorem dX11_heedOf_168 : decode cX11_heedOf 168 = .ok (.invokevirtual 181, 3) := by decide +kernel
theorem dX11_heedOf_171 : decode cX11_heedOf 171 = .ok (.istore 4, 2) := by decide +kernel
theorem dX11_heedOf_173 : decode cX11_heedOf 173 = .ok (.iload 4, 2) := by decide +kernel
theorem dX11_heedOf_175 : decode cX11_heedOf 175 = .ok (.ifCond .ge 7, 3) := by decide +kernel
theorem dX11_heedOf_178 : decode cX11_heedOf 178 = .ok (.iconst 0, 1) := by decide +kernel
theorem dX11_heedOf_179 : decode cX11_heedOf 179 = .ok (.goto 17, 3) := by decide +kernel
theorem dX11_heedOf_182 : decode cX11_heedOf 182 = .ok (.iload 4, 2) := by decide +kernel
theorem dX11_heedOf_184 : decode cX11_heedOf 184 = .ok (.bipush 100, 2) := by decide +kernel
theorem dX11_heedOf_186 : decode cX11_heedOf 186 = .ok (.if_icmp .le 8, 3) := by decide +kernel
theorem dX11_heedOf_189 : decode cX11_heedOf 189 = .ok (.bipush 100, 2) := by decide +kernel
theorem dX11_heedOf_191 : decode cX11_heedOf 191 = .ok (.goto 5, 3) := by decide +kernel
theorem dX11_heedOf_194 : decode cX11_heedOf 194 = .ok (.iload 4, 2) := by decide +kernel
theorem dX11_heedOf_196 : decode cX11_heedOf 196 = .ok (.ireturn, 1) := by decide +kernel
theorem dX11_heed_0 : decode cX11_heed 0 = .ok (.aload_n 0, 1) := by decide +kernel
theorem dX11_heed_1 : decode cX11_heed 1 = .ok (.iload_n 1, 1) := by decide +kernel
theorem dX11_heed_2 : decode cX11_heed 2 = .ok (.invokevirtual 184, 3) := by decide +kernel
theorem dX11_heed_5 : decode cX11_heed 5 = .ok (.ifCond .eq 20, 3) := by decide +kernel
theorem dX11_heed_8 : decode cX11_heed 8 = .ok (.aload_n 0, 1) := by decide +kernel
theorem dX11_heed_9 : decode cX11_heed 9 = .ok (.iload_n 2, 1) := by decide +kernel
theorem dX11_heed_10 : decode cX11_heed 10 = .ok (.invokevirtual 114, 3) := by decide +kernel
theorem dX11_heed_13 : decode cX11_heed 13 = .ok (.ifCond .eq 12, 3) := by decide +kernel
theorem dX11_heed_16 : decode cX11_heed 16 = .ok (.aload_n 0, 1) := by decide +kernel
theorem dX11_heed_17 : decode cX11_heed 17 = .ok (.iload_n 1, 1) := by decide +kernel
theorem dX11_heed_18 : decode cX11_heed 18 = .ok (.iload_n 2, 1) := by decide +kernel
theorem dX11_heed_19 : decode cX11_heed 19 = .ok (.invokevirtual 187, 3) := by decide +kernel
theorem dX11_heed_22 : decode cX11_heed 22 = .ok (.goto 4, 3) := by decide +kernel
theorem dX11_heed_25 : decode cX11_heed 25 = .ok (.iconst (-1), 1) := by decide +kernel
theorem dX11_heed_26 : decode cX11_heed 26 = .ok (.ireturn, 1) := by decide +kernel
theorem dX11_isPaper_0 : decode cX11_isPaper 0 = .ok (.iload_n 1, 1) := by decide +kernel
theorem dX11_isPaper_1 : decode cX11_isPaper 1 = .ok (.i2l, 1) := by decide +kernel
theorem dX11_isPaper_2 : decode cX11_isPaper 2 = .ok (.lconst 0, 1) := by decide +kernel
theorem dX11_isPaper_3 : decode cX11_isPaper 3 = .ok (.aload_n 0, 1) := by decide +kernel
theorem dX11_isPaper_4 : decode cX11_isPaper 4 = .ok (.getfield 190, 3) := by decide +kernel
theorem dX11_isPaper_7 : decode cX11_isPaper 7 = .ok (.iconst 1, 1) := by decide +kernel
theorem dX11_isPaper_8 : decode cX11_isPaper 8 = .ok (.isub, 1) := by decide +kernel
theorem dX11_isPaper_9 : decode cX11_isPaper 9 = .ok (.i2l, 1) := by decide +kernel
theorem dX11_isPaper_10 : decode cX11_isPaper 10 = .ok (.invokestatic 88, 3) := by decide +kernel
theorem dX11_isPaper_13 : decode cX11_isPaper 13 = .ok (.ireturn, 1) := by decide +kernel
theorem dX11_puts_0 : decode cX11_puts 0 = .ok (.bipush 16, 2) := by decide +kernel
theorem dX11_puts_2 : decode cX11_puts 2 = .ok (.iload_n 1, 1) := by decide +kernel
theorem dX11_puts_3 : decode cX11_puts 3 = .ok (.imul, 1) := by decide +kernel
theorem dX11_puts_4 : decode cX11_puts 4 = .ok (.iload_n 2, 1) := by decide +kernel
theorem dX11_puts_5 : decode cX11_puts 5 = .ok (.iadd, 1) := by decide +kernel
theorem dX11_puts_6 : decode cX11_puts 6 = .ok (.istore 7, 2) := by decide +kernel
theorem dX11_puts_8 : decode cX11_puts 8 = .ok (.aload_n 0, 1) := by decide +kernel
theorem dX11_puts_9 : decode cX11_puts 9 = .ok (.getfield 46, 3) := by decide +kernel
theorem dX11_puts_12 : decode cX11_puts 12 = .ok (.iload 7, 2) := by decide +kernel
theorem dX11_puts_14 : decode cX11_puts 14 = .ok (.iload_n 3, 1) := by decide +kernel
theorem dX11_puts_15 : decode cX11_puts 15 = .ok (.iastore, 1) := by decide +kernel
theorem dX11_puts_16 : decode cX11_puts 16 = .ok (.aload_n 0, 1) := by decide +kernel
theorem dX11_puts_17 : decode cX11_puts 17 = .ok (.getfield 49, 3) := by decide +kernel
theorem dX11_puts_20 : decode cX11_puts 20 = .ok (.iload 7, 2) := by decide +kernel
theorem dX11_puts_22 : decode cX11_puts 22 = .ok (.iload 4, 2) := by decide +kernel
theorem dX11_puts_24 : decode cX11_puts 24 = .ok (.iastore, 1) := by decide +kernel
theorem dX11_puts_25 : decode cX11_puts 25 = .ok (.aload_n 0, 1) := by decide +kernel
theorem dX11_puts_26 : decode cX11_puts 26 = .ok (.getfield 52, 3) := by decide +kernel
theorem dX11_puts_29 : decode cX11_puts 29 = .ok (.iload 7, 2) := by decide +kernel
theorem dX11_puts_31 : decode cX11_puts 31 = .ok (.iload 5, 2) := by decide +kernel
theorem dX11_puts_33 : decode cX11_puts 33 = .ok (.iastore, 1) := by decide +kernel
theorem dX11_puts_34 : decode cX11_puts 34 = .ok (.aload_n 0, 1) := by decide +kernel
theorem dX11_puts_35 : decode cX11_puts 35 = .ok (.getfield 55, 3) := by decide +kernel
theorem dX11_puts_38 : decode cX11_puts 38 = .ok (.iload 7, 2) := by decide +kernel
theorem dX11_puts_40 : decode cX11_puts 40 = .ok (.iload 6, 2) := by decide +kernel
theorem dX11_puts_42 : decode cX11_puts 42 = .ok (.bastore, 1) := by decide +kernel
theorem dX11_puts_43 : decode cX11_puts 43 = .ok (.return_, 1) := by decide +kernel
theorem dX11_moves_0 : decode cX11_moves 0 = .ok (.bipush 16, 2) := by decide +kernel
theorem dX11_moves_2 : decode cX11_moves 2 = .ok (.iload_n 1, 1) := by decide +kernel
theorem dX11_moves_3 : decode cX11_moves 3 = .ok (.imul, 1) := by decide +kernel
theorem dX11_moves_4 : decode cX11_moves 4 = .ok (.iload_n 3, 1) := by decide +kernel
theorem dX11_moves_5 : decode cX11_moves 5 = .ok (.iadd, 1) := by decide +kernel
theorem dX11_moves_6 : decode cX11_moves 6 = .ok (.istore 4, 2) := by decide +kernel
theorem dX11_moves_8 : decode cX11_moves 8 = .ok (.aload_n 0, 1) := by decide +kernel
theorem dX11_moves_9 : decode cX11_moves 9 = .ok (.iload_n 1, 1) := by decide +kernel
theorem dX11_moves_10 : decode cX11_moves 10 = .ok (.iload_n 2, 1) := by decide +kernel
theorem dX11_moves_11 : decode cX11_moves 11 = .ok (.aload_n 0, 1) := by decide +kernel
theorem dX11_moves_12 : decode cX11_moves 12 = .ok (.getfield 46, 3) := by decide +kernel
theorem dX11_moves_15 : decode cX11_moves 15 = .ok (.iload 4, 2) := by decide +kernel
theorem dX11_moves_17 : decode cX11_moves 17 = .ok (.iaload, 1) := by decide +kernel
theorem dX11_moves_18 : decode cX11_moves 18 = .ok (.aload_n 0, 1) := by decide +kernel
theorem dX11_moves_19 : decode cX11_moves 19 = .ok (.getfield 49, 3) := by decide +kernel
theorem dX11_moves_22 : decode cX11_moves 22 = .ok (.iload 4, 2) := by decide +kernel
theorem dX11_moves_24 : decode cX11_moves 24 = .ok (.iaload, 1) := by decide +kernel
theorem dX11_moves_25 : decode cX11_moves 25 = .ok (.aload_n 0, 1) := by decide +kernel
theorem dX11_moves_26 : decode cX11_moves 26 = .ok (.getfield 52, 3) := by decide +kernel
theorem dX11_moves_29 : decode cX11_moves 29 = .ok (.iload 4, 2) := by decide +kernel
theorem dX11_moves_31 : decode cX11_moves 31 = .ok (.iaload, 1) := by decide +kernel
theorem dX11_moves_32 : decode cX11_moves 32 = .ok (.aload_n 0, 1) := by decide +kernel
theorem dX11_moves_33 : decode cX11_moves 33 = .ok (.getfield 55, 3) := by decide +kernel
theorem dX11_moves_36 : decode cX11_moves 36 = .ok (.iload 4, 2) := by decide +kernel
theorem dX11_moves_38 : decode cX11_moves 38 = .ok (.baload, 1) := by decide +kernel
theorem dX11_moves_39 : decode cX11_moves 39 = .ok (.invokevirtual 193, 3) := by decide +kernel
theorem dX11_moves_42 : decode cX11_moves 42 = .ok (.return_, 1) := by decide +kernel
theorem dX11_fallsAway_0 : decode cX11_fallsAway 0 = .ok (.iload_n 2, 1) := by decide +kernel
theorem dX11_fallsAway_1 : decode cX11_fallsAway 1 = .ok (.iconst 1, 1) := by decide +kernel
theorem dX11_fallsAway_2 : decode cX11_fallsAway 2 = .ok (.iadd, 1) := by decide +kernel
theorem dX11_fallsAway_3 : decode cX11_fallsAway 3 = .ok (.istore_n 3, 1) := by decide +kernel
theorem dX11_fallsAway_4 : decode cX11_fallsAway 4 = .ok (.iload_n 3, 1) := by decide +kernel
theorem dX11_fallsAway_5 : decode cX11_fallsAway 5 = .ok (.aload_n 0, 1) := by decide +kernel
theorem dX11_fallsAway_6 : decode cX11_fallsAway 6 = .ok (.getfield 43, 3) := by decide +kernel
theorem dX11_fallsAway_9 : decode cX11_fallsAway 9 = .ok (.iload_n 1, 1) := by decide +kernel
theorem dX11_fallsAway_10 : decode cX11_fallsAway 10 = .ok (.iaload, 1) := by decide +kernel
theorem dX11_fallsAway_11 : decode cX11_fallsAway 11 = .ok (.if_icmp .ge 18, 3) := by decide +kernel
theorem dX11_fallsAway_14 : decode cX11_fallsAway 14 = .ok (.aload_n 0, 1) := by decide +kernel
theorem dX11_fallsAway_15 : decode cX11_fallsAway 15 = .ok (.iload_n 1, 1) := by decide +kernel
theorem dX11_fallsAway_16 : decode cX11_fallsAway 16 = .ok (.iload_n 3, 1) := by decide +kernel
theorem dX11_fallsAway_17 : decode cX11_fallsAway 17 = .ok (.iconst 1, 1) := by decide +kernel
theorem dX11_fallsAway_18 : decode cX11_fallsAway 18 = .ok (.isub, 1) := by decide +kernel
theorem dX11_fallsAway_19 : decode cX11_fallsAway 19 = .ok (.iload_n 3, 1) := by decide +kernel
theorem dX11_fallsAway_20 : decode cX11_fallsAway 20 = .ok (.invokevirtual 197, 3) := by decide +kernel
theorem dX11_fallsAway_23 : decode cX11_fallsAway 23 = .ok (.iinc 3 1, 3) := by decide +kernel
theorem dX11_fallsAway_26 : decode cX11_fallsAway 26 = .ok (.goto (-22), 3) := by decide +kernel
theorem dX11_fallsAway_29 : decode cX11_fallsAway 29 = .ok (.aload_n 0, 1) := by decide +kernel
theorem dX11_fallsAway_30 : decode cX11_fallsAway 30 = .ok (.getfield 43, 3) := by decide +kernel
theorem dX11_fallsAway_33 : decode cX11_fallsAway 33 = .ok (.iload_n 1, 1) := by decide +kernel
theorem dX11_fallsAway_34 : decode cX11_fallsAway 34 = .ok (.dup2, 1) := by decide +kernel
theorem dX11_fallsAway_35 : decode cX11_fallsAway 35 = .ok (.iaload, 1) := by decide +kernel
theorem dX11_fallsAway_36 : decode cX11_fallsAway 36 = .ok (.iconst 1, 1) := by decide +kernel
theorem dX11_fallsAway_37 : decode cX11_fallsAway 37 = .ok (.isub, 1) := by decide +kernel
theorem dX11_fallsAway_38 : decode cX11_fallsAway 38 = .ok (.iastore, 1) := by decide +kernel
theorem dX11_fallsAway_39 : decode cX11_fallsAway 39 = .ok (.return_, 1) := by decide +kernel
theorem dX11_joinsAll_0 : decode cX11_joinsAll 0 = .ok (.iconst 1, 1) := by decide +kernel
theorem dX11_joinsAll_1 : decode cX11_joinsAll 1 = .ok (.istore_n 2, 1) := by decide +kernel
theorem dX11_joinsAll_2 : decode cX11_joinsAll 2 = .ok (.iload_n 2, 1) := by decide +kernel
theorem dX11_joinsAll_3 : decode cX11_joinsAll 3 = .ok (.aload_n 0, 1) := by decide +kernel
theorem dX11_joinsAll_4 : decode cX11_joinsAll 4 = .ok (.getfield 43, 3) := by decide +kernel
theorem dX11_joinsAll_7 : decode cX11_joinsAll 7 = .ok (.iload_n 1, 1) := by decide +kernel
theorem dX11_joinsAll_8 : decode cX11_joinsAll 8 = .ok (.iaload, 1) := by decide +kernel
theorem dX11_joinsAll_9 : decode cX11_joinsAll 9 = .ok (.if_icmp .ge 110, 3) := by decide +kernel
theorem dX11_joinsAll_12 : decode cX11_joinsAll 12 = .ok (.aload_n 0, 1) := by decide +kernel
theorem dX11_joinsAll_13 : decode cX11_joinsAll 13 = .ok (.getfield 46, 3) := by decide +kernel
theorem dX11_joinsAll_16 : decode cX11_joinsAll 16 = .ok (.bipush 16, 2) := by decide +kernel
theorem dX11_joinsAll_18 : decode cX11_joinsAll 18 = .ok (.iload_n 1, 1) := by decide +kernel
theorem dX11_joinsAll_19 : decode cX11_joinsAll 19 = .ok (.imul, 1) := by decide +kernel
theorem dX11_joinsAll_20 : decode cX11_joinsAll 20 = .ok (.iload_n 2, 1) := by decide +kernel
theorem dX11_joinsAll_21 : decode cX11_joinsAll 21 = .ok (.iadd, 1) := by decide +kernel
theorem dX11_joinsAll_22 : decode cX11_joinsAll 22 = .ok (.iconst 1, 1) := by decide +kernel
theorem dX11_joinsAll_23 : decode cX11_joinsAll 23 = .ok (.isub, 1) := by decide +kernel
theorem dX11_joinsAll_24 : decode cX11_joinsAll 24 = .ok (.iaload, 1) := by decide +kernel
theorem dX11_joinsAll_25 : decode cX11_joinsAll 25 = .ok (.istore_n 3, 1) := by decide +kernel
theorem dX11_joinsAll_26 : decode cX11_joinsAll 26 = .ok (.aload_n 0, 1) := by decide +kernel
theorem dX11_joinsAll_27 : decode cX11_joinsAll 27 = .ok (.getfield 46, 3) := by decide +kernel
theorem dX11_joinsAll_30 : decode cX11_joinsAll 30 = .ok (.bipush 16, 2) := by decide +kernel
theorem dX11_joinsAll_32 : decode cX11_joinsAll 32 = .ok (.iload_n 1, 1) := by decide +kernel
theorem dX11_joinsAll_33 : decode cX11_joinsAll 33 = .ok (.imul, 1) := by decide +kernel
theorem dX11_joinsAll_34 : decode cX11_joinsAll 34 = .ok (.iload_n 2, 1) := by decide +kernel
theorem dX11_joinsAll_35 : decode cX11_joinsAll 35 = .ok (.iadd, 1) := by decide +kernel
theorem dX11_joinsAll_36 : decode cX11_joinsAll 36 = .ok (.iaload, 1) := by decide +kernel
theorem dX11_joinsAll_37 : decode cX11_joinsAll 37 = .ok (.istore 4, 2) := by decide +kernel
theorem dX11_joinsAll_39 : decode cX11_joinsAll 39 = .ok (.aload_n 0, 1) := by decide +kernel
theorem dX11_joinsAll_40 : decode cX11_joinsAll 40 = .ok (.getfield 9, 3) := by decide +kernel
theorem dX11_joinsAll_43 : decode cX11_joinsAll 43 = .ok (.iload_n 3, 1) := by decide +kernel
theorem dX11_joinsAll_44 : decode cX11_joinsAll 44 = .ok (.iaload, 1) := by decide +kernel
theorem dX11_joinsAll_45 : decode cX11_joinsAll 45 = .ok (.aload_n 0, 1) := by decide +kernel
theorem dX11_joinsAll_46 : decode cX11_joinsAll 46 = .ok (.getfield 9, 3) := by decide +kernel
theorem dX11_joinsAll_49 : decode cX11_joinsAll 49 = .ok (.iload 4, 2) := by decide +kernel
theorem dX11_joinsAll_51 : decode cX11_joinsAll 51 = .ok (.iaload, 1) := by decide +kernel
theorem dX11_joinsAll_52 : decode cX11_joinsAll 52 = .ok (.if_icmp .ne 61, 3) := by decide +kernel
theorem dX11_joinsAll_55 : decode cX11_joinsAll 55 = .ok (.aload_n 0, 1) := by decide +kernel
theorem dX11_joinsAll_56 : decode cX11_joinsAll 56 = .ok (.getfield 9, 3) := by decide +kernel
theorem dX11_joinsAll_59 : decode cX11_joinsAll 59 = .ok (.bipush 32, 2) := by decide +kernel
theorem dX11_joinsAll_61 : decode cX11_joinsAll 61 = .ok (.iload_n 3, 1) := by decide +kernel
theorem dX11_joinsAll_62 : decode cX11_joinsAll 62 = .ok (.iadd, 1) := by decide +kernel
theorem dX11_joinsAll_63 : decode cX11_joinsAll 63 = .ok (.iaload, 1) := by decide +kernel
theorem dX11_joinsAll_64 : decode cX11_joinsAll 64 = .ok (.aload_n 0, 1) := by decide +kernel
theorem dX11_joinsAll_65 : decode cX11_joinsAll 65 = .ok (.getfield 9, 3) := by decide +kernel
theorem dX11_joinsAll_68 : decode cX11_joinsAll 68 = .ok (.bipush 32, 2) := by decide +kernel
theorem dX11_joinsAll_70 : decode cX11_joinsAll 70 = .ok (.iload 4, 2) := by decide +kernel
theorem dX11_joinsAll_72 : decode cX11_joinsAll 72 = .ok (.iadd, 1) := by decide +kernel
theorem dX11_joinsAll_73 : decode cX11_joinsAll 73 = .ok (.iaload, 1) := by decide +kernel
theorem dX11_joinsAll_74 : decode cX11_joinsAll 74 = .ok (.if_icmp .ne 39, 3) := by decide +kernel
theorem dX11_joinsAll_77 : decode cX11_joinsAll 77 = .ok (.aload_n 0, 1) := by decide +kernel
theorem dX11_joinsAll_78 : decode cX11_joinsAll 78 = .ok (.getfield 52, 3) := by decide +kernel
theorem dX11_joinsAll_81 : decode cX11_joinsAll 81 = .ok (.bipush 16, 2) := by decide +kernel
theorem dX11_joinsAll_83 : decode cX11_joinsAll 83 = .ok (.iload_n 1, 1) := by decide +kernel
theorem dX11_joinsAll_84 : decode cX11_joinsAll 84 = .ok (.imul, 1) := by decide +kernel
theorem dX11_joinsAll_85 : decode cX11_joinsAll 85 = .ok (.iload_n 2, 1) := by decide +kernel
theorem dX11_joinsAll_86 : decode cX11_joinsAll 86 = .ok (.iadd, 1) := by decide +kernel
theorem dX11_joinsAll_87 : decode cX11_joinsAll 87 = .ok (.iconst 1, 1) := by decide +kernel
theorem dX11_joinsAll_88 : decode cX11_joinsAll 88 = .ok (.isub, 1) := by decide +kernel
theorem dX11_joinsAll_89 : decode cX11_joinsAll 89 = .ok (.dup2, 1) := by decide +kernel
theorem dX11_joinsAll_90 : decode cX11_joinsAll 90 = .ok (.iaload, 1) := by decide +kernel
theorem dX11_joinsAll_91 : decode cX11_joinsAll 91 = .ok (.aload_n 0, 1) := by decide +kernel
theorem dX11_joinsAll_92 : decode cX11_joinsAll 92 = .ok (.getfield 52, 3) := by decide +kernel
theorem dX11_joinsAll_95 : decode cX11_joinsAll 95 = .ok (.bipush 16, 2) := by decide +kernel
theorem dX11_joinsAll_97 : decode cX11_joinsAll 97 = .ok (.iload_n 1, 1) := by decide +kernel
theorem dX11_joinsAll_98 : decode cX11_joinsAll 98 = .ok (.imul, 1) := by decide +kernel
theorem dX11_joinsAll_99 : decode cX11_joinsAll 99 = .ok (.iload_n 2, 1) := by decide +kernel
theorem dX11_joinsAll_100 : decode cX11_joinsAll 100 = .ok (.iadd, 1) := by decide +kernel
theorem dX11_joinsAll_101 : decode cX11_joinsAll 101 = .ok (.iaload, 1) := by decide +kernel
theorem dX11_joinsAll_102 : decode cX11_joinsAll 102 = .ok (.iadd, 1) := by decide +kernel
theorem dX11_joinsAll_103 : decode cX11_joinsAll 103 = .ok (.iastore, 1) := by decide +kernel
theorem dX11_joinsAll_104 : decode cX11_joinsAll 104 = .ok (.aload_n 0, 1) := by decide +kernel
theorem dX11_joinsAll_105 : decode cX11_joinsAll 105 = .ok (.iload_n 1, 1) := by decide +kernel
theorem dX11_joinsAll_106 : decode cX11_joinsAll 106 = .ok (.iload_n 2, 1) := by decide +kernel
theorem dX11_joinsAll_107 : decode cX11_joinsAll 107 = .ok (.invokevirtual 201, 3) := by decide +kernel
theorem dX11_joinsAll_110 : decode cX11_joinsAll 110 = .ok (.goto 6, 3) := by decide +kernel
theorem dX11_joinsAll_113 : decode cX11_joinsAll 113 = .ok (.iinc 2 1, 3) := by decide +kernel
theorem dX11_joinsAll_116 : decode cX11_joinsAll 116 = .ok (.goto (-114), 3) := by decide +kernel
theorem dX11_joinsAll_119 : decode cX11_joinsAll 119 = .ok (.return_, 1) := by decide +kernel
theorem dX11_softensAll_0 : decode cX11_softensAll 0 = .ok (.bipush 16, 2) := by decide +kernel
theorem dX11_softensAll_2 : decode cX11_softensAll 2 = .ok (.iload_n 1, 1) := by decide +kernel
theorem dX11_softensAll_3 : decode cX11_softensAll 3 = .ok (.imul, 1) := by decide +kernel
theorem dX11_softensAll_4 : decode cX11_softensAll 4 = .ok (.istore_n 2, 1) := by decide +kernel
theorem dX11_softensAll_5 : decode cX11_softensAll 5 = .ok (.iload_n 2, 1) := by decide +kernel
theorem dX11_softensAll_6 : decode cX11_softensAll 6 = .ok (.bipush 16, 2) := by decide +kernel
theorem dX11_softensAll_8 : decode cX11_softensAll 8 = .ok (.iload_n 1, 1) := by decide +kernel
theorem dX11_softensAll_9 : decode cX11_softensAll 9 = .ok (.imul, 1) := by decide +kernel
theorem dX11_softensAll_10 : decode cX11_softensAll 10 = .ok (.aload_n 0, 1) := by decide +kernel
theorem dX11_softensAll_11 : decode cX11_softensAll 11 = .ok (.getfield 43, 3) := by decide +kernel
theorem dX11_softensAll_14 : decode cX11_softensAll 14 = .ok (.iload_n 1, 1) := by decide +kernel
theorem dX11_softensAll_15 : decode cX11_softensAll 15 = .ok (.iaload, 1) := by decide +kernel
theorem dX11_softensAll_16 : decode cX11_softensAll 16 = .ok (.iadd, 1) := by decide +kernel
theorem dX11_softensAll_17 : decode cX11_softensAll 17 = .ok (.if_icmp .ge 35, 3) := by decide +kernel
theorem dX11_softensAll_20 : decode cX11_softensAll 20 = .ok (.aload_n 0, 1) := by decide +kernel
theorem dX11_softensAll_21 : decode cX11_softensAll 21 = .ok (.getfield 49, 3) := by decide +kernel
theorem dX11_softensAll_24 : decode cX11_softensAll 24 = .ok (.iload_n 2, 1) := by decide +kernel
theorem dX11_softensAll_25 : decode cX11_softensAll 25 = .ok (.aload_n 0, 1) := by decide +kernel
theorem dX11_softensAll_26 : decode cX11_softensAll 26 = .ok (.getfield 49, 3) := by decide +kernel
theorem dX11_softensAll_29 : decode cX11_softensAll 29 = .ok (.iload_n 2, 1) := by decide +kernel
theorem dX11_softensAll_30 : decode cX11_softensAll 30 = .ok (.iaload, 1) := by decide +kernel
theorem dX11_softensAll_31 : decode cX11_softensAll 31 = .ok (.iconst 2, 1) := by decide +kernel
theorem dX11_softensAll_32 : decode cX11_softensAll 32 = .ok (.if_icmp .ne 7, 3) := by decide +kernel
theorem dX11_softensAll_35 : decode cX11_softensAll 35 = .ok (.iconst 0, 1) := by decide +kernel
theorem dX11_softensAll_36 : decode cX11_softensAll 36 = .ok (.goto 9, 3) := by decide +kernel
theorem dX11_softensAll_39 : decode cX11_softensAll 39 = .ok (.aload_n 0, 1) := by decide +kernel
theorem dX11_softensAll_40 : decode cX11_softensAll 40 = .ok (.getfield 49, 3) := by decide +kernel
theorem dX11_softensAll_43 : decode cX11_softensAll 43 = .ok (.iload_n 2, 1) := by decide +kernel
theorem dX11_softensAll_44 : decode cX11_softensAll 44 = .ok (.iaload, 1) := by decide +kernel
theorem dX11_softensAll_45 : decode cX11_softensAll 45 = .ok (.iastore, 1) := by decide +kernel
theorem dX11_softensAll_46 : decode cX11_softensAll 46 = .ok (.iinc 2 1, 3) := by decide +kernel
theorem dX11_softensAll_49 : decode cX11_softensAll 49 = .ok (.goto (-44), 3) := by decide +kernel
theorem dX11_softensAll_52 : decode cX11_softensAll 52 = .ok (.return_, 1) := by decide +kernel
theorem dX11_putsLast_0 : decode cX11_putsLast 0 = .ok (.aload_n 0, 1) := by decide +kernel
theorem dX11_putsLast_1 : decode cX11_putsLast 1 = .ok (.getfield 43, 3) := by decide +kernel
theorem dX11_putsLast_4 : decode cX11_putsLast 4 = .ok (.iload_n 1, 1) := by decide +kernel
theorem dX11_putsLast_5 : decode cX11_putsLast 5 = .ok (.iaload, 1) := by decide +kernel
theorem dX11_putsLast_6 : decode cX11_putsLast 6 = .ok (.istore_n 2, 1) := by decide +kernel
theorem dX11_putsLast_7 : decode cX11_putsLast 7 = .ok (.iconst 0, 1) := by decide +kernel
theorem dX11_putsLast_8 : decode cX11_putsLast 8 = .ok (.istore_n 3, 1) := by decide +kernel
theorem dX11_putsLast_9 : decode cX11_putsLast 9 = .ok (.iconst 0, 1) := by decide +kernel
theorem dX11_putsLast_10 : decode cX11_putsLast 10 = .ok (.istore 4, 2) := by decide +kernel
theorem dX11_putsLast_12 : decode cX11_putsLast 12 = .ok (.iload 4, 2) := by decide +kernel
theorem dX11_putsLast_14 : decode cX11_putsLast 14 = .ok (.iload_n 2, 1) := by decide +kernel
theorem dX11_putsLast_15 : decode cX11_putsLast 15 = .ok (.if_icmp .ge 95, 3) := by decide +kernel
theorem dX11_putsLast_18 : decode cX11_putsLast 18 = .ok (.bipush 16, 2) := by decide +kernel
theorem dX11_putsLast_20 : decode cX11_putsLast 20 = .ok (.iload_n 1, 1) := by decide +kernel
theorem dX11_putsLast_21 : decode cX11_putsLast 21 = .ok (.imul, 1) := by decide +kernel
theorem dX11_putsLast_22 : decode cX11_putsLast 22 = .ok (.iload_n 3, 1) := by decide +kernel
theorem dX11_putsLast_23 : decode cX11_putsLast 23 = .ok (.iadd, 1) := by decide +kernel
theorem dX11_putsLast_24 : decode cX11_putsLast 24 = .ok (.istore 5, 2) := by decide +kernel
theorem dX11_putsLast_26 : decode cX11_putsLast 26 = .ok (.aload_n 0, 1) := by decide +kernel
theorem dX11_putsLast_27 : decode cX11_putsLast 27 = .ok (.getfield 49, 3) := by decide +kernel
theorem dX11_putsLast_30 : decode cX11_putsLast 30 = .ok (.iload 5, 2) := by decide +kernel
theorem dX11_putsLast_32 : decode cX11_putsLast 32 = .ok (.iaload, 1) := by decide +kernel
theorem dX11_putsLast_33 : decode cX11_putsLast 33 = .ok (.iconst 3, 1) := by decide +kernel
theorem dX11_putsLast_34 : decode cX11_putsLast 34 = .ok (.if_icmp .ne 67, 3) := by decide +kernel
theorem dX11_putsLast_37 : decode cX11_putsLast 37 = .ok (.aload_n 0, 1) := by decide +kernel
theorem dX11_putsLast_38 : decode cX11_putsLast 38 = .ok (.getfield 46, 3) := by decide +kernel
theorem dX11_putsLast_41 : decode cX11_putsLast 41 = .ok (.iload 5, 2) := by decide +kernel
theorem dX11_putsLast_43 : decode cX11_putsLast 43 = .ok (.iaload, 1) := by decide +kernel
theorem dX11_putsLast_44 : decode cX11_putsLast 44 = .ok (.istore 6, 2) := by decide +kernel
theorem dX11_putsLast_46 : decode cX11_putsLast 46 = .ok (.aload_n 0, 1) := by decide +kernel
theorem dX11_putsLast_47 : decode cX11_putsLast 47 = .ok (.getfield 52, 3) := by decide +kernel
theorem dX11_putsLast_50 : decode cX11_putsLast 50 = .ok (.iload 5, 2) := by decide +kernel
theorem dX11_putsLast_52 : decode cX11_putsLast 52 = .ok (.iaload, 1) := by decide +kernel
theorem dX11_putsLast_53 : decode cX11_putsLast 53 = .ok (.istore 7, 2) := by decide +kernel
theorem dX11_putsLast_55 : decode cX11_putsLast 55 = .ok (.aload_n 0, 1) := by decide +kernel
theorem dX11_putsLast_56 : decode cX11_putsLast 56 = .ok (.getfield 55, 3) := by decide +kernel
theorem dX11_putsLast_59 : decode cX11_putsLast 59 = .ok (.iload 5, 2) := by decide +kernel
theorem dX11_putsLast_61 : decode cX11_putsLast 61 = .ok (.baload, 1) := by decide +kernel
theorem dX11_putsLast_62 : decode cX11_putsLast 62 = .ok (.istore 8, 2) := by decide +kernel
theorem dX11_putsLast_64 : decode cX11_putsLast 64 = .ok (.aload_n 0, 1) := by decide +kernel
theorem dX11_putsLast_65 : decode cX11_putsLast 65 = .ok (.iload_n 1, 1) := by decide +kernel
theorem dX11_putsLast_66 : decode cX11_putsLast 66 = .ok (.iload_n 3, 1) := by decide +kernel
theorem dX11_putsLast_67 : decode cX11_putsLast 67 = .ok (.invokevirtual 201, 3) := by decide +kernel
theorem dX11_putsLast_70 : decode cX11_putsLast 70 = .ok (.aload_n 0, 1) := by decide +kernel
theorem dX11_putsLast_71 : decode cX11_putsLast 71 = .ok (.iload_n 1, 1) := by decide +kernel
theorem dX11_putsLast_72 : decode cX11_putsLast 72 = .ok (.aload_n 0, 1) := by decide +kernel
theorem dX11_putsLast_73 : decode cX11_putsLast 73 = .ok (.getfield 43, 3) := by decide +kernel
theorem dX11_putsLast_76 : decode cX11_putsLast 76 = .ok (.iload_n 1, 1) := by decide +kernel
theorem dX11_putsLast_77 : decode cX11_putsLast 77 = .ok (.iaload, 1) := by decide +kernel
theorem dX11_putsLast_78 : decode cX11_putsLast 78 = .ok (.iload 6, 2) := by decide +kernel
theorem dX11_putsLast_80 : decode cX11_putsLast 80 = .ok (.iconst 3, 1) := by decide +kernel
theorem dX11_putsLast_81 : decode cX11_putsLast 81 = .ok (.iload 7, 2) := by decide +kernel
theorem dX11_putsLast_83 : decode cX11_putsLast 83 = .ok (.iload 8, 2) := by decide +kernel
theorem dX11_putsLast_85 : decode cX11_putsLast 85 = .ok (.invokevirtual 193, 3) := by decide +kernel
theorem dX11_putsLast_88 : decode cX11_putsLast 88 = .ok (.aload_n 0, 1) := by decide +kernel
theorem dX11_putsLast_89 : decode cX11_putsLast 89 = .ok (.getfield 43, 3) := by decide +kernel
theorem dX11_putsLast_92 : decode cX11_putsLast 92 = .ok (.iload_n 1, 1) := by decide +kernel
theorem dX11_putsLast_93 : decode cX11_putsLast 93 = .ok (.dup2, 1) := by decide +kernel
theorem dX11_putsLast_94 : decode cX11_putsLast 94 = .ok (.iaload, 1) := by decide +kernel
theorem dX11_putsLast_95 : decode cX11_putsLast 95 = .ok (.iconst 1, 1) := by decide +kernel
theorem dX11_putsLast_96 : decode cX11_putsLast 96 = .ok (.iadd, 1) := by decide +kernel
theorem dX11_putsLast_97 : decode cX11_putsLast 97 = .ok (.iastore, 1) := by decide +kernel
theorem dX11_putsLast_98 : decode cX11_putsLast 98 = .ok (.goto 6, 3) := by decide +kernel
theorem dX11_putsLast_101 : decode cX11_putsLast 101 = .ok (.iinc 3 1, 3) := by decide +kernel
theorem dX11_putsLast_104 : decode cX11_putsLast 104 = .ok (.iinc 4 1, 3) := by decide +kernel
theorem dX11_putsLast_107 : decode cX11_putsLast 107 = .ok (.goto (-95), 3) := by decide +kernel
theorem dX11_putsLast_110 : decode cX11_putsLast 110 = .ok (.return_, 1) := by decide +kernel
theorem dX11_take_0 : decode cX11_take 0 = .ok (.aload_n 0, 1) := by decide +kernel
theorem dX11_take_1 : decode cX11_take 1 = .ok (.iload_n 1, 1) := by decide +kernel
theorem dX11_take_2 : decode cX11_take 2 = .ok (.invokevirtual 184, 3) := by decide +kernel
theorem dX11_take_5 : decode cX11_take 5 = .ok (.ifCond .ne 5, 3) := by decide +kernel
theorem dX11_take_8 : decode cX11_take 8 = .ok (.iconst (-1), 1) := by decide +kernel
theorem dX11_take_9 : decode cX11_take 9 = .ok (.ireturn, 1) := by decide +kernel
theorem dX11_take_10 : decode cX11_take 10 = .ok (.aload_n 0, 1) := by decide +kernel
theorem dX11_take_11 : decode cX11_take 11 = .ok (.getfield 190, 3) := by decide +kernel
theorem dX11_take_14 : decode cX11_take 14 = .ok (.bipush 10, 2) := by decide +kernel
theorem dX11_take_16 : decode cX11_take 16 = .ok (.if_icmp .ne 6, 3) := by decide +kernel
theorem dX11_take_19 : decode cX11_take 19 = .ok (.bipush (-3), 2) := by decide +kernel
theorem dX11_take_21 : decode cX11_take 21 = .ok (.ireturn, 1) := by decide +kernel
theorem dX11_take_22 : decode cX11_take 22 = .ok (.aload_n 0, 1) := by decide +kernel
theorem dX11_take_23 : decode cX11_take 23 = .ok (.getfield 190, 3) := by decide +kernel
theorem dX11_take_26 : decode cX11_take 26 = .ok (.istore_n 3, 1) := by decide +kernel
theorem dX11_take_27 : decode cX11_take 27 = .ok (.aload_n 0, 1) := by decide +kernel
theorem dX11_take_28 : decode cX11_take 28 = .ok (.dup, 1) := by decide +kernel
theorem dX11_take_29 : decode cX11_take 29 = .ok (.getfield 190, 3) := by decide +kernel
theorem dX11_take_32 : decode cX11_take 32 = .ok (.iconst 1, 1) := by decide +kernel
theorem dX11_take_33 : decode cX11_take 33 = .ok (.iadd, 1) := by decide +kernel
theorem dX11_take_34 : decode cX11_take 34 = .ok (.putfield 190, 3) := by decide +kernel
theorem dX11_take_37 : decode cX11_take 37 = .ok (.aload_n 0, 1) := by decide +kernel
theorem dX11_take_38 : decode cX11_take 38 = .ok (.getfield 40, 3) := by decide +kernel
theorem dX11_take_41 : decode cX11_take 41 = .ok (.iload_n 3, 1) := by decide +kernel
theorem dX11_take_42 : decode cX11_take 42 = .ok (.iload_n 1, 1) := by decide +kernel
theorem dX11_take_43 : decode cX11_take 43 = .ok (.iastore, 1) := by decide +kernel
theorem dX11_take_44 : decode cX11_take 44 = .ok (.aload_n 0, 1) := by decide +kernel
theorem dX11_take_45 : decode cX11_take 45 = .ok (.getfield 43, 3) := by decide +kernel
theorem dX11_take_48 : decode cX11_take 48 = .ok (.iload_n 3, 1) := by decide +kernel
theorem dX11_take_49 : decode cX11_take 49 = .ok (.iconst 0, 1) := by decide +kernel
theorem dX11_take_50 : decode cX11_take 50 = .ok (.iastore, 1) := by decide +kernel
theorem dX11_take_51 : decode cX11_take 51 = .ok (.iload_n 2, 1) := by decide +kernel
theorem dX11_take_52 : decode cX11_take 52 = .ok (.istore 4, 2) := by decide +kernel
theorem dX11_take_54 : decode cX11_take 54 = .ok (.iconst 0, 1) := by decide +kernel
theorem dX11_take_55 : decode cX11_take 55 = .ok (.istore 5, 2) := by decide +kernel
theorem dX11_take_57 : decode cX11_take 57 = .ok (.iload 5, 2) := by decide +kernel
theorem dX11_take_59 : decode cX11_take 59 = .ok (.aload_n 0, 1) := by decide +kernel
theorem dX11_take_60 : decode cX11_take 60 = .ok (.getfield 85, 3) := by decide +kernel
theorem dX11_take_63 : decode cX11_take 63 = .ok (.if_icmp .ge 117, 3) := by decide +kernel
theorem dX11_take_66 : decode cX11_take 66 = .ok (.iload 4, 2) := by decide +kernel
theorem dX11_take_68 : decode cX11_take 68 = .ok (.ldc 205, 2) := by decide +kernel
theorem dX11_take_70 : decode cX11_take 70 = .ok (.imul, 1) := by decide +kernel
theorem dX11_take_71 : decode cX11_take 71 = .ok (.sipush 12345, 3) := by decide +kernel
theorem dX11_take_74 : decode cX11_take 74 = .ok (.iadd, 1) := by decide +kernel
theorem dX11_take_75 : decode cX11_take 75 = .ok (.istore 4, 2) := by decide +kernel
theorem dX11_take_77 : decode cX11_take 77 = .ok (.iload 4, 2) := by decide +kernel
theorem dX11_take_79 : decode cX11_take 79 = .ok (.bipush 8, 2) := by decide +kernel
theorem dX11_take_81 : decode cX11_take 81 = .ok (.iushr, 1) := by decide +kernel
theorem dX11_take_82 : decode cX11_take 82 = .ok (.bipush 100, 2) := by decide +kernel
theorem dX11_take_84 : decode cX11_take 84 = .ok (.irem, 1) := by decide +kernel
theorem dX11_take_85 : decode cX11_take 85 = .ok (.aload_n 0, 1) := by decide +kernel
theorem dX11_take_86 : decode cX11_take 86 = .ok (.iload_n 1, 1) := by decide +kernel
theorem dX11_take_87 : decode cX11_take 87 = .ok (.iload 5, 2) := by decide +kernel
theorem dX11_take_89 : decode cX11_take 89 = .ok (.invokevirtual 187, 3) := by decide +kernel
theorem dX11_take_92 : decode cX11_take 92 = .ok (.if_icmp .ge 82, 3) := by decide +kernel
theorem dX11_take_95 : decode cX11_take 95 = .ok (.aload_n 0, 1) := by decide +kernel
theorem dX11_take_96 : decode cX11_take 96 = .ok (.getfield 9, 3) := by decide +kernel
theorem dX11_take_99 : decode cX11_take 99 = .ok (.iload 5, 2) := by decide +kernel
theorem dX11_take_101 : decode cX11_take 101 = .ok (.iaload, 1) := by decide +kernel
theorem dX11_take_102 : decode cX11_take 102 = .ok (.aload_n 0, 1) := by decide +kernel
theorem dX11_take_103 : decode cX11_take 103 = .ok (.getfield 25, 3) := by decide +kernel
theorem dX11_take_106 : decode cX11_take 106 = .ok (.iload_n 1, 1) := by decide +kernel
theorem dX11_take_107 : decode cX11_take 107 = .ok (.iaload, 1) := by decide +kernel
theorem dX11_take_108 : decode cX11_take 108 = .ok (.if_icmp .ne 18, 3) := by decide +kernel
theorem dX11_take_111 : decode cX11_take 111 = .ok (.iconst 2, 1) := by decide +kernel
theorem dX11_take_112 : decode cX11_take 112 = .ok (.aload_n 0, 1) := by decide +kernel
theorem dX11_take_113 : decode cX11_take 113 = .ok (.getfield 9, 3) := by decide +kernel
theorem dX11_take_116 : decode cX11_take 116 = .ok (.bipush 48, 2) := by decide +kernel
theorem dX11_take_118 : decode cX11_take 118 = .ok (.iload 5, 2) := by decide +kernel
theorem dX11_take_120 : decode cX11_take 120 = .ok (.iadd, 1) := by decide +kernel
theorem dX11_take_121 : decode cX11_take 121 = .ok (.iaload, 1) := by decide +kernel
theorem dX11_take_122 : decode cX11_take 122 = .ok (.imul, 1) := by decide +kernel
theorem dX11_take_123 : decode cX11_take 123 = .ok (.goto 13, 3) := by decide +kernel
theorem dX11_take_126 : decode cX11_take 126 = .ok (.aload_n 0, 1) := by decide +kernel
theorem dX11_take_127 : decode cX11_take 127 = .ok (.getfield 9, 3) := by decide +kernel
theorem dX11_take_130 : decode cX11_take 130 = .ok (.bipush 48, 2) := by decide +kernel
theorem dX11_take_132 : decode cX11_take 132 = .ok (.iload 5, 2) := by decide +kernel
theorem dX11_take_134 : decode cX11_take 134 = .ok (.iadd, 1) := by decide +kernel
theorem dX11_take_135 : decode cX11_take 135 = .ok (.iaload, 1) := by decide +kernel
theorem dX11_take_136 : decode cX11_take 136 = .ok (.istore 6, 2) := by decide +kernel
theorem dX11_take_138 : decode cX11_take 138 = .ok (.aload_n 0, 1) := by decide +kernel
theorem dX11_take_139 : decode cX11_take 139 = .ok (.iload_n 3, 1) := by decide +kernel
theorem dX11_take_140 : decode cX11_take 140 = .ok (.aload_n 0, 1) := by decide +kernel
theorem dX11_take_141 : decode cX11_take 141 = .ok (.getfield 43, 3) := by decide +kernel
theorem dX11_take_144 : decode cX11_take 144 = .ok (.iload_n 3, 1) := by decide +kernel
theorem dX11_take_145 : decode cX11_take 145 = .ok (.iaload, 1) := by decide +kernel
theorem dX11_take_146 : decode cX11_take 146 = .ok (.iload 5, 2) := by decide +kernel
theorem dX11_take_148 : decode cX11_take 148 = .ok (.aload_n 0, 1) := by decide +kernel
theorem dX11_take_149 : decode cX11_take 149 = .ok (.getfield 9, 3) := by decide +kernel
theorem dX11_take_152 : decode cX11_take 152 = .ok (.bipush 16, 2) := by decide +kernel
theorem dX11_take_154 : decode cX11_take 154 = .ok (.iload 5, 2) := by decide +kernel
theorem dX11_take_156 : decode cX11_take 156 = .ok (.iadd, 1) := by decide +kernel
theorem dX11_take_157 : decode cX11_take 157 = .ok (.iaload, 1) := by decide +kernel
theorem dX11_take_158 : decode cX11_take 158 = .ok (.iload 6, 2) := by decide +kernel
theorem dX11_take_160 : decode cX11_take 160 = .ok (.iconst 0, 1) := by decide +kernel
theorem dX11_take_161 : decode cX11_take 161 = .ok (.invokevirtual 193, 3) := by decide +kernel
theorem dX11_take_164 : decode cX11_take 164 = .ok (.aload_n 0, 1) := by decide +kernel
theorem dX11_take_165 : decode cX11_take 165 = .ok (.getfield 43, 3) := by decide +kernel
theorem dX11_take_168 : decode cX11_take 168 = .ok (.iload_n 3, 1) := by decide +kernel
theorem dX11_take_169 : decode cX11_take 169 = .ok (.dup2, 1) := by decide +kernel
theorem dX11_take_170 : decode cX11_take 170 = .ok (.iaload, 1) := by decide +kernel
theorem dX11_take_171 : decode cX11_take 171 = .ok (.iconst 1, 1) := by decide +kernel
theorem dX11_take_172 : decode cX11_take 172 = .ok (.iadd, 1) := by decide +kernel
theorem dX11_take_173 : decode cX11_take 173 = .ok (.iastore, 1) := by decide +kernel
theorem dX11_take_174 : decode cX11_take 174 = .ok (.iinc 5 1, 3) := by decide +kernel
theorem dX11_take_177 : decode cX11_take 177 = .ok (.goto (-120), 3) := by decide +kernel
theorem dX11_take_180 : decode cX11_take 180 = .ok (.aload_n 0, 1) := by decide +kernel
theorem dX11_take_181 : decode cX11_take 181 = .ok (.getfield 28, 3) := by decide +kernel
theorem dX11_take_184 : decode cX11_take 184 = .ok (.iload_n 1, 1) := by decide +kernel
theorem dX11_take_185 : decode cX11_take 185 = .ok (.iaload, 1) := by decide +kernel
theorem dX11_take_186 : decode cX11_take 186 = .ok (.iconst 1, 1) := by decide +kernel
theorem dX11_take_187 : decode cX11_take 187 = .ok (.iand, 1) := by decide +kernel
theorem dX11_take_188 : decode cX11_take 188 = .ok (.ifCond .eq 8, 3) := by decide +kernel
theorem dX11_take_191 : decode cX11_take 191 = .ok (.aload_n 0, 1) := by decide +kernel
theorem dX11_take_192 : decode cX11_take 192 = .ok (.iload_n 3, 1) := by decide +kernel
theorem dX11_take_193 : decode cX11_take 193 = .ok (.invokevirtual 206, 3) := by decide +kernel
theorem dX11_take_196 : decode cX11_take 196 = .ok (.aload_n 0, 1) := by decide +kernel
theorem dX11_take_197 : decode cX11_take 197 = .ok (.getfield 28, 3) := by decide +kernel
theorem dX11_take_200 : decode cX11_take 200 = .ok (.iload_n 1, 1) := by decide +kernel
theorem dX11_take_201 : decode cX11_take 201 = .ok (.iaload, 1) := by decide +kernel
theorem dX11_take_202 : decode cX11_take 202 = .ok (.iconst 2, 1) := by decide +kernel
theorem dX11_take_203 : decode cX11_take 203 = .ok (.iand, 1) := by decide +kernel
theorem dX11_take_204 : decode cX11_take 204 = .ok (.ifCond .eq 8, 3) := by decide +kernel
theorem dX11_take_207 : decode cX11_take 207 = .ok (.aload_n 0, 1) := by decide +kernel
theorem dX11_take_208 : decode cX11_take 208 = .ok (.iload_n 3, 1) := by decide +kernel
theorem dX11_take_209 : decode cX11_take 209 = .ok (.invokevirtual 210, 3) := by decide +kernel
theorem dX11_take_212 : decode cX11_take 212 = .ok (.aload_n 0, 1) := by decide +kernel
theorem dX11_take_213 : decode cX11_take 213 = .ok (.getfield 28, 3) := by decide +kernel
theorem dX11_take_216 : decode cX11_take 216 = .ok (.iload_n 1, 1) := by decide +kernel
theorem dX11_take_217 : decode cX11_take 217 = .ok (.iaload, 1) := by decide +kernel
theorem dX11_take_218 : decode cX11_take 218 = .ok (.iconst 4, 1) := by decide +kernel
theorem dX11_take_219 : decode cX11_take 219 = .ok (.iand, 1) := by decide +kernel
theorem dX11_take_220 : decode cX11_take 220 = .ok (.ifCond .eq 8, 3) := by decide +kernel
theorem dX11_take_223 : decode cX11_take 223 = .ok (.aload_n 0, 1) := by decide +kernel
theorem dX11_take_224 : decode cX11_take 224 = .ok (.iload_n 3, 1) := by decide +kernel
theorem dX11_take_225 : decode cX11_take 225 = .ok (.invokevirtual 213, 3) := by decide +kernel
theorem dX11_take_228 : decode cX11_take 228 = .ok (.iload_n 3, 1) := by decide +kernel
theorem dX11_take_229 : decode cX11_take 229 = .ok (.ireturn, 1) := by decide +kernel
theorem dX11_told_0 : decode cX11_told 0 = .ok (.iload_n 1, 1) := by decide +kernel
theorem dX11_told_1 : decode cX11_told 1 = .ok (.iconst (-1), 1) := by decide +kernel
theorem dX11_told_2 : decode cX11_told 2 = .ok (.if_icmp .eq 11, 3) := by decide +kernel
theorem dX11_told_5 : decode cX11_told 5 = .ok (.aload_n 0, 1) := by decide +kernel
theorem dX11_told_6 : decode cX11_told 6 = .ok (.iload_n 1, 1) := by decide +kernel
theorem dX11_told_7 : decode cX11_told 7 = .ok (.invokevirtual 184, 3) := by decide +kernel
theorem dX11_told_10 : decode cX11_told 10 = .ok (.ifCond .eq 16, 3) := by decide +kernel
theorem dX11_told_13 : decode cX11_told 13 = .ok (.iload_n 2, 1) := by decide +kernel
theorem dX11_told_14 : decode cX11_told 14 = .ok (.ifCond .lt 12, 3) := by decide +kernel
theorem dX11_told_17 : decode cX11_told 17 = .ok (.iload_n 2, 1) := by decide +kernel
theorem dX11_told_18 : decode cX11_told 18 = .ok (.aload_n 0, 1) := by decide +kernel
theorem dX11_told_19 : decode cX11_told 19 = .ok (.getfield 85, 3) := by decide +kernel
theorem dX11_told_22 : decode cX11_told 22 = .ok (.ishr, 1) := by decide +kernel
theorem dX11_told_23 : decode cX11_told 23 = .ok (.ifCond .eq 5, 3) := by decide +kernel
theorem dX11_told_26 : decode cX11_told 26 = .ok (.iconst (-1), 1) := by decide +kernel
theorem dX11_told_27 : decode cX11_told 27 = .ok (.ireturn, 1) := by decide +kernel
theorem dX11_told_28 : decode cX11_told 28 = .ok (.aload_n 0, 1) := by decide +kernel
theorem dX11_told_29 : decode cX11_told 29 = .ok (.getfield 190, 3) := by decide +kernel
theorem dX11_told_32 : decode cX11_told 32 = .ok (.bipush 10, 2) := by decide +kernel
theorem dX11_told_34 : decode cX11_told 34 = .ok (.if_icmp .ne 6, 3) := by decide +kernel
theorem dX11_told_37 : decode cX11_told 37 = .ok (.bipush (-3), 2) := by decide +kernel
theorem dX11_told_39 : decode cX11_told 39 = .ok (.ireturn, 1) := by decide +kernel
theorem dX11_told_40 : decode cX11_told 40 = .ok (.aload_n 0, 1) := by decide +kernel
theorem dX11_told_41 : decode cX11_told 41 = .ok (.getfield 190, 3) := by decide +kernel
theorem dX11_told_44 : decode cX11_told 44 = .ok (.istore_n 3, 1) := by decide +kernel
theorem dX11_told_45 : decode cX11_told 45 = .ok (.aload_n 0, 1) := by decide +kernel
theorem dX11_told_46 : decode cX11_told 46 = .ok (.dup, 1) := by decide +kernel
theorem dX11_told_47 : decode cX11_told 47 = .ok (.getfield 190, 3) := by decide +kernel
theorem dX11_told_50 : decode cX11_told 50 = .ok (.iconst 1, 1) := by decide +kernel
theorem dX11_told_51 : decode cX11_told 51 = .ok (.iadd, 1) := by decide +kernel
theorem dX11_told_52 : decode cX11_told 52 = .ok (.putfield 190, 3) := by decide +kernel
theorem dX11_told_55 : decode cX11_told 55 = .ok (.aload_n 0, 1) := by decide +kernel
theorem dX11_told_56 : decode cX11_told 56 = .ok (.getfield 40, 3) := by decide +kernel
theorem dX11_told_59 : decode cX11_told 59 = .ok (.iload_n 3, 1) := by decide +kernel
theorem dX11_told_60 : decode cX11_told 60 = .ok (.iload_n 1, 1) := by decide +kernel
theorem dX11_told_61 : decode cX11_told 61 = .ok (.iastore, 1) := by decide +kernel
theorem dX11_told_62 : decode cX11_told 62 = .ok (.aload_n 0, 1) := by decide +kernel
theorem dX11_told_63 : decode cX11_told 63 = .ok (.getfield 43, 3) := by decide +kernel
theorem dX11_told_66 : decode cX11_told 66 = .ok (.iload_n 3, 1) := by decide +kernel
theorem dX11_told_67 : decode cX11_told 67 = .ok (.iconst 0, 1) := by decide +kernel
theorem dX11_told_68 : decode cX11_told 68 = .ok (.iastore, 1) := by decide +kernel
theorem dX11_told_69 : decode cX11_told 69 = .ok (.iconst 0, 1) := by decide +kernel
theorem dX11_told_70 : decode cX11_told 70 = .ok (.istore 4, 2) := by decide +kernel
theorem dX11_told_72 : decode cX11_told 72 = .ok (.iload 4, 2) := by decide +kernel
theorem dX11_told_74 : decode cX11_told 74 = .ok (.aload_n 0, 1) := by decide +kernel
theorem dX11_told_75 : decode cX11_told 75 = .ok (.getfield 85, 3) := by decide +kernel
theorem dX11_told_78 : decode cX11_told 78 = .ok (.if_icmp .ge 63, 3) := by decide +kernel
theorem dX11_told_81 : decode cX11_told 81 = .ok (.iload_n 2, 1) := by decide +kernel
theorem dX11_told_82 : decode cX11_told 82 = .ok (.iload 4, 2) := by decide +kernel
theorem dX11_told_84 : decode cX11_told 84 = .ok (.ishr, 1) := by decide +kernel
theorem dX11_told_85 : decode cX11_told 85 = .ok (.iconst 1, 1) := by decide +kernel
theorem dX11_told_86 : decode cX11_told 86 = .ok (.iand, 1) := by decide +kernel
theorem dX11_told_87 : decode cX11_told 87 = .ok (.iconst 1, 1) := by decide +kernel
theorem dX11_told_88 : decode cX11_told 88 = .ok (.if_icmp .ne 47, 3) := by decide +kernel
theorem dX11_told_91 : decode cX11_told 91 = .ok (.aload_n 0, 1) := by decide +kernel
theorem dX11_told_92 : decode cX11_told 92 = .ok (.iload_n 3, 1) := by decide +kernel
theorem dX11_told_93 : decode cX11_told 93 = .ok (.aload_n 0, 1) := by decide +kernel
theorem dX11_told_94 : decode cX11_told 94 = .ok (.getfield 43, 3) := by decide +kernel
theorem dX11_told_97 : decode cX11_told 97 = .ok (.iload_n 3, 1) := by decide +kernel
theorem dX11_told_98 : decode cX11_told 98 = .ok (.iaload, 1) := by decide +kernel
theorem dX11_told_99 : decode cX11_told 99 = .ok (.iload 4, 2) := by decide +kernel
theorem dX11_told_101 : decode cX11_told 101 = .ok (.aload_n 0, 1) := by decide +kernel
theorem dX11_told_102 : decode cX11_told 102 = .ok (.getfield 9, 3) := by decide +kernel
theorem dX11_told_105 : decode cX11_told 105 = .ok (.bipush 16, 2) := by decide +kernel
theorem dX11_told_107 : decode cX11_told 107 = .ok (.iload 4, 2) := by decide +kernel
theorem dX11_told_109 : decode cX11_told 109 = .ok (.iadd, 1) := by decide +kernel
theorem dX11_told_110 : decode cX11_told 110 = .ok (.iaload, 1) := by decide +kernel
theorem dX11_told_111 : decode cX11_told 111 = .ok (.aload_n 0, 1) := by decide +kernel
theorem dX11_told_112 : decode cX11_told 112 = .ok (.getfield 9, 3) := by decide +kernel
theorem dX11_told_115 : decode cX11_told 115 = .ok (.bipush 48, 2) := by decide +kernel
theorem dX11_told_117 : decode cX11_told 117 = .ok (.iload 4, 2) := by decide +kernel
theorem dX11_told_119 : decode cX11_told 119 = .ok (.iadd, 1) := by decide +kernel
theorem dX11_told_120 : decode cX11_told 120 = .ok (.iaload, 1) := by decide +kernel
theorem dX11_told_121 : decode cX11_told 121 = .ok (.iconst 0, 1) := by decide +kernel
theorem dX11_told_122 : decode cX11_told 122 = .ok (.invokevirtual 193, 3) := by decide +kernel
theorem dX11_told_125 : decode cX11_told 125 = .ok (.aload_n 0, 1) := by decide +kernel
theorem dX11_told_126 : decode cX11_told 126 = .ok (.getfield 43, 3) := by decide +kernel
theorem dX11_told_129 : decode cX11_told 129 = .ok (.iload_n 3, 1) := by decide +kernel
theorem dX11_told_130 : decode cX11_told 130 = .ok (.dup2, 1) := by decide +kernel
theorem dX11_told_131 : decode cX11_told 131 = .ok (.iaload, 1) := by decide +kernel
theorem dX11_told_132 : decode cX11_told 132 = .ok (.iconst 1, 1) := by decide +kernel
theorem dX11_told_133 : decode cX11_told 133 = .ok (.iadd, 1) := by decide +kernel
theorem dX11_told_134 : decode cX11_told 134 = .ok (.iastore, 1) := by decide +kernel
theorem dX11_told_135 : decode cX11_told 135 = .ok (.iinc 4 1, 3) := by decide +kernel
theorem dX11_told_138 : decode cX11_told 138 = .ok (.goto (-66), 3) := by decide +kernel
theorem dX11_told_141 : decode cX11_told 141 = .ok (.iload_n 3, 1) := by decide +kernel
theorem dX11_told_142 : decode cX11_told 142 = .ok (.ireturn, 1) := by decide +kernel
theorem dX11_placeOf_0 : decode cX11_placeOf 0 = .ok (.iconst 0, 1) := by decide +kernel
theorem dX11_placeOf_1 : decode cX11_placeOf 1 = .ok (.istore_n 3, 1) := by decide +kernel
theorem dX11_placeOf_2 : decode cX11_placeOf 2 = .ok (.iload_n 3, 1) := by decide +kernel
theorem dX11_placeOf_3 : decode cX11_placeOf 3 = .ok (.aload_n 0, 1) := by decide +kernel
theorem dX11_placeOf_4 : decode cX11_placeOf 4 = .ok (.getfield 43, 3) := by decide +kernel
theorem dX11_placeOf_7 : decode cX11_placeOf 7 = .ok (.iload_n 1, 1) := by decide +kernel
theorem dX11_placeOf_8 : decode cX11_placeOf 8 = .ok (.iaload, 1) := by decide +kernel
theorem dX11_placeOf_9 : decode cX11_placeOf 9 = .ok (.if_icmp .ge 26, 3) := by decide +kernel
theorem dX11_placeOf_12 : decode cX11_placeOf 12 = .ok (.aload_n 0, 1) := by decide +kernel
theorem dX11_placeOf_13 : decode cX11_placeOf 13 = .ok (.getfield 46, 3) := by decide +kernel
theorem dX11_placeOf_16 : decode cX11_placeOf 16 = .ok (.bipush 16, 2) := by decide +kernel
theorem dX11_placeOf_18 : decode cX11_placeOf 18 = .ok (.iload_n 1, 1) := by decide +kernel
theorem dX11_placeOf_19 : decode cX11_placeOf 19 = .ok (.imul, 1) := by decide +kernel
theorem dX11_placeOf_20 : decode cX11_placeOf 20 = .ok (.iload_n 3, 1) := by decide +kernel
theorem dX11_placeOf_21 : decode cX11_placeOf 21 = .ok (.iadd, 1) := by decide +kernel
theorem dX11_placeOf_22 : decode cX11_placeOf 22 = .ok (.iaload, 1) := by decide +kernel
theorem dX11_placeOf_23 : decode cX11_placeOf 23 = .ok (.iload_n 2, 1) := by decide +kernel
theorem dX11_placeOf_24 : decode cX11_placeOf 24 = .ok (.if_icmp .ne 5, 3) := by decide +kernel
theorem dX11_placeOf_27 : decode cX11_placeOf 27 = .ok (.iload_n 3, 1) := by decide +kernel
theorem dX11_placeOf_28 : decode cX11_placeOf 28 = .ok (.ireturn, 1) := by decide +kernel
theorem dX11_placeOf_29 : decode cX11_placeOf 29 = .ok (.iinc 3 1, 3) := by decide +kernel
theorem dX11_placeOf_32 : decode cX11_placeOf 32 = .ok (.goto (-30), 3) := by decide +kernel
theorem dX11_placeOf_35 : decode cX11_placeOf 35 = .ok (.iconst (-1), 1) := by decide +kernel
theorem dX11_placeOf_36 : decode cX11_placeOf 36 = .ok (.ireturn, 1) := by decide +kernel
theorem dX11_has_0 : decode cX11_has 0 = .ok (.aload_n 0, 1) := by decide +kernel
theorem dX11_has_1 : decode cX11_has 1 = .ok (.iload_n 1, 1) := by decide +kernel
theorem dX11_has_2 : decode cX11_has 2 = .ok (.iload_n 2, 1) := by decide +kernel
theorem dX11_has_3 : decode cX11_has 3 = .ok (.invokevirtual 216, 3) := by decide +kernel
theorem dX11_has_6 : decode cX11_has 6 = .ok (.ifCond .lt 7, 3) := by decide +kernel
theorem dX11_has_9 : decode cX11_has 9 = .ok (.iconst 1, 1) := by decide +kernel
theorem dX11_has_10 : decode cX11_has 10 = .ok (.goto 4, 3) := by decide +kernel
theorem dX11_has_13 : decode cX11_has 13 = .ok (.iconst 0, 1) := by decide +kernel
theorem dX11_has_14 : decode cX11_has 14 = .ok (.ireturn, 1) := by decide +kernel
theorem dX11_add_0 : decode cX11_add 0 = .ok (.aload_n 0, 1) := by decide +kernel
theorem dX11_add_1 : decode cX11_add 1 = .ok (.iload_n 1, 1) := by decide +kernel
theorem dX11_add_2 : decode cX11_add 2 = .ok (.invokevirtual 219, 3) := by decide +kernel
theorem dX11_add_5 : decode cX11_add 5 = .ok (.ifCond .eq 36, 3) := by decide +kernel
theorem dX11_add_8 : decode cX11_add 8 = .ok (.aload_n 0, 1) := by decide +kernel
theorem dX11_add_9 : decode cX11_add 9 = .ok (.iload_n 2, 1) := by decide +kernel
theorem dX11_add_10 : decode cX11_add 10 = .ok (.invokevirtual 114, 3) := by decide +kernel
theorem dX11_add_13 : decode cX11_add 13 = .ok (.ifCond .eq 28, 3) := by decide +kernel
theorem dX11_add_16 : decode cX11_add 16 = .ok (.iload_n 3, 1) := by decide +kernel
theorem dX11_add_17 : decode cX11_add 17 = .ok (.i2l, 1) := by decide +kernel
theorem dX11_add_18 : decode cX11_add 18 = .ok (.lconst 0, 1) := by decide +kernel
theorem dX11_add_19 : decode cX11_add 19 = .ok (.aload_n 0, 1) := by decide +kernel
theorem dX11_add_20 : decode cX11_add 20 = .ok (.getfield 43, 3) := by decide +kernel
theorem dX11_add_23 : decode cX11_add 23 = .ok (.iload_n 1, 1) := by decide +kernel
theorem dX11_add_24 : decode cX11_add 24 = .ok (.iaload, 1) := by decide +kernel
theorem dX11_add_25 : decode cX11_add 25 = .ok (.i2l, 1) := by decide +kernel
theorem dX11_add_26 : decode cX11_add 26 = .ok (.invokestatic 88, 3) := by decide +kernel
theorem dX11_add_29 : decode cX11_add 29 = .ok (.ifCond .eq 12, 3) := by decide +kernel
theorem dX11_add_32 : decode cX11_add 32 = .ok (.aload_n 0, 1) := by decide +kernel
theorem dX11_add_33 : decode cX11_add 33 = .ok (.iload_n 1, 1) := by decide +kernel
theorem dX11_add_34 : decode cX11_add 34 = .ok (.iload_n 2, 1) := by decide +kernel
theorem dX11_add_35 : decode cX11_add 35 = .ok (.invokevirtual 222, 3) := by decide +kernel
theorem dX11_add_38 : decode cX11_add 38 = .ok (.ifCond .eq 5, 3) := by decide +kernel
theorem dX11_add_41 : decode cX11_add 41 = .ok (.iconst (-1), 1) := by decide +kernel
theorem dX11_add_42 : decode cX11_add 42 = .ok (.ireturn, 1) := by decide +kernel
theorem dX11_add_43 : decode cX11_add 43 = .ok (.aload_n 0, 1) := by decide +kernel
theorem dX11_add_44 : decode cX11_add 44 = .ok (.getfield 43, 3) := by decide +kernel
theorem dX11_add_47 : decode cX11_add 47 = .ok (.iload_n 1, 1) := by decide +kernel
theorem dX11_add_48 : decode cX11_add 48 = .ok (.iaload, 1) := by decide +kernel
theorem dX11_add_49 : decode cX11_add 49 = .ok (.bipush 16, 2) := by decide +kernel
theorem dX11_add_51 : decode cX11_add 51 = .ok (.if_icmp .ne 6, 3) := by decide +kernel
theorem dX11_add_54 : decode cX11_add 54 = .ok (.bipush (-3), 2) := by decide +kernel
theorem dX11_add_56 : decode cX11_add 56 = .ok (.ireturn, 1) := by decide +kernel
theorem dX11_add_57 : decode cX11_add 57 = .ok (.aload_n 0, 1) := by decide +kernel
theorem dX11_add_58 : decode cX11_add 58 = .ok (.getfield 43, 3) := by decide +kernel
theorem dX11_add_61 : decode cX11_add 61 = .ok (.iload_n 1, 1) := by decide +kernel
theorem dX11_add_62 : decode cX11_add 62 = .ok (.iaload, 1) := by decide +kernel
theorem dX11_add_63 : decode cX11_add 63 = .ok (.istore 4, 2) := by decide +kernel
theorem dX11_add_65 : decode cX11_add 65 = .ok (.iload 4, 2) := by decide +kernel
theorem dX11_add_67 : decode cX11_add 67 = .ok (.iload_n 3, 1) := by decide +kernel
theorem dX11_add_68 : decode cX11_add 68 = .ok (.if_icmp .le 20, 3) := by decide +kernel
theorem dX11_add_71 : decode cX11_add 71 = .ok (.aload_n 0, 1) := by decide +kernel
theorem dX11_add_72 : decode cX11_add 72 = .ok (.iload_n 1, 1) := by decide +kernel
theorem dX11_add_73 : decode cX11_add 73 = .ok (.iload 4, 2) := by decide +kernel
theorem dX11_add_75 : decode cX11_add 75 = .ok (.iload 4, 2) := by decide +kernel
theorem dX11_add_77 : decode cX11_add 77 = .ok (.iconst 1, 1) := by decide +kernel
theorem dX11_add_78 : decode cX11_add 78 = .ok (.isub, 1) := by decide +kernel
theorem dX11_add_79 : decode cX11_add 79 = .ok (.invokevirtual 197, 3) := by decide +kernel
theorem dX11_add_82 : decode cX11_add 82 = .ok (.iinc 4 (-1), 3) := by decide +kernel
theorem dX11_add_85 : decode cX11_add 85 = .ok (.goto (-20), 3) := by decide +kernel
theorem dX11_add_88 : decode cX11_add 88 = .ok (.aload_n 0, 1) := by decide +kernel
theorem dX11_add_89 : decode cX11_add 89 = .ok (.iload_n 1, 1) := by decide +kernel
theorem dX11_add_90 : decode cX11_add 90 = .ok (.iload_n 3, 1) := by decide +kernel
theorem dX11_add_91 : decode cX11_add 91 = .ok (.iload_n 2, 1) := by decide +kernel
theorem dX11_add_92 : decode cX11_add 92 = .ok (.aload_n 0, 1) := by decide +kernel
theorem dX11_add_93 : decode cX11_add 93 = .ok (.getfield 9, 3) := by decide +kernel
theorem dX11_add_96 : decode cX11_add 96 = .ok (.bipush 16, 2) := by decide +kernel
theorem dX11_add_98 : decode cX11_add 98 = .ok (.iload_n 2, 1) := by decide +kernel
theorem dX11_add_99 : decode cX11_add 99 = .ok (.iadd, 1) := by decide +kernel
theorem dX11_add_100 : decode cX11_add 100 = .ok (.iaload, 1) := by decide +kernel
theorem dX11_add_101 : decode cX11_add 101 = .ok (.aload_n 0, 1) := by decide +kernel
theorem dX11_add_102 : decode cX11_add 102 = .ok (.getfield 9, 3) := by decide +kernel
theorem dX11_add_105 : decode cX11_add 105 = .ok (.bipush 48, 2) := by decide +kernel
theorem dX11_add_107 : decode cX11_add 107 = .ok (.iload_n 2, 1) := by decide +kernel
theorem dX11_add_108 : decode cX11_add 108 = .ok (.iadd, 1) := by decide +kernel
theorem dX11_add_109 : decode cX11_add 109 = .ok (.iaload, 1) := by decide +kernel
theorem dX11_add_110 : decode cX11_add 110 = .ok (.iconst 1, 1) := by decide +kernel
theorem dX11_add_111 : decode cX11_add 111 = .ok (.invokevirtual 193, 3) := by decide +kernel
theorem dX11_add_114 : decode cX11_add 114 = .ok (.aload_n 0, 1) := by decide +kernel
theorem dX11_add_115 : decode cX11_add 115 = .ok (.getfield 43, 3) := by decide +kernel
theorem dX11_add_118 : decode cX11_add 118 = .ok (.iload_n 1, 1) := by decide +kernel
theorem dX11_add_119 : decode cX11_add 119 = .ok (.dup2, 1) := by decide +kernel
theorem dX11_add_120 : decode cX11_add 120 = .ok (.iaload, 1) := by decide +kernel
theorem dX11_add_121 : decode cX11_add 121 = .ok (.iconst 1, 1) := by decide +kernel
theorem dX11_add_122 : decode cX11_add 122 = .ok (.iadd, 1) := by decide +kernel
theorem dX11_add_123 : decode cX11_add 123 = .ok (.iastore, 1) := by decide +kernel
theorem dX11_add_124 : decode cX11_add 124 = .ok (.aload_n 0, 1) := by decide +kernel
theorem dX11_add_125 : decode cX11_add 125 = .ok (.getfield 43, 3) := by decide +kernel
theorem dX11_add_128 : decode cX11_add 128 = .ok (.iload_n 1, 1) := by decide +kernel
theorem dX11_add_129 : decode cX11_add 129 = .ok (.iaload, 1) := by decide +kernel
theorem dX11_add_130 : decode cX11_add 130 = .ok (.ireturn, 1) := by decide +kernel
theorem dX11_strike_0 : decode cX11_strike 0 = .ok (.aload_n 0, 1) := by decide +kernel
theorem dX11_strike_1 : decode cX11_strike 1 = .ok (.iload_n 1, 1) := by decide +kernel
theorem dX11_strike_2 : decode cX11_strike 2 = .ok (.invokevirtual 219, 3) := by decide +kernel
theorem dX11_strike_5 : decode cX11_strike 5 = .ok (.ifCond .eq 21, 3) := by decide +kernel
theorem dX11_strike_8 : decode cX11_strike 8 = .ok (.iload_n 2, 1) := by decide +kernel
theorem dX11_strike_9 : decode cX11_strike 9 = .ok (.i2l, 1) := by decide +kernel
theorem dX11_strike_10 : decode cX11_strike 10 = .ok (.lconst 0, 1) := by decide +kernel
theorem dX11_strike_11 : decode cX11_strike 11 = .ok (.aload_n 0, 1) := by decide +kernel
theorem dX11_strike_12 : decode cX11_strike 12 = .ok (.getfield 43, 3) := by decide +kernel
theorem dX11_strike_15 : decode cX11_strike 15 = .ok (.iload_n 1, 1) := by decide +kernel
theorem dX11_strike_16 : decode cX11_strike 16 = .ok (.iaload, 1) := by decide +kernel
theorem dX11_strike_17 : decode cX11_strike 17 = .ok (.iconst 1, 1) := by decide +kernel
theorem dX11_strike_18 : decode cX11_strike 18 = .ok (.isub, 1) := by decide +kernel
theorem dX11_strike_19 : decode cX11_strike 19 = .ok (.i2l, 1) := by decide +kernel
theorem dX11_strike_20 : decode cX11_strike 20 = .ok (.invokestatic 88, 3) := by decide +kernel
theorem dX11_strike_23 : decode cX11_strike 23 = .ok (.ifCond .ne 5, 3) := by decide +kernel
theorem dX11_strike_26 : decode cX11_strike 26 = .ok (.iconst (-1), 1) := by decide +kernel
theorem dX11_strike_27 : decode cX11_strike 27 = .ok (.ireturn, 1) := by decide +kernel
theorem dX11_strike_28 : decode cX11_strike 28 = .ok (.aload_n 0, 1) := by decide +kernel
theorem dX11_strike_29 : decode cX11_strike 29 = .ok (.iload_n 1, 1) := by decide +kernel
theorem dX11_strike_30 : decode cX11_strike 30 = .ok (.iload_n 2, 1) := by decide +kernel
theorem dX11_strike_31 : decode cX11_strike 31 = .ok (.invokevirtual 201, 3) := by decide +kernel
theorem dX11_strike_34 : decode cX11_strike 34 = .ok (.aload_n 0, 1) := by decide +kernel
theorem dX11_strike_35 : decode cX11_strike 35 = .ok (.getfield 43, 3) := by decide +kernel
theorem dX11_strike_38 : decode cX11_strike 38 = .ok (.iload_n 1, 1) := by decide +kernel
theorem dX11_strike_39 : decode cX11_strike 39 = .ok (.iaload, 1) := by decide +kernel
theorem dX11_strike_40 : decode cX11_strike 40 = .ok (.ireturn, 1) := by decide +kernel
theorem dX11_read_0 : decode cX11_read 0 = .ok (.aload_n 0, 1) := by decide +kernel
theorem dX11_read_1 : decode cX11_read 1 = .ok (.iload_n 1, 1) := by decide +kernel
theorem dX11_read_2 : decode cX11_read 2 = .ok (.invokevirtual 219, 3) := by decide +kernel
theorem dX11_read_5 : decode cX11_read 5 = .ok (.ifCond .eq 15, 3) := by decide +kernel
theorem dX11_read_8 : decode cX11_read 8 = .ok (.iload_n 2, 1) := by decide +kernel
theorem dX11_read_9 : decode cX11_read 9 = .ok (.i2l, 1) := by decide +kernel
theorem dX11_read_10 : decode cX11_read 10 = .ok (.lconst 0, 1) := by decide +kernel
theorem dX11_read_11 : decode cX11_read 11 = .ok (.ldc2_w 92, 3) := by decide +kernel
theorem dX11_read_14 : decode cX11_read 14 = .ok (.invokestatic 88, 3) := by decide +kernel
theorem dX11_read_17 : decode cX11_read 17 = .ok (.ifCond .ne 5, 3) := by decide +kernel
theorem dX11_read_20 : decode cX11_read 20 = .ok (.iconst (-1), 1) := by decide +kernel
theorem dX11_read_21 : decode cX11_read 21 = .ok (.ireturn, 1) := by decide +kernel
theorem dX11_read_22 : decode cX11_read 22 = .ok (.iconst 0, 1) := by decide +kernel
theorem dX11_read_23 : decode cX11_read 23 = .ok (.istore_n 3, 1) := by decide +kernel
theorem dX11_read_24 : decode cX11_read 24 = .ok (.iconst 0, 1) := by decide +kernel
theorem dX11_read_25 : decode cX11_read 25 = .ok (.istore 4, 2) := by decide +kernel
theorem dX11_read_27 : decode cX11_read 27 = .ok (.iload 4, 2) := by decide +kernel
theorem dX11_read_29 : decode cX11_read 29 = .ok (.aload_n 0, 1) := by decide +kernel
theorem dX11_read_30 : decode cX11_read 30 = .ok (.getfield 43, 3) := by decide +kernel
theorem dX11_read_33 : decode cX11_read 33 = .ok (.iload_n 1, 1) := by decide +kernel
theorem dX11_read_34 : decode cX11_read 34 = .ok (.iaload, 1) := by decide +kernel
theorem dX11_read_35 : decode cX11_read 35 = .ok (.if_icmp .ge 134, 3) := by decide +kernel
theorem dX11_read_38 : decode cX11_read 38 = .ok (.bipush 16, 2) := by decide +kernel
theorem dX11_read_40 : decode cX11_read 40 = .ok (.iload_n 1, 1) := by decide +kernel
theorem dX11_read_41 : decode cX11_read 41 = .ok (.imul, 1) := by decide +kernel
theorem dX11_read_42 : decode cX11_read 42 = .ok (.iload 4, 2) := by decide +kernel
theorem dX11_read_44 : decode cX11_read 44 = .ok (.iadd, 1) := by decide +kernel
theorem dX11_read_45 : decode cX11_read 45 = .ok (.istore 5, 2) := by decide +kernel
theorem dX11_read_47 : decode cX11_read 47 = .ok (.aload_n 0, 1) := by decide +kernel
theorem dX11_read_48 : decode cX11_read 48 = .ok (.getfield 9, 3) := by decide +kernel
theorem dX11_read_51 : decode cX11_read 51 = .ok (.aload_n 0, 1) := by decide +kernel
theorem dX11_read_52 : decode cX11_read 52 = .ok (.getfield 46, 3) := by decide +kernel
theorem dX11_read_55 : decode cX11_read 55 = .ok (.iload 5, 2) := by decide +kernel
theorem dX11_read_57 : decode cX11_read 57 = .ok (.iaload, 1) := by decide +kernel
theorem dX11_read_58 : decode cX11_read 58 = .ok (.iaload, 1) := by decide +kernel
theorem dX11_read_59 : decode cX11_read 59 = .ok (.iload_n 2, 1) := by decide +kernel
theorem dX11_read_60 : decode cX11_read 60 = .ok (.if_icmp .ne 7, 3) := by decide +kernel
theorem dX11_read_63 : decode cX11_read 63 = .ok (.iconst 1, 1) := by decide +kernel
theorem dX11_read_64 : decode cX11_read 64 = .ok (.goto 4, 3) := by decide +kernel
theorem dX11_read_67 : decode cX11_read 67 = .ok (.iconst 0, 1) := by decide +kernel
theorem dX11_read_68 : decode cX11_read 68 = .ok (.istore 6, 2) := by decide +kernel
theorem dX11_read_70 : decode cX11_read 70 = .ok (.iload 6, 2) := by decide +kernel
theorem dX11_read_72 : decode cX11_read 72 = .ok (.ifCond .eq 27, 3) := by decide +kernel
theorem dX11_read_75 : decode cX11_read 75 = .ok (.aload_n 0, 1) := by decide +kernel
theorem dX11_read_76 : decode cX11_read 76 = .ok (.getfield 49, 3) := by decide +kernel
theorem dX11_read_79 : decode cX11_read 79 = .ok (.iload 5, 2) := by decide +kernel
theorem dX11_read_81 : decode cX11_read 81 = .ok (.iaload, 1) := by decide +kernel
theorem dX11_read_82 : decode cX11_read 82 = .ok (.iconst 2, 1) := by decide +kernel
theorem dX11_read_83 : decode cX11_read 83 = .ok (.if_icmp .ne 16, 3) := by decide +kernel
theorem dX11_read_86 : decode cX11_read 86 = .ok (.aload_n 0, 1) := by decide +kernel
theorem dX11_read_87 : decode cX11_read 87 = .ok (.iload_n 1, 1) := by decide +kernel
theorem dX11_read_88 : decode cX11_read 88 = .ok (.iload 4, 2) := by decide +kernel
theorem dX11_read_90 : decode cX11_read 90 = .ok (.invokevirtual 201, 3) := by decide +kernel
theorem dX11_read_93 : decode cX11_read 93 = .ok (.iinc 3 1, 3) := by decide +kernel
theorem dX11_read_96 : decode cX11_read 96 = .ok (.goto 70, 3) := by decide +kernel
theorem dX11_read_99 : decode cX11_read 99 = .ok (.aload_n 0, 1) := by decide +kernel
theorem dX11_read_100 : decode cX11_read 100 = .ok (.getfield 52, 3) := by decide +kernel
theorem dX11_read_103 : decode cX11_read 103 = .ok (.iload 5, 2) := by decide +kernel
theorem dX11_read_105 : decode cX11_read 105 = .ok (.iload 6, 2) := by decide +kernel
theorem dX11_read_107 : decode cX11_read 107 = .ok (.ifCond .eq 15, 3) := by decide +kernel
theorem dX11_read_110 : decode cX11_read 110 = .ok (.iconst 2, 1) := by decide +kernel
theorem dX11_read_111 : decode cX11_read 111 = .ok (.aload_n 0, 1) := by decide +kernel
theorem dX11_read_112 : decode cX11_read 112 = .ok (.getfield 52, 3) := by decide +kernel
theorem dX11_read_115 : decode cX11_read 115 = .ok (.iload 5, 2) := by decide +kernel
theorem dX11_read_117 : decode cX11_read 117 = .ok (.iaload, 1) := by decide +kernel
theorem dX11_read_118 : decode cX11_read 118 = .ok (.imul, 1) := by decide +kernel
theorem dX11_read_119 : decode cX11_read 119 = .ok (.goto 10, 3) := by decide +kernel
theorem dX11_read_122 : decode cX11_read 122 = .ok (.aload_n 0, 1) := by decide +kernel
theorem dX11_read_123 : decode cX11_read 123 = .ok (.getfield 52, 3) := by decide +kernel
theorem dX11_read_126 : decode cX11_read 126 = .ok (.iload 5, 2) := by decide +kernel
theorem dX11_read_128 : decode cX11_read 128 = .ok (.iaload, 1) := by decide +kernel
theorem dX11_read_129 : decode cX11_read 129 = .ok (.iastore, 1) := by decide +kernel
theorem dX11_read_130 : decode cX11_read 130 = .ok (.aload_n 0, 1) := by decide +kernel
theorem dX11_read_131 : decode cX11_read 131 = .ok (.getfield 52, 3) := by decide +kernel
theorem dX11_read_134 : decode cX11_read 134 = .ok (.iload 5, 2) := by decide +kernel
theorem dX11_read_136 : decode cX11_read 136 = .ok (.aload_n 0, 1) := by decide +kernel
theorem dX11_read_137 : decode cX11_read 137 = .ok (.getfield 52, 3) := by decide +kernel
theorem dX11_read_140 : decode cX11_read 140 = .ok (.iload 5, 2) := by decide +kernel
theorem dX11_read_142 : decode cX11_read 142 = .ok (.iaload, 1) := by decide +kernel
theorem dX11_read_143 : decode cX11_read 143 = .ok (.sipush 999, 3) := by decide +kernel
theorem dX11_read_146 : decode cX11_read 146 = .ok (.if_icmp .le 9, 3) := by decide +kernel
theorem dX11_read_149 : decode cX11_read 149 = .ok (.sipush 999, 3) := by decide +kernel
theorem dX11_read_152 : decode cX11_read 152 = .ok (.goto 10, 3) := by decide +kernel
theorem dX11_read_155 : decode cX11_read 155 = .ok (.aload_n 0, 1) := by decide +kernel
theorem dX11_read_156 : decode cX11_read 156 = .ok (.getfield 52, 3) := by decide +kernel
theorem dX11_read_159 : decode cX11_read 159 = .ok (.iload 5, 2) := by decide +kernel
theorem dX11_read_161 : decode cX11_read 161 = .ok (.iaload, 1) := by decide +kernel
theorem dX11_read_162 : decode cX11_read 162 = .ok (.iastore, 1) := by decide +kernel
theorem dX11_read_163 : decode cX11_read 163 = .ok (.iinc 4 1, 3) := by decide +kernel
theorem dX11_read_166 : decode cX11_read 166 = .ok (.goto (-139), 3) := by decide +kernel
theorem dX11_read_169 : decode cX11_read 169 = .ok (.iload_n 3, 1) := by decide +kernel
theorem dX11_read_170 : decode cX11_read 170 = .ok (.ireturn, 1) := by decide +kernel
theorem dX11_cut_0 : decode cX11_cut 0 = .ok (.aload_n 0, 1) := by decide +kernel
theorem dX11_cut_1 : decode cX11_cut 1 = .ok (.iload_n 1, 1) := by decide +kernel
theorem dX11_cut_2 : decode cX11_cut 2 = .ok (.invokevirtual 219, 3) := by decide +kernel
theorem dX11_cut_5 : decode cX11_cut 5 = .ok (.ifCond .eq 15, 3) := by decide +kernel
theorem dX11_cut_8 : decode cX11_cut 8 = .ok (.iload_n 2, 1) := by decide +kernel
theorem dX11_cut_9 : decode cX11_cut 9 = .ok (.i2l, 1) := by decide +kernel
theorem dX11_cut_10 : decode cX11_cut 10 = .ok (.lconst 0, 1) := by decide +kernel
theorem dX11_cut_11 : decode cX11_cut 11 = .ok (.ldc2_w 226, 3) := by decide +kernel
theorem dX11_cut_14 : decode cX11_cut 14 = .ok (.invokestatic 88, 3) := by decide +kernel
theorem dX11_cut_17 : decode cX11_cut 17 = .ok (.ifCond .ne 5, 3) := by decide +kernel
theorem dX11_cut_20 : decode cX11_cut 20 = .ok (.iconst (-1), 1) := by decide +kernel
theorem dX11_cut_21 : decode cX11_cut 21 = .ok (.ireturn, 1) := by decide +kernel
theorem dX11_cut_22 : decode cX11_cut 22 = .ok (.iconst 0, 1) := by decide +kernel
theorem dX11_cut_23 : decode cX11_cut 23 = .ok (.istore_n 3, 1) := by decide +kernel
theorem dX11_cut_24 : decode cX11_cut 24 = .ok (.aload_n 0, 1) := by decide +kernel
theorem dX11_cut_25 : decode cX11_cut 25 = .ok (.getfield 43, 3) := by decide +kernel
theorem dX11_cut_28 : decode cX11_cut 28 = .ok (.iload_n 1, 1) := by decide +kernel
theorem dX11_cut_29 : decode cX11_cut 29 = .ok (.iaload, 1) := by decide +kernel
theorem dX11_cut_30 : decode cX11_cut 30 = .ok (.iload_n 2, 1) := by decide +kernel
theorem dX11_cut_31 : decode cX11_cut 31 = .ok (.if_icmp .le 75, 3) := by decide +kernel
theorem dX11_cut_34 : decode cX11_cut 34 = .ok (.iconst 0, 1) := by decide +kernel
theorem dX11_cut_35 : decode cX11_cut 35 = .ok (.istore 4, 2) := by decide +kernel
theorem dX11_cut_37 : decode cX11_cut 37 = .ok (.iconst 1, 1) := by decide +kernel
theorem dX11_cut_38 : decode cX11_cut 38 = .ok (.istore 5, 2) := by decide +kernel
theorem dX11_cut_40 : decode cX11_cut 40 = .ok (.iload 5, 2) := by decide +kernel
theorem dX11_cut_42 : decode cX11_cut 42 = .ok (.aload_n 0, 1) := by decide +kernel
theorem dX11_cut_43 : decode cX11_cut 43 = .ok (.getfield 43, 3) := by decide +kernel
theorem dX11_cut_46 : decode cX11_cut 46 = .ok (.iload_n 1, 1) := by decide +kernel
theorem dX11_cut_47 : decode cX11_cut 47 = .ok (.iaload, 1) := by decide +kernel
theorem dX11_cut_48 : decode cX11_cut 48 = .ok (.if_icmp .ge 45, 3) := by decide +kernel
theorem dX11_cut_51 : decode cX11_cut 51 = .ok (.aload_n 0, 1) := by decide +kernel
theorem dX11_cut_52 : decode cX11_cut 52 = .ok (.getfield 52, 3) := by decide +kernel
theorem dX11_cut_55 : decode cX11_cut 55 = .ok (.bipush 16, 2) := by decide +kernel
theorem dX11_cut_57 : decode cX11_cut 57 = .ok (.iload_n 1, 1) := by decide +kernel
theorem dX11_cut_58 : decode cX11_cut 58 = .ok (.imul, 1) := by decide +kernel
theorem dX11_cut_59 : decode cX11_cut 59 = .ok (.iload 5, 2) := by decide +kernel
theorem dX11_cut_61 : decode cX11_cut 61 = .ok (.iadd, 1) := by decide +kernel
theorem dX11_cut_62 : decode cX11_cut 62 = .ok (.iaload, 1) := by decide +kernel
theorem dX11_cut_63 : decode cX11_cut 63 = .ok (.aload_n 0, 1) := by decide +kernel
theorem dX11_cut_64 : decode cX11_cut 64 = .ok (.getfield 52, 3) := by decide +kernel
theorem dX11_cut_67 : decode cX11_cut 67 = .ok (.bipush 16, 2) := by decide +kernel
theorem dX11_cut_69 : decode cX11_cut 69 = .ok (.iload_n 1, 1) := by decide +kernel
theorem dX11_cut_70 : decode cX11_cut 70 = .ok (.imul, 1) := by decide +kernel
theorem dX11_cut_71 : decode cX11_cut 71 = .ok (.iload 4, 2) := by decide +kernel
theorem dX11_cut_73 : decode cX11_cut 73 = .ok (.iadd, 1) := by decide +kernel
theorem dX11_cut_74 : decode cX11_cut 74 = .ok (.iaload, 1) := by decide +kernel
theorem dX11_cut_75 : decode cX11_cut 75 = .ok (.if_icmp .gt 8, 3) := by decide +kernel
theorem dX11_cut_78 : decode cX11_cut 78 = .ok (.iload 5, 2) := by decide +kernel
theorem dX11_cut_80 : decode cX11_cut 80 = .ok (.goto 5, 3) := by decide +kernel
theorem dX11_cut_83 : decode cX11_cut 83 = .ok (.iload 4, 2) := by decide +kernel
theorem dX11_cut_85 : decode cX11_cut 85 = .ok (.istore 4, 2) := by decide +kernel
theorem dX11_cut_87 : decode cX11_cut 87 = .ok (.iinc 5 1, 3) := by decide +kernel
theorem dX11_cut_90 : decode cX11_cut 90 = .ok (.goto (-50), 3) := by decide +kernel
theorem dX11_cut_93 : decode cX11_cut 93 = .ok (.aload_n 0, 1) := by decide +kernel
theorem dX11_cut_94 : decode cX11_cut 94 = .ok (.iload_n 1, 1) := by decide +kernel
theorem dX11_cut_95 : decode cX11_cut 95 = .ok (.iload 4, 2) := by decide +kernel
theorem dX11_cut_97 : decode cX11_cut 97 = .ok (.invokevirtual 201, 3) := by decide +kernel
theorem dX11_cut_100 : decode cX11_cut 100 = .ok (.iinc 3 1, 3) := by decide +kernel
theorem dX11_cut_103 : decode cX11_cut 103 = .ok (.goto (-79), 3) := by decide +kernel
theorem dX11_cut_106 : decode cX11_cut 106 = .ok (.iload_n 3, 1) := by decide +kernel
theorem dX11_cut_107 : decode cX11_cut 107 = .ok (.ireturn, 1) := by decide +kernel
theorem dX11_bitsOf_0 : decode cX11_bitsOf 0 = .ok (.iconst 0, 1) := by decide +kernel
theorem dX11_bitsOf_1 : decode cX11_bitsOf 1 = .ok (.istore_n 2, 1) := by decide +kernel
theorem dX11_bitsOf_2 : decode cX11_bitsOf 2 = .ok (.iconst 0, 1) := by decide +kernel
theorem dX11_bitsOf_3 : decode cX11_bitsOf 3 = .ok (.istore_n 3, 1) := by decide +kernel
theorem dX11_bitsOf_4 : decode cX11_bitsOf 4 = .ok (.iload_n 3, 1) := by decide +kernel
theorem dX11_bitsOf_5 : decode cX11_bitsOf 5 = .ok (.aload_n 0, 1) := by decide +kernel
theorem dX11_bitsOf_6 : decode cX11_bitsOf 6 = .ok (.getfield 43, 3) := by decide +kernel
theorem dX11_bitsOf_9 : decode cX11_bitsOf 9 = .ok (.iload_n 1, 1) := by decide +kernel
theorem dX11_bitsOf_10 : decode cX11_bitsOf 10 = .ok (.iaload, 1) := by decide +kernel
theorem dX11_bitsOf_11 : decode cX11_bitsOf 11 = .ok (.if_icmp .ge 25, 3) := by decide +kernel
theorem dX11_bitsOf_14 : decode cX11_bitsOf 14 = .ok (.iload_n 2, 1) := by decide +kernel
theorem dX11_bitsOf_15 : decode cX11_bitsOf 15 = .ok (.iconst 1, 1) := by decide +kernel
theorem dX11_bitsOf_16 : decode cX11_bitsOf 16 = .ok (.aload_n 0, 1) := by decide +kernel
theorem dX11_bitsOf_17 : decode cX11_bitsOf 17 = .ok (.getfield 46, 3) := by decide +kernel
theorem dX11_bitsOf_20 : decode cX11_bitsOf 20 = .ok (.bipush 16, 2) := by decide +kernel
theorem dX11_bitsOf_22 : decode cX11_bitsOf 22 = .ok (.iload_n 1, 1) := by decide +kernel
theorem dX11_bitsOf_23 : decode cX11_bitsOf 23 = .ok (.imul, 1) := by decide +kernel
theorem dX11_bitsOf_24 : decode cX11_bitsOf 24 = .ok (.iload_n 3, 1) := by decide +kernel
theorem dX11_bitsOf_25 : decode cX11_bitsOf 25 = .ok (.iadd, 1) := by decide +kernel
theorem dX11_bitsOf_26 : decode cX11_bitsOf 26 = .ok (.iaload, 1) := by decide +kernel
theorem dX11_bitsOf_27 : decode cX11_bitsOf 27 = .ok (.ishl, 1) := by decide +kernel
theorem dX11_bitsOf_28 : decode cX11_bitsOf 28 = .ok (.ior, 1) := by decide +kernel
theorem dX11_bitsOf_29 : decode cX11_bitsOf 29 = .ok (.istore_n 2, 1) := by decide +kernel
theorem dX11_bitsOf_30 : decode cX11_bitsOf 30 = .ok (.iinc 3 1, 3) := by decide +kernel
theorem dX11_bitsOf_33 : decode cX11_bitsOf 33 = .ok (.goto (-29), 3) := by decide +kernel
theorem dX11_bitsOf_36 : decode cX11_bitsOf 36 = .ok (.iload_n 2, 1) := by decide +kernel
theorem dX11_bitsOf_37 : decode cX11_bitsOf 37 = .ok (.ireturn, 1) := by decide +kernel
theorem dX11_allLong_0 : decode cX11_allLong 0 = .ok (.iconst 0, 1) := by decide +kernel
theorem dX11_allLong_1 : decode cX11_allLong 1 = .ok (.istore_n 2, 1) := by decide +kernel
theorem dX11_allLong_2 : decode cX11_allLong 2 = .ok (.iconst 0, 1) := by decide +kernel
theorem dX11_allLong_3 : decode cX11_allLong 3 = .ok (.istore_n 3, 1) := by decide +kernel
theorem dX11_allLong_4 : decode cX11_allLong 4 = .ok (.iload_n 3, 1) := by decide +kernel
theorem dX11_allLong_5 : decode cX11_allLong 5 = .ok (.aload_n 0, 1) := by decide +kernel
theorem dX11_allLong_6 : decode cX11_allLong 6 = .ok (.getfield 43, 3) := by decide +kernel
theorem dX11_allLong_9 : decode cX11_allLong 9 = .ok (.iload_n 1, 1) := by decide +kernel
theorem dX11_allLong_10 : decode cX11_allLong 10 = .ok (.iaload, 1) := by decide +kernel
theorem dX11_allLong_11 : decode cX11_allLong 11 = .ok (.if_icmp .ge 23, 3) := by decide +kernel
theorem dX11_allLong_14 : decode cX11_allLong 14 = .ok (.iload_n 2, 1) := by decide +kernel
theorem dX11_allLong_15 : decode cX11_allLong 15 = .ok (.aload_n 0, 1) := by decide +kernel
theorem dX11_allLong_16 : decode cX11_allLong 16 = .ok (.getfield 52, 3) := by decide +kernel
theorem dX11_allLong_19 : decode cX11_allLong 19 = .ok (.bipush 16, 2) := by decide +kernel
theorem dX11_allLong_21 : decode cX11_allLong 21 = .ok (.iload_n 1, 1) := by decide +kernel
theorem dX11_allLong_22 : decode cX11_allLong 22 = .ok (.imul, 1) := by decide +kernel
theorem dX11_allLong_23 : decode cX11_allLong 23 = .ok (.iload_n 3, 1) := by decide +kernel
theorem dX11_allLong_24 : decode cX11_allLong 24 = .ok (.iadd, 1) := by decide +kernel
theorem dX11_allLong_25 : decode cX11_allLong 25 = .ok (.iaload, 1) := by decide +kernel
theorem dX11_allLong_26 : decode cX11_allLong 26 = .ok (.iadd, 1) := by decide +kernel
theorem dX11_allLong_27 : decode cX11_allLong 27 = .ok (.istore_n 2, 1) := by decide +kernel
theorem dX11_allLong_28 : decode cX11_allLong 28 = .ok (.iinc 3 1, 3) := by decide +kernel
theorem dX11_allLong_31 : decode cX11_allLong 31 = .ok (.goto (-27), 3) := by decide +kernel
theorem dX11_allLong_34 : decode cX11_allLong 34 = .ok (.iload_n 2, 1) := by decide +kernel
theorem dX11_allLong_35 : decode cX11_allLong 35 = .ok (.ireturn, 1) := by decide +kernel
theorem dX11_page_0 : decode cX11_page 0 = .ok (.aload_n 0, 1) := by decide +kernel
theorem dX11_page_1 : decode cX11_page 1 = .ok (.iload_n 1, 1) := by decide +kernel
theorem dX11_page_2 : decode cX11_page 2 = .ok (.invokevirtual 219, 3) := by decide +kernel
theorem dX11_page_5 : decode cX11_page 5 = .ok (.ifCond .eq 7, 3) := by decide +kernel
theorem dX11_page_8 : decode cX11_page 8 = .ok (.iload_n 2, 1) := by decide +kernel
theorem dX11_page_9 : decode cX11_page 9 = .ok (.ifCond .ge 6, 3) := by decide +kernel
theorem dX11_page_12 : decode cX11_page 12 = .ok (.ldc 228, 2) := by decide +kernel
theorem dX11_page_14 : decode cX11_page 14 = .ok (.ireturn, 1) := by decide +kernel
theorem dX11_page_15 : decode cX11_page 15 = .ok (.iload_n 2, 1) := by decide +kernel
theorem dX11_page_16 : decode cX11_page 16 = .ok (.bipush 100, 2) := by decide +kernel
theorem dX11_page_18 : decode cX11_page 18 = .ok (.if_icmp .ge 59, 3) := by decide +kernel
theorem dX11_page_21 : decode cX11_page 21 = .ok (.iload_n 2, 1) := by decide +kernel
theorem dX11_page_22 : decode cX11_page 22 = .ok (.ifCond .ne 12, 3) := by decide +kernel
theorem dX11_page_25 : decode cX11_page 25 = .ok (.aload_n 0, 1) := by decide +kernel
theorem dX11_page_26 : decode cX11_page 26 = .ok (.getfield 43, 3) := by decide +kernel
theorem dX11_page_29 : decode cX11_page 29 = .ok (.iload_n 1, 1) := by decide +kernel
theorem dX11_page_30 : decode cX11_page 30 = .ok (.iaload, 1) := by decide +kernel
theorem dX11_page_31 : decode cX11_page 31 = .ok (.goto 45, 3) := by decide +kernel
theorem dX11_page_34 : decode cX11_page 34 = .ok (.iload_n 2, 1) := by decide +kernel
theorem dX11_page_35 : decode cX11_page 35 = .ok (.iconst 1, 1) := by decide +kernel
theorem dX11_page_36 : decode cX11_page 36 = .ok (.if_icmp .ne 12, 3) := by decide +kernel
theorem dX11_page_39 : decode cX11_page 39 = .ok (.aload_n 0, 1) := by decide +kernel
theorem dX11_page_40 : decode cX11_page 40 = .ok (.getfield 40, 3) := by decide +kernel
theorem dX11_page_43 : decode cX11_page 43 = .ok (.iload_n 1, 1) := by decide +kernel
theorem dX11_page_44 : decode cX11_page 44 = .ok (.iaload, 1) := by decide +kernel
theorem dX11_page_45 : decode cX11_page 45 = .ok (.goto 31, 3) := by decide +kernel
theorem dX11_page_48 : decode cX11_page 48 = .ok (.iload_n 2, 1) := by decide +kernel
theorem dX11_page_49 : decode cX11_page 49 = .ok (.iconst 2, 1) := by decide +kernel
theorem dX11_page_50 : decode cX11_page 50 = .ok (.if_icmp .ne 11, 3) := by decide +kernel
theorem dX11_page_53 : decode cX11_page 53 = .ok (.aload_n 0, 1) := by decide +kernel
theorem dX11_page_54 : decode cX11_page 54 = .ok (.iload_n 1, 1) := by decide +kernel
theorem dX11_page_55 : decode cX11_page 55 = .ok (.invokevirtual 229, 3) := by decide +kernel
theorem dX11_page_58 : decode cX11_page 58 = .ok (.goto 18, 3) := by decide +kernel
theorem dX11_page_61 : decode cX11_page 61 = .ok (.iload_n 2, 1) := by decide +kernel
theorem dX11_page_62 : decode cX11_page 62 = .ok (.iconst 3, 1) := by decide +kernel
theorem dX11_page_63 : decode cX11_page 63 = .ok (.if_icmp .ne 11, 3) := by decide +kernel
theorem dX11_page_66 : decode cX11_page 66 = .ok (.aload_n 0, 1) := by decide +kernel
theorem dX11_page_67 : decode cX11_page 67 = .ok (.iload_n 1, 1) := by decide +kernel
theorem dX11_page_68 : decode cX11_page 68 = .ok (.invokevirtual 232, 3) := by decide +kernel
theorem dX11_page_71 : decode cX11_page 71 = .ok (.goto 5, 3) := by decide +kernel
theorem dX11_page_74 : decode cX11_page 74 = .ok (.ldc 228, 2) := by decide +kernel
theorem dX11_page_76 : decode cX11_page 76 = .ok (.ireturn, 1) := by decide +kernel
theorem dX11_page_77 : decode cX11_page 77 = .ok (.iload_n 2, 1) := by decide +kernel
theorem dX11_page_78 : decode cX11_page 78 = .ok (.bipush 100, 2) := by decide +kernel
theorem dX11_page_80 : decode cX11_page 80 = .ok (.idiv, 1) := by decide +kernel
theorem dX11_page_81 : decode cX11_page 81 = .ok (.iconst 1, 1) := by decide +kernel
theorem dX11_page_82 : decode cX11_page 82 = .ok (.isub, 1) := by decide +kernel
theorem dX11_page_83 : decode cX11_page 83 = .ok (.istore_n 3, 1) := by decide +kernel
theorem dX11_page_84 : decode cX11_page 84 = .ok (.iload_n 3, 1) := by decide +kernel
theorem dX11_page_85 : decode cX11_page 85 = .ok (.aload_n 0, 1) := by decide +kernel
theorem dX11_page_86 : decode cX11_page 86 = .ok (.getfield 43, 3) := by decide +kernel
theorem dX11_page_89 : decode cX11_page 89 = .ok (.iload_n 1, 1) := by decide +kernel
theorem dX11_page_90 : decode cX11_page 90 = .ok (.iaload, 1) := by decide +kernel
theorem dX11_page_91 : decode cX11_page 91 = .ok (.if_icmp .ge 11, 3) := by decide +kernel
theorem dX11_page_94 : decode cX11_page 94 = .ok (.iload_n 2, 1) := by decide +kernel
theorem dX11_page_95 : decode cX11_page 95 = .ok (.bipush 100, 2) := by decide +kernel
theorem dX11_page_97 : decode cX11_page 97 = .ok (.irem, 1) := by decide +kernel
theorem dX11_page_98 : decode cX11_page 98 = .ok (.iconst 3, 1) := by decide +kernel
theorem dX11_page_99 : decode cX11_page 99 = .ok (.if_icmp .le 6, 3) := by decide +kernel
theorem dX11_page_102 : decode cX11_page 102 = .ok (.ldc 228, 2) := by decide +kernel
theorem dX11_page_104 : decode cX11_page 104 = .ok (.ireturn, 1) := by decide +kernel
theorem dX11_page_105 : decode cX11_page 105 = .ok (.bipush 16, 2) := by decide +kernel
theorem dX11_page_107 : decode cX11_page 107 = .ok (.iload_n 1, 1) := by decide +kernel
theorem dX11_page_108 : decode cX11_page 108 = .ok (.imul, 1) := by decide +kernel
theorem dX11_page_109 : decode cX11_page 109 = .ok (.iload_n 3, 1) := by decide +kernel
theorem dX11_page_110 : decode cX11_page 110 = .ok (.iadd, 1) := by decide +kernel
theorem dX11_page_111 : decode cX11_page 111 = .ok (.istore 4, 2) := by decide +kernel
theorem dX11_page_113 : decode cX11_page 113 = .ok (.iload_n 2, 1) := by decide +kernel
theorem dX11_page_114 : decode cX11_page 114 = .ok (.bipush 100, 2) := by decide +kernel
theorem dX11_page_116 : decode cX11_page 116 = .ok (.irem, 1) := by decide +kernel
theorem dX11_page_117 : decode cX11_page 117 = .ok (.ifCond .ne 13, 3) := by decide +kernel
theorem dX11_page_120 : decode cX11_page 120 = .ok (.aload_n 0, 1) := by decide +kernel
theorem dX11_page_121 : decode cX11_page 121 = .ok (.getfield 46, 3) := by decide +kernel
theorem dX11_page_124 : decode cX11_page 124 = .ok (.iload 4, 2) := by decide +kernel
theorem dX11_page_126 : decode cX11_page 126 = .ok (.iaload, 1) := by decide +kernel
theorem dX11_page_127 : decode cX11_page 127 = .ok (.goto 54, 3) := by decide +kernel
theorem dX11_page_130 : decode cX11_page 130 = .ok (.iload_n 2, 1) := by decide +kernel
theorem dX11_page_131 : decode cX11_page 131 = .ok (.bipush 100, 2) := by decide +kernel
theorem dX11_page_133 : decode cX11_page 133 = .ok (.irem, 1) := by decide +kernel
theorem dX11_page_134 : decode cX11_page 134 = .ok (.iconst 1, 1) := by decide +kernel
theorem dX11_page_135 : decode cX11_page 135 = .ok (.if_icmp .ne 13, 3) := by decide +kernel
theorem dX11_page_138 : decode cX11_page 138 = .ok (.aload_n 0, 1) := by decide +kernel
theorem dX11_page_139 : decode cX11_page 139 = .ok (.getfield 49, 3) := by decide +kernel
theorem dX11_page_142 : decode cX11_page 142 = .ok (.iload 4, 2) := by decide +kernel
theorem dX11_page_144 : decode cX11_page 144 = .ok (.iaload, 1) := by decide +kernel
theorem dX11_page_145 : decode cX11_page 145 = .ok (.goto 36, 3) := by decide +kernel
theorem dX11_page_148 : decode cX11_page 148 = .ok (.iload_n 2, 1) := by decide +kernel
theorem dX11_page_149 : decode cX11_page 149 = .ok (.bipush 100, 2) := by decide +kernel
theorem dX11_page_151 : decode cX11_page 151 = .ok (.irem, 1) := by decide +kernel
theorem dX11_page_152 : decode cX11_page 152 = .ok (.iconst 2, 1) := by decide +kernel
theorem dX11_page_153 : decode cX11_page 153 = .ok (.if_icmp .ne 13, 3) := by decide +kernel
theorem dX11_page_156 : decode cX11_page 156 = .ok (.aload_n 0, 1) := by decide +kernel
theorem dX11_page_157 : decode cX11_page 157 = .ok (.getfield 52, 3) := by decide +kernel
theorem dX11_page_160 : decode cX11_page 160 = .ok (.iload 4, 2) := by decide +kernel
theorem dX11_page_162 : decode cX11_page 162 = .ok (.iaload, 1) := by decide +kernel
theorem dX11_page_163 : decode cX11_page 163 = .ok (.goto 18, 3) := by decide +kernel
theorem dX11_page_166 : decode cX11_page 166 = .ok (.aload_n 0, 1) := by decide +kernel
theorem dX11_page_167 : decode cX11_page 167 = .ok (.getfield 55, 3) := by decide +kernel
theorem dX11_page_170 : decode cX11_page 170 = .ok (.iload 4, 2) := by decide +kernel
theorem dX11_page_172 : decode cX11_page 172 = .ok (.baload, 1) := by decide +kernel
theorem dX11_page_173 : decode cX11_page 173 = .ok (.ifCond .eq 7, 3) := by decide +kernel
theorem dX11_page_176 : decode cX11_page 176 = .ok (.iconst 1, 1) := by decide +kernel
theorem dX11_page_177 : decode cX11_page 177 = .ok (.goto 4, 3) := by decide +kernel
theorem dX11_page_180 : decode cX11_page 180 = .ok (.iconst 0, 1) := by decide +kernel
theorem dX11_page_181 : decode cX11_page 181 = .ok (.ireturn, 1) := by decide +kernel
theorem dX11_led_0 : decode cX11_led 0 = .ok (.aload_n 0, 1) := by decide +kernel
theorem dX11_led_1 : decode cX11_led 1 = .ok (.iload_n 1, 1) := by decide +kernel
theorem dX11_led_2 : decode cX11_led 2 = .ok (.invokevirtual 219, 3) := by decide +kernel
theorem dX11_led_5 : decode cX11_led 5 = .ok (.ifCond .eq 11, 3) := by decide +kernel
theorem dX11_led_8 : decode cX11_led 8 = .ok (.aload_n 0, 1) := by decide +kernel
theorem dX11_led_9 : decode cX11_led 9 = .ok (.iload_n 2, 1) := by decide +kernel
theorem dX11_led_10 : decode cX11_led 10 = .ok (.invokevirtual 114, 3) := by decide +kernel
theorem dX11_led_13 : decode cX11_led 13 = .ok (.ifCond .ne 5, 3) := by decide +kernel
theorem dX11_led_16 : decode cX11_led 16 = .ok (.iconst (-1), 1) := by decide +kernel
theorem dX11_led_17 : decode cX11_led 17 = .ok (.ireturn, 1) := by decide +kernel
theorem dX11_led_18 : decode cX11_led 18 = .ok (.aload_n 0, 1) := by decide +kernel
theorem dX11_led_19 : decode cX11_led 19 = .ok (.iload_n 1, 1) := by decide +kernel
theorem dX11_led_20 : decode cX11_led 20 = .ok (.iload_n 2, 1) := by decide +kernel
theorem dX11_led_21 : decode cX11_led 21 = .ok (.invokevirtual 222, 3) := by decide +kernel
theorem dX11_led_24 : decode cX11_led 24 = .ok (.ifCond .eq 12, 3) := by decide +kernel
theorem dX11_led_27 : decode cX11_led 27 = .ok (.aload_n 0, 1) := by decide +kernel
theorem dX11_led_28 : decode cX11_led 28 = .ok (.iload_n 1, 1) := by decide +kernel
theorem dX11_led_29 : decode cX11_led 29 = .ok (.iload_n 2, 1) := by decide +kernel
theorem dX11_led_30 : decode cX11_led 30 = .ok (.invokevirtual 216, 3) := by decide +kernel
theorem dX11_led_33 : decode cX11_led 33 = .ok (.goto 5, 3) := by decide +kernel
theorem dX11_led_36 : decode cX11_led 36 = .ok (.bipush (-2), 2) := by decide +kernel
theorem dX11_led_38 : decode cX11_led 38 = .ok (.ireturn, 1) := by decide +kernel
theorem dX11_hadBy_0 : decode cX11_hadBy 0 = .ok (.iconst 0, 1) := by decide +kernel
theorem dX11_hadBy_1 : decode cX11_hadBy 1 = .ok (.istore_n 2, 1) := by decide +kernel
theorem dX11_hadBy_2 : decode cX11_hadBy 2 = .ok (.iconst 0, 1) := by decide +kernel
theorem dX11_hadBy_3 : decode cX11_hadBy 3 = .ok (.istore_n 3, 1) := by decide +kernel
theorem dX11_hadBy_4 : decode cX11_hadBy 4 = .ok (.iload_n 3, 1) := by decide +kernel
theorem dX11_hadBy_5 : decode cX11_hadBy 5 = .ok (.aload_n 0, 1) := by decide +kernel
theorem dX11_hadBy_6 : decode cX11_hadBy 6 = .ok (.getfield 190, 3) := by decide +kernel
theorem dX11_hadBy_9 : decode cX11_hadBy 9 = .ok (.if_icmp .ge 26, 3) := by decide +kernel
theorem dX11_hadBy_12 : decode cX11_hadBy 12 = .ok (.iload_n 2, 1) := by decide +kernel
theorem dX11_hadBy_13 : decode cX11_hadBy 13 = .ok (.aload_n 0, 1) := by decide +kernel
theorem dX11_hadBy_14 : decode cX11_hadBy 14 = .ok (.iload_n 3, 1) := by decide +kernel
theorem dX11_hadBy_15 : decode cX11_hadBy 15 = .ok (.iload_n 1, 1) := by decide +kernel
theorem dX11_hadBy_16 : decode cX11_hadBy 16 = .ok (.invokevirtual 222, 3) := by decide +kernel
theorem dX11_hadBy_19 : decode cX11_hadBy 19 = .ok (.ifCond .eq 7, 3) := by decide +kernel
theorem dX11_hadBy_22 : decode cX11_hadBy 22 = .ok (.iconst 1, 1) := by decide +kernel
theorem dX11_hadBy_23 : decode cX11_hadBy 23 = .ok (.goto 4, 3) := by decide +kernel
theorem dX11_hadBy_26 : decode cX11_hadBy 26 = .ok (.iconst 0, 1) := by decide +kernel
theorem dX11_hadBy_27 : decode cX11_hadBy 27 = .ok (.iadd, 1) := by decide +kernel
theorem dX11_hadBy_28 : decode cX11_hadBy 28 = .ok (.istore_n 2, 1) := by decide +kernel
theorem dX11_hadBy_29 : decode cX11_hadBy 29 = .ok (.iinc 3 1, 3) := by decide +kernel
theorem dX11_hadBy_32 : decode cX11_hadBy 32 = .ok (.goto (-28), 3) := by decide +kernel
theorem dX11_hadBy_35 : decode cX11_hadBy 35 = .ok (.iload_n 2, 1) := by decide +kernel
theorem dX11_hadBy_36 : decode cX11_hadBy 36 = .ok (.ireturn, 1) := by decide +kernel
theorem dX11_sure_0 : decode cX11_sure 0 = .ok (.aload_n 0, 1) := by decide +kernel
theorem dX11_sure_1 : decode cX11_sure 1 = .ok (.iload_n 1, 1) := by decide +kernel
theorem dX11_sure_2 : decode cX11_sure 2 = .ok (.invokevirtual 114, 3) := by decide +kernel
theorem dX11_sure_5 : decode cX11_sure 5 = .ok (.ifCond .eq 13, 3) := by decide +kernel
theorem dX11_sure_8 : decode cX11_sure 8 = .ok (.iload_n 2, 1) := by decide +kernel
theorem dX11_sure_9 : decode cX11_sure 9 = .ok (.i2l, 1) := by decide +kernel
theorem dX11_sure_10 : decode cX11_sure 10 = .ok (.lconst 0, 1) := by decide +kernel
theorem dX11_sure_11 : decode cX11_sure 11 = .ok (.lconst 1, 1) := by decide +kernel
theorem dX11_sure_12 : decode cX11_sure 12 = .ok (.invokestatic 88, 3) := by decide +kernel
theorem dX11_sure_15 : decode cX11_sure 15 = .ok (.ifCond .ne 5, 3) := by decide +kernel
theorem dX11_sure_18 : decode cX11_sure 18 = .ok (.iconst (-1), 1) := by decide +kernel
theorem dX11_sure_19 : decode cX11_sure 19 = .ok (.ireturn, 1) := by decide +kernel
theorem dX11_sure_20 : decode cX11_sure 20 = .ok (.iconst 0, 1) := by decide +kernel
theorem dX11_sure_21 : decode cX11_sure 21 = .ok (.istore_n 3, 1) := by decide +kernel
theorem dX11_sure_22 : decode cX11_sure 22 = .ok (.iconst 0, 1) := by decide +kernel
theorem dX11_sure_23 : decode cX11_sure 23 = .ok (.istore 4, 2) := by decide +kernel
theorem dX11_sure_25 : decode cX11_sure 25 = .ok (.iload 4, 2) := by decide +kernel
theorem dX11_sure_27 : decode cX11_sure 27 = .ok (.aload_n 0, 1) := by decide +kernel
theorem dX11_sure_28 : decode cX11_sure 28 = .ok (.getfield 190, 3) := by decide +kernel
theorem dX11_sure_31 : decode cX11_sure 31 = .ok (.if_icmp .ge 45, 3) := by decide +kernel
theorem dX11_sure_34 : decode cX11_sure 34 = .ok (.iload_n 3, 1) := by decide +kernel
theorem dX11_sure_35 : decode cX11_sure 35 = .ok (.aload_n 0, 1) := by decide +kernel
theorem dX11_sure_36 : decode cX11_sure 36 = .ok (.getfield 40, 3) := by decide +kernel
theorem dX11_sure_39 : decode cX11_sure 39 = .ok (.iload 4, 2) := by decide +kernel
theorem dX11_sure_41 : decode cX11_sure 41 = .ok (.iaload, 1) := by decide +kernel
theorem dX11_sure_42 : decode cX11_sure 42 = .ok (.ifCond .lt 25, 3) := by decide +kernel
theorem dX11_sure_45 : decode cX11_sure 45 = .ok (.aload_n 0, 1) := by decide +kernel
theorem dX11_sure_46 : decode cX11_sure 46 = .ok (.iload 4, 2) := by decide +kernel
theorem dX11_sure_48 : decode cX11_sure 48 = .ok (.iload_n 1, 1) := by decide +kernel
theorem dX11_sure_49 : decode cX11_sure 49 = .ok (.invokevirtual 222, 3) := by decide +kernel
theorem dX11_sure_52 : decode cX11_sure 52 = .ok (.ifCond .eq 15, 3) := by decide +kernel
theorem dX11_sure_55 : decode cX11_sure 55 = .ok (.iconst 1, 1) := by decide +kernel
theorem dX11_sure_56 : decode cX11_sure 56 = .ok (.aload_n 0, 1) := by decide +kernel
theorem dX11_sure_57 : decode cX11_sure 57 = .ok (.getfield 40, 3) := by decide +kernel
theorem dX11_sure_60 : decode cX11_sure 60 = .ok (.iload 4, 2) := by decide +kernel
theorem dX11_sure_62 : decode cX11_sure 62 = .ok (.iaload, 1) := by decide +kernel
theorem dX11_sure_63 : decode cX11_sure 63 = .ok (.ishl, 1) := by decide +kernel
theorem dX11_sure_64 : decode cX11_sure 64 = .ok (.goto 4, 3) := by decide +kernel
theorem dX11_sure_67 : decode cX11_sure 67 = .ok (.iconst 0, 1) := by decide +kernel
theorem dX11_sure_68 : decode cX11_sure 68 = .ok (.ior, 1) := by decide +kernel
theorem dX11_sure_69 : decode cX11_sure 69 = .ok (.istore_n 3, 1) := by decide +kernel
theorem dX11_sure_70 : decode cX11_sure 70 = .ok (.iinc 4 1, 3) := by decide +kernel
theorem dX11_sure_73 : decode cX11_sure 73 = .ok (.goto (-48), 3) := by decide +kernel
theorem dX11_sure_76 : decode cX11_sure 76 = .ok (.iconst 0, 1) := by decide +kernel
theorem dX11_sure_77 : decode cX11_sure 77 = .ok (.istore 4, 2) := by decide +kernel
theorem dX11_sure_79 : decode cX11_sure 79 = .ok (.iconst 0, 1) := by decide +kernel
theorem dX11_sure_80 : decode cX11_sure 80 = .ok (.istore 5, 2) := by decide +kernel
theorem dX11_sure_82 : decode cX11_sure 82 = .ok (.iload 5, 2) := by decide +kernel
theorem dX11_sure_84 : decode cX11_sure 84 = .ok (.aload_n 0, 1) := by decide +kernel
theorem dX11_sure_85 : decode cX11_sure 85 = .ok (.getfield 127, 3) := by decide +kernel
theorem dX11_sure_88 : decode cX11_sure 88 = .ok (.if_icmp .ge 20, 3) := by decide +kernel
theorem dX11_sure_91 : decode cX11_sure 91 = .ok (.iload 4, 2) := by decide +kernel
theorem dX11_sure_93 : decode cX11_sure 93 = .ok (.iload_n 3, 1) := by decide +kernel
theorem dX11_sure_94 : decode cX11_sure 94 = .ok (.iload 5, 2) := by decide +kernel
theorem dX11_sure_96 : decode cX11_sure 96 = .ok (.ishr, 1) := by decide +kernel
theorem dX11_sure_97 : decode cX11_sure 97 = .ok (.iconst 1, 1) := by decide +kernel
theorem dX11_sure_98 : decode cX11_sure 98 = .ok (.iand, 1) := by decide +kernel
theorem dX11_sure_99 : decode cX11_sure 99 = .ok (.iadd, 1) := by decide +kernel
theorem dX11_sure_100 : decode cX11_sure 100 = .ok (.istore 4, 2) := by decide +kernel
theorem dX11_sure_102 : decode cX11_sure 102 = .ok (.iinc 5 1, 3) := by decide +kernel
theorem dX11_sure_105 : decode cX11_sure 105 = .ok (.goto (-23), 3) := by decide +kernel
theorem dX11_sure_108 : decode cX11_sure 108 = .ok (.iload_n 2, 1) := by decide +kernel
theorem dX11_sure_109 : decode cX11_sure 109 = .ok (.ifCond .ne 11, 3) := by decide +kernel
theorem dX11_sure_112 : decode cX11_sure 112 = .ok (.aload_n 0, 1) := by decide +kernel
theorem dX11_sure_113 : decode cX11_sure 113 = .ok (.iload_n 1, 1) := by decide +kernel
theorem dX11_sure_114 : decode cX11_sure 114 = .ok (.invokevirtual 235, 3) := by decide +kernel
theorem dX11_sure_117 : decode cX11_sure 117 = .ok (.goto 5, 3) := by decide +kernel
theorem dX11_sure_120 : decode cX11_sure 120 = .ok (.iload 4, 2) := by decide +kernel
theorem dX11_sure_122 : decode cX11_sure 122 = .ok (.ireturn, 1) := by decide +kernel
theorem dX11_only_0 : decode cX11_only 0 = .ok (.iconst 0, 1) := by decide +kernel
theorem dX11_only_1 : decode cX11_only 1 = .ok (.istore_n 1, 1) := by decide +kernel
theorem dX11_only_2 : decode cX11_only 2 = .ok (.iconst 0, 1) := by decide +kernel
theorem dX11_only_3 : decode cX11_only 3 = .ok (.istore_n 2, 1) := by decide +kernel
theorem dX11_only_4 : decode cX11_only 4 = .ok (.iload_n 2, 1) := by decide +kernel
theorem dX11_only_5 : decode cX11_only 5 = .ok (.aload_n 0, 1) := by decide +kernel
theorem dX11_only_6 : decode cX11_only 6 = .ok (.getfield 85, 3) := by decide +kernel
theorem dX11_only_9 : decode cX11_only 9 = .ok (.if_icmp .ge 28, 3) := by decide +kernel
theorem dX11_only_12 : decode cX11_only 12 = .ok (.iload_n 1, 1) := by decide +kernel
theorem dX11_only_13 : decode cX11_only 13 = .ok (.aload_n 0, 1) := by decide +kernel
theorem dX11_only_14 : decode cX11_only 14 = .ok (.iload_n 2, 1) := by decide +kernel
theorem dX11_only_15 : decode cX11_only 15 = .ok (.invokevirtual 235, 3) := by decide +kernel
theorem dX11_only_18 : decode cX11_only 18 = .ok (.iconst 1, 1) := by decide +kernel
theorem dX11_only_19 : decode cX11_only 19 = .ok (.if_icmp .ne 9, 3) := by decide +kernel
theorem dX11_only_22 : decode cX11_only 22 = .ok (.iconst 1, 1) := by decide +kernel
theorem dX11_only_23 : decode cX11_only 23 = .ok (.iload_n 2, 1) := by decide +kernel
theorem dX11_only_24 : decode cX11_only 24 = .ok (.ishl, 1) := by decide +kernel
theorem dX11_only_25 : decode cX11_only 25 = .ok (.goto 4, 3) := by decide +kernel
theorem dX11_only_28 : decode cX11_only 28 = .ok (.iconst 0, 1) := by decide +kernel
theorem dX11_only_29 : decode cX11_only 29 = .ok (.ior, 1) := by decide +kernel
theorem dX11_only_30 : decode cX11_only 30 = .ok (.istore_n 1, 1) := by decide +kernel
theorem dX11_only_31 : decode cX11_only 31 = .ok (.iinc 2 1, 3) := by decide +kernel
theorem dX11_only_34 : decode cX11_only 34 = .ok (.goto (-30), 3) := by decide +kernel
theorem dX11_only_37 : decode cX11_only 37 = .ok (.iload_n 1, 1) := by decide +kernel
theorem dX11_only_38 : decode cX11_only 38 = .ok (.ireturn, 1) := by decide +kernel
theorem dX11_fight_0 : decode cX11_fight 0 = .ok (.iload_n 1, 1) := by decide +kernel
theorem dX11_fight_1 : decode cX11_fight 1 = .ok (.ifCond .lt 46, 3) := by decide +kernel
theorem dX11_fight_4 : decode cX11_fight 4 = .ok (.aload_n 0, 1) := by decide +kernel
theorem dX11_fight_5 : decode cX11_fight 5 = .ok (.iload_n 1, 1) := by decide +kernel
theorem dX11_fight_6 : decode cX11_fight 6 = .ok (.bipush 10, 2) := by decide +kernel
theorem dX11_fight_8 : decode cX11_fight 8 = .ok (.idiv, 1) := by decide +kernel
theorem dX11_fight_9 : decode cX11_fight 9 = .ok (.invokevirtual 219, 3) := by decide +kernel
theorem dX11_fight_12 : decode cX11_fight 12 = .ok (.ifCond .eq 35, 3) := by decide +kernel
theorem dX11_fight_15 : decode cX11_fight 15 = .ok (.aload_n 0, 1) := by decide +kernel
theorem dX11_fight_16 : decode cX11_fight 16 = .ok (.iload_n 1, 1) := by decide +kernel
theorem dX11_fight_17 : decode cX11_fight 17 = .ok (.bipush 10, 2) := by decide +kernel
theorem dX11_fight_19 : decode cX11_fight 19 = .ok (.irem, 1) := by decide +kernel
theorem dX11_fight_20 : decode cX11_fight 20 = .ok (.invokevirtual 219, 3) := by decide +kernel
theorem dX11_fight_23 : decode cX11_fight 23 = .ok (.ifCond .eq 24, 3) := by decide +kernel
theorem dX11_fight_26 : decode cX11_fight 26 = .ok (.iload_n 1, 1) := by decide +kernel
theorem dX11_fight_27 : decode cX11_fight 27 = .ok (.bipush 10, 2) := by decide +kernel
theorem dX11_fight_29 : decode cX11_fight 29 = .ok (.idiv, 1) := by decide +kernel
theorem dX11_fight_30 : decode cX11_fight 30 = .ok (.iload_n 1, 1) := by decide +kernel
theorem dX11_fight_31 : decode cX11_fight 31 = .ok (.bipush 10, 2) := by decide +kernel
theorem dX11_fight_33 : decode cX11_fight 33 = .ok (.irem, 1) := by decide +kernel
theorem dX11_fight_34 : decode cX11_fight 34 = .ok (.if_icmp .eq 13, 3) := by decide +kernel
theorem dX11_fight_37 : decode cX11_fight 37 = .ok (.iload_n 2, 1) := by decide +kernel
theorem dX11_fight_38 : decode cX11_fight 38 = .ok (.i2l, 1) := by decide +kernel
theorem dX11_fight_39 : decode cX11_fight 39 = .ok (.lconst 0, 1) := by decide +kernel
theorem dX11_fight_40 : decode cX11_fight 40 = .ok (.lconst 1, 1) := by decide +kernel
theorem dX11_fight_41 : decode cX11_fight 41 = .ok (.invokestatic 88, 3) := by decide +kernel
theorem dX11_fight_44 : decode cX11_fight 44 = .ok (.ifCond .ne 5, 3) := by decide +kernel
theorem dX11_fight_47 : decode cX11_fight 47 = .ok (.iconst (-1), 1) := by decide +kernel
theorem dX11_fight_48 : decode cX11_fight 48 = .ok (.ireturn, 1) := by decide +kernel
theorem dX11_fight_49 : decode cX11_fight 49 = .ok (.iload_n 1, 1) := by decide +kernel
theorem dX11_fight_50 : decode cX11_fight 50 = .ok (.bipush 10, 2) := by decide +kernel
theorem dX11_fight_52 : decode cX11_fight 52 = .ok (.idiv, 1) := by decide +kernel
theorem dX11_fight_53 : decode cX11_fight 53 = .ok (.istore_n 3, 1) := by decide +kernel
theorem dX11_fight_54 : decode cX11_fight 54 = .ok (.iload_n 1, 1) := by decide +kernel
theorem dX11_fight_55 : decode cX11_fight 55 = .ok (.bipush 10, 2) := by decide +kernel
theorem dX11_fight_57 : decode cX11_fight 57 = .ok (.irem, 1) := by decide +kernel
theorem dX11_fight_58 : decode cX11_fight 58 = .ok (.istore 4, 2) := by decide +kernel
theorem dX11_fight_60 : decode cX11_fight 60 = .ok (.iconst 0, 1) := by decide +kernel
theorem dX11_fight_61 : decode cX11_fight 61 = .ok (.istore 5, 2) := by decide +kernel
theorem dX11_fight_63 : decode cX11_fight 63 = .ok (.bipush (-2), 2) := by decide +kernel
theorem dX11_fight_65 : decode cX11_fight 65 = .ok (.istore 6, 2) := by decide +kernel
theorem dX11_fight_67 : decode cX11_fight 67 = .ok (.iconst 0, 1) := by decide +kernel
theorem dX11_fight_68 : decode cX11_fight 68 = .ok (.istore 7, 2) := by decide +kernel
theorem dX11_fight_70 : decode cX11_fight 70 = .ok (.iload 7, 2) := by decide +kernel
theorem dX11_fight_72 : decode cX11_fight 72 = .ok (.aload_n 0, 1) := by decide +kernel
theorem dX11_fight_73 : decode cX11_fight 73 = .ok (.getfield 85, 3) := by decide +kernel
theorem dX11_fight_76 : decode cX11_fight 76 = .ok (.if_icmp .ge 180, 3) := by decide +kernel
theorem dX11_fight_79 : decode cX11_fight 79 = .ok (.iload 7, 2) := by decide +kernel
theorem dX11_fight_81 : decode cX11_fight 81 = .ok (.iconst 1, 1) := by decide +kernel
theorem dX11_fight_82 : decode cX11_fight 82 = .ok (.iadd, 1) := by decide +kernel
theorem dX11_fight_83 : decode cX11_fight 83 = .ok (.istore 8, 2) := by decide +kernel
theorem dX11_fight_85 : decode cX11_fight 85 = .ok (.iload 8, 2) := by decide +kernel
theorem dX11_fight_87 : decode cX11_fight 87 = .ok (.aload_n 0, 1) := by decide +kernel
theorem dX11_fight_88 : decode cX11_fight 88 = .ok (.getfield 85, 3) := by decide +kernel
theorem dX11_fight_91 : decode cX11_fight 91 = .ok (.if_icmp .ge 159, 3) := by decide +kernel
theorem dX11_fight_94 : decode cX11_fight 94 = .ok (.aload_n 0, 1) := by decide +kernel
theorem dX11_fight_95 : decode cX11_fight 95 = .ok (.iload_n 3, 1) := by decide +kernel
theorem dX11_fight_96 : decode cX11_fight 96 = .ok (.iload 7, 2) := by decide +kernel
theorem dX11_fight_98 : decode cX11_fight 98 = .ok (.invokevirtual 222, 3) := by decide +kernel
theorem dX11_fight_101 : decode cX11_fight 101 = .ok (.ifCond .eq 39, 3) := by decide +kernel
theorem dX11_fight_104 : decode cX11_fight 104 = .ok (.aload_n 0, 1) := by decide +kernel
theorem dX11_fight_105 : decode cX11_fight 105 = .ok (.iload_n 3, 1) := by decide +kernel
theorem dX11_fight_106 : decode cX11_fight 106 = .ok (.iload 8, 2) := by decide +kernel
theorem dX11_fight_108 : decode cX11_fight 108 = .ok (.invokevirtual 222, 3) := by decide +kernel
theorem dX11_fight_111 : decode cX11_fight 111 = .ok (.ifCond .eq 29, 3) := by decide +kernel
theorem dX11_fight_114 : decode cX11_fight 114 = .ok (.aload_n 0, 1) := by decide +kernel
theorem dX11_fight_115 : decode cX11_fight 115 = .ok (.iload 4, 2) := by decide +kernel
theorem dX11_fight_117 : decode cX11_fight 117 = .ok (.iload 7, 2) := by decide +kernel
theorem dX11_fight_119 : decode cX11_fight 119 = .ok (.invokevirtual 222, 3) := by decide +kernel
theorem dX11_fight_122 : decode cX11_fight 122 = .ok (.ifCond .eq 18, 3) := by decide +kernel
theorem dX11_fight_125 : decode cX11_fight 125 = .ok (.aload_n 0, 1) := by decide +kernel
theorem dX11_fight_126 : decode cX11_fight 126 = .ok (.iload 4, 2) := by decide +kernel
theorem dX11_fight_128 : decode cX11_fight 128 = .ok (.iload 8, 2) := by decide +kernel
theorem dX11_fight_130 : decode cX11_fight 130 = .ok (.invokevirtual 222, 3) := by decide +kernel
theorem dX11_fight_133 : decode cX11_fight 133 = .ok (.ifCond .eq 7, 3) := by decide +kernel
theorem dX11_fight_136 : decode cX11_fight 136 = .ok (.iconst 1, 1) := by decide +kernel
theorem dX11_fight_137 : decode cX11_fight 137 = .ok (.goto 4, 3) := by decide +kernel
theorem dX11_fight_140 : decode cX11_fight 140 = .ok (.iconst 0, 1) := by decide +kernel
theorem dX11_fight_141 : decode cX11_fight 141 = .ok (.istore 9, 2) := by decide +kernel
theorem dX11_fight_143 : decode cX11_fight 143 = .ok (.iload 9, 2) := by decide +kernel
theorem dX11_fight_145 : decode cX11_fight 145 = .ok (.ifCond .eq 56, 3) := by decide +kernel
theorem dX11_fight_148 : decode cX11_fight 148 = .ok (.aload_n 0, 1) := by decide +kernel
theorem dX11_fight_149 : decode cX11_fight 149 = .ok (.iload_n 3, 1) := by decide +kernel
theorem dX11_fight_150 : decode cX11_fight 150 = .ok (.iload 7, 2) := by decide +kernel
theorem dX11_fight_152 : decode cX11_fight 152 = .ok (.invokevirtual 216, 3) := by decide +kernel
theorem dX11_fight_155 : decode cX11_fight 155 = .ok (.aload_n 0, 1) := by decide +kernel
theorem dX11_fight_156 : decode cX11_fight 156 = .ok (.iload_n 3, 1) := by decide +kernel
theorem dX11_fight_157 : decode cX11_fight 157 = .ok (.iload 8, 2) := by decide +kernel
theorem dX11_fight_159 : decode cX11_fight 159 = .ok (.invokevirtual 216, 3) := by decide +kernel
theorem dX11_fight_162 : decode cX11_fight 162 = .ok (.if_icmp .ge 7, 3) := by decide +kernel
theorem dX11_fight_165 : decode cX11_fight 165 = .ok (.iconst 1, 1) := by decide +kernel
theorem dX11_fight_166 : decode cX11_fight 166 = .ok (.goto 4, 3) := by decide +kernel
theorem dX11_fight_169 : decode cX11_fight 169 = .ok (.iconst 0, 1) := by decide +kernel
theorem dX11_fight_170 : decode cX11_fight 170 = .ok (.aload_n 0, 1) := by decide +kernel
theorem dX11_fight_171 : decode cX11_fight 171 = .ok (.iload 4, 2) := by decide +kernel
theorem dX11_fight_173 : decode cX11_fight 173 = .ok (.iload 7, 2) := by decide +kernel
theorem dX11_fight_175 : decode cX11_fight 175 = .ok (.invokevirtual 216, 3) := by decide +kernel
theorem dX11_fight_178 : decode cX11_fight 178 = .ok (.aload_n 0, 1) := by decide +kernel
theorem dX11_fight_179 : decode cX11_fight 179 = .ok (.iload 4, 2) := by decide +kernel
theorem dX11_fight_181 : decode cX11_fight 181 = .ok (.iload 8, 2) := by decide +kernel
theorem dX11_fight_183 : decode cX11_fight 183 = .ok (.invokevirtual 216, 3) := by decide +kernel
theorem dX11_fight_186 : decode cX11_fight 186 = .ok (.if_icmp .ge 7, 3) := by decide +kernel
theorem dX11_fight_189 : decode cX11_fight 189 = .ok (.iconst 1, 1) := by decide +kernel
theorem dX11_fight_190 : decode cX11_fight 190 = .ok (.goto 4, 3) := by decide +kernel
theorem dX11_fight_193 : decode cX11_fight 193 = .ok (.iconst 0, 1) := by decide +kernel
theorem dX11_fight_194 : decode cX11_fight 194 = .ok (.if_icmp .eq 7, 3) := by decide +kernel
theorem dX11_fight_197 : decode cX11_fight 197 = .ok (.iconst 1, 1) := by decide +kernel
theorem dX11_fight_198 : decode cX11_fight 198 = .ok (.goto 4, 3) := by decide +kernel
theorem dX11_fight_201 : decode cX11_fight 201 = .ok (.iconst 0, 1) := by decide +kernel
theorem dX11_fight_202 : decode cX11_fight 202 = .ok (.istore 10, 2) := by decide +kernel
theorem dX11_fight_204 : decode cX11_fight 204 = .ok (.iload 10, 2) := by decide +kernel
theorem dX11_fight_206 : decode cX11_fight 206 = .ok (.ifCond .eq 19, 3) := by decide +kernel
theorem dX11_fight_209 : decode cX11_fight 209 = .ok (.iload 5, 2) := by decide +kernel
theorem dX11_fight_211 : decode cX11_fight 211 = .ok (.ifCond .ne 14, 3) := by decide +kernel
theorem dX11_fight_214 : decode cX11_fight 214 = .ok (.bipush 100, 2) := by decide +kernel
theorem dX11_fight_216 : decode cX11_fight 216 = .ok (.iload 7, 2) := by decide +kernel
theorem dX11_fight_218 : decode cX11_fight 218 = .ok (.imul, 1) := by decide +kernel
theorem dX11_fight_219 : decode cX11_fight 219 = .ok (.iload 8, 2) := by decide +kernel
theorem dX11_fight_221 : decode cX11_fight 221 = .ok (.iadd, 1) := by decide +kernel
theorem dX11_fight_222 : decode cX11_fight 222 = .ok (.goto 5, 3) := by decide +kernel
theorem dX11_fight_225 : decode cX11_fight 225 = .ok (.iload 6, 2) := by decide +kernel
theorem dX11_fight_227 : decode cX11_fight 227 = .ok (.istore 6, 2) := by decide +kernel
theorem dX11_fight_229 : decode cX11_fight 229 = .ok (.iload 5, 2) := by decide +kernel
theorem dX11_fight_231 : decode cX11_fight 231 = .ok (.iload 10, 2) := by decide +kernel
theorem dX11_fight_233 : decode cX11_fight 233 = .ok (.ifCond .eq 7, 3) := by decide +kernel
theorem dX11_fight_236 : decode cX11_fight 236 = .ok (.iconst 1, 1) := by decide +kernel
theorem dX11_fight_237 : decode cX11_fight 237 = .ok (.goto 4, 3) := by decide +kernel
theorem dX11_fight_240 : decode cX11_fight 240 = .ok (.iconst 0, 1) := by decide +kernel
theorem dX11_fight_241 : decode cX11_fight 241 = .ok (.iadd, 1) := by decide +kernel
theorem dX11_fight_242 : decode cX11_fight 242 = .ok (.istore 5, 2) := by decide +kernel
theorem dX11_fight_244 : decode cX11_fight 244 = .ok (.iinc 8 1, 3) := by decide +kernel
theorem dX11_fight_247 : decode cX11_fight 247 = .ok (.goto (-162), 3) := by decide +kernel
theorem dX11_fight_250 : decode cX11_fight 250 = .ok (.iinc 7 1, 3) := by decide +kernel
theorem dX11_fight_253 : decode cX11_fight 253 = .ok (.goto (-183), 3) := by decide +kernel
theorem dX11_fight_256 : decode cX11_fight 256 = .ok (.iload_n 2, 1) := by decide +kernel
theorem dX11_fight_257 : decode cX11_fight 257 = .ok (.ifCond .ne 8, 3) := by decide +kernel
theorem dX11_fight_260 : decode cX11_fight 260 = .ok (.iload 5, 2) := by decide +kernel
theorem dX11_fight_262 : decode cX11_fight 262 = .ok (.goto 5, 3) := by decide +kernel
theorem dX11_fight_265 : decode cX11_fight 265 = .ok (.iload 6, 2) := by decide +kernel
theorem dX11_fight_267 : decode cX11_fight 267 = .ok (.ireturn, 1) := by decide +kernel
theorem dX11_beats_0 : decode cX11_beats 0 = .ok (.iconst 0, 1) := by decide +kernel
theorem dX11_beats_1 : decode cX11_beats 1 = .ok (.istore_n 3, 1) := by decide +kernel
theorem dX11_beats_2 : decode cX11_beats 2 = .ok (.iconst 0, 1) := by decide +kernel
theorem dX11_beats_3 : decode cX11_beats 3 = .ok (.istore 4, 2) := by decide +kernel
theorem dX11_beats_5 : decode cX11_beats 5 = .ok (.iload 4, 2) := by decide +kernel
theorem dX11_beats_7 : decode cX11_beats 7 = .ok (.aload_n 0, 1) := by decide +kernel
theorem dX11_beats_8 : decode cX11_beats 8 = .ok (.getfield 190, 3) := by decide +kernel
theorem dX11_beats_11 : decode cX11_beats 11 = .ok (.if_icmp .ge 54, 3) := by decide +kernel
theorem dX11_beats_14 : decode cX11_beats 14 = .ok (.aload_n 0, 1) := by decide +kernel
theorem dX11_beats_15 : decode cX11_beats 15 = .ok (.iload 4, 2) := by decide +kernel
theorem dX11_beats_17 : decode cX11_beats 17 = .ok (.iload_n 1, 1) := by decide +kernel
theorem dX11_beats_18 : decode cX11_beats 18 = .ok (.invokevirtual 222, 3) := by decide +kernel
theorem dX11_beats_21 : decode cX11_beats 21 = .ok (.ifCond .eq 38, 3) := by decide +kernel
theorem dX11_beats_24 : decode cX11_beats 24 = .ok (.aload_n 0, 1) := by decide +kernel
theorem dX11_beats_25 : decode cX11_beats 25 = .ok (.iload 4, 2) := by decide +kernel
theorem dX11_beats_27 : decode cX11_beats 27 = .ok (.iload_n 2, 1) := by decide +kernel
theorem dX11_beats_28 : decode cX11_beats 28 = .ok (.invokevirtual 222, 3) := by decide +kernel
theorem dX11_beats_31 : decode cX11_beats 31 = .ok (.ifCond .eq 28, 3) := by decide +kernel
theorem dX11_beats_34 : decode cX11_beats 34 = .ok (.iload_n 3, 1) := by decide +kernel
theorem dX11_beats_35 : decode cX11_beats 35 = .ok (.aload_n 0, 1) := by decide +kernel
theorem dX11_beats_36 : decode cX11_beats 36 = .ok (.iload 4, 2) := by decide +kernel
theorem dX11_beats_38 : decode cX11_beats 38 = .ok (.iload_n 1, 1) := by decide +kernel
theorem dX11_beats_39 : decode cX11_beats 39 = .ok (.invokevirtual 216, 3) := by decide +kernel
theorem dX11_beats_42 : decode cX11_beats 42 = .ok (.aload_n 0, 1) := by decide +kernel
theorem dX11_beats_43 : decode cX11_beats 43 = .ok (.iload 4, 2) := by decide +kernel
theorem dX11_beats_45 : decode cX11_beats 45 = .ok (.iload_n 2, 1) := by decide +kernel
theorem dX11_beats_46 : decode cX11_beats 46 = .ok (.invokevirtual 216, 3) := by decide +kernel
theorem dX11_beats_49 : decode cX11_beats 49 = .ok (.if_icmp .ge 7, 3) := by decide +kernel
theorem dX11_beats_52 : decode cX11_beats 52 = .ok (.iconst 1, 1) := by decide +kernel
theorem dX11_beats_53 : decode cX11_beats 53 = .ok (.goto 4, 3) := by decide +kernel
theorem dX11_beats_56 : decode cX11_beats 56 = .ok (.iconst (-1), 1) := by decide +kernel
theorem dX11_beats_57 : decode cX11_beats 57 = .ok (.iadd, 1) := by decide +kernel
theorem dX11_beats_58 : decode cX11_beats 58 = .ok (.istore_n 3, 1) := by decide +kernel
theorem dX11_beats_59 : decode cX11_beats 59 = .ok (.iinc 4 1, 3) := by decide +kernel
theorem dX11_beats_62 : decode cX11_beats 62 = .ok (.goto (-57), 3) := by decide +kernel
theorem dX11_beats_65 : decode cX11_beats 65 = .ok (.iload_n 3, 1) := by decide +kernel
theorem dX11_beats_66 : decode cX11_beats 66 = .ok (.ifCond .le 7, 3) := by decide +kernel
theorem dX11_beats_69 : decode cX11_beats 69 = .ok (.iconst 1, 1) := by decide +kernel
theorem dX11_beats_70 : decode cX11_beats 70 = .ok (.goto 4, 3) := by decide +kernel
theorem dX11_beats_73 : decode cX11_beats 73 = .ok (.iconst 0, 1) := by decide +kernel
theorem dX11_beats_74 : decode cX11_beats 74 = .ok (.ireturn, 1) := by decide +kernel
theorem dX11_nextOf_0 : decode cX11_nextOf 0 = .ok (.iconst (-1), 1) := by decide +kernel
theorem dX11_nextOf_1 : decode cX11_nextOf 1 = .ok (.istore_n 2, 1) := by decide +kernel
theorem dX11_nextOf_2 : decode cX11_nextOf 2 = .ok (.iconst 0, 1) := by decide +kernel
theorem dX11_nextOf_3 : decode cX11_nextOf 3 = .ok (.istore_n 3, 1) := by decide +kernel
theorem dX11_nextOf_4 : decode cX11_nextOf 4 = .ok (.iconst 0, 1) := by decide +kernel
theorem dX11_nextOf_5 : decode cX11_nextOf 5 = .ok (.istore 4, 2) := by decide +kernel
theorem dX11_nextOf_7 : decode cX11_nextOf 7 = .ok (.iload 4, 2) := by decide +kernel
theorem dX11_nextOf_9 : decode cX11_nextOf 9 = .ok (.aload_n 0, 1) := by decide +kernel
theorem dX11_nextOf_10 : decode cX11_nextOf 10 = .ok (.getfield 85, 3) := by decide +kernel
theorem dX11_nextOf_13 : decode cX11_nextOf 13 = .ok (.if_icmp .ge 96, 3) := by decide +kernel
theorem dX11_nextOf_16 : decode cX11_nextOf 16 = .ok (.iload_n 1, 1) := by decide +kernel
theorem dX11_nextOf_17 : decode cX11_nextOf 17 = .ok (.iload 4, 2) := by decide +kernel
theorem dX11_nextOf_19 : decode cX11_nextOf 19 = .ok (.ishr, 1) := by decide +kernel
theorem dX11_nextOf_20 : decode cX11_nextOf 20 = .ok (.iconst 1, 1) := by decide +kernel
theorem dX11_nextOf_21 : decode cX11_nextOf 21 = .ok (.iand, 1) := by decide +kernel
theorem dX11_nextOf_22 : decode cX11_nextOf 22 = .ok (.ifCond .ne 6, 3) := by decide +kernel
theorem dX11_nextOf_25 : decode cX11_nextOf 25 = .ok (.goto 78, 3) := by decide +kernel
theorem dX11_nextOf_28 : decode cX11_nextOf 28 = .ok (.iconst 0, 1) := by decide +kernel
theorem dX11_nextOf_29 : decode cX11_nextOf 29 = .ok (.istore 5, 2) := by decide +kernel
theorem dX11_nextOf_31 : decode cX11_nextOf 31 = .ok (.iconst 0, 1) := by decide +kernel
theorem dX11_nextOf_32 : decode cX11_nextOf 32 = .ok (.istore 6, 2) := by decide +kernel
theorem dX11_nextOf_34 : decode cX11_nextOf 34 = .ok (.iload 6, 2) := by decide +kernel
theorem dX11_nextOf_36 : decode cX11_nextOf 36 = .ok (.aload_n 0, 1) := by decide +kernel
theorem dX11_nextOf_37 : decode cX11_nextOf 37 = .ok (.getfield 85, 3) := by decide +kernel
theorem dX11_nextOf_40 : decode cX11_nextOf 40 = .ok (.if_icmp .ge 47, 3) := by decide +kernel
theorem dX11_nextOf_43 : decode cX11_nextOf 43 = .ok (.iload 5, 2) := by decide +kernel
theorem dX11_nextOf_45 : decode cX11_nextOf 45 = .ok (.iload_n 1, 1) := by decide +kernel
theorem dX11_nextOf_46 : decode cX11_nextOf 46 = .ok (.iload 6, 2) := by decide +kernel
theorem dX11_nextOf_48 : decode cX11_nextOf 48 = .ok (.ishr, 1) := by decide +kernel
theorem dX11_nextOf_49 : decode cX11_nextOf 49 = .ok (.iconst 1, 1) := by decide +kernel
theorem dX11_nextOf_50 : decode cX11_nextOf 50 = .ok (.iand, 1) := by decide +kernel
theorem dX11_nextOf_51 : decode cX11_nextOf 51 = .ok (.iconst 1, 1) := by decide +kernel
theorem dX11_nextOf_52 : decode cX11_nextOf 52 = .ok (.if_icmp .ne 25, 3) := by decide +kernel
theorem dX11_nextOf_55 : decode cX11_nextOf 55 = .ok (.iload 6, 2) := by decide +kernel
theorem dX11_nextOf_57 : decode cX11_nextOf 57 = .ok (.iload 4, 2) := by decide +kernel
theorem dX11_nextOf_59 : decode cX11_nextOf 59 = .ok (.if_icmp .eq 18, 3) := by decide +kernel
theorem dX11_nextOf_62 : decode cX11_nextOf 62 = .ok (.aload_n 0, 1) := by decide +kernel
theorem dX11_nextOf_63 : decode cX11_nextOf 63 = .ok (.iload 4, 2) := by decide +kernel
theorem dX11_nextOf_65 : decode cX11_nextOf 65 = .ok (.iload 6, 2) := by decide +kernel
theorem dX11_nextOf_67 : decode cX11_nextOf 67 = .ok (.invokevirtual 238, 3) := by decide +kernel
theorem dX11_nextOf_70 : decode cX11_nextOf 70 = .ok (.ifCond .eq 7, 3) := by decide +kernel
theorem dX11_nextOf_73 : decode cX11_nextOf 73 = .ok (.iconst 1, 1) := by decide +kernel
theorem dX11_nextOf_74 : decode cX11_nextOf 74 = .ok (.goto 4, 3) := by decide +kernel
theorem dX11_nextOf_77 : decode cX11_nextOf 77 = .ok (.iconst 0, 1) := by decide +kernel
theorem dX11_nextOf_78 : decode cX11_nextOf 78 = .ok (.iadd, 1) := by decide +kernel
theorem dX11_nextOf_79 : decode cX11_nextOf 79 = .ok (.istore 5, 2) := by decide +kernel
theorem dX11_nextOf_81 : decode cX11_nextOf 81 = .ok (.iinc 6 1, 3) := by decide +kernel
theorem dX11_nextOf_84 : decode cX11_nextOf 84 = .ok (.goto (-50), 3) := by decide +kernel
theorem dX11_nextOf_87 : decode cX11_nextOf 87 = .ok (.iload_n 2, 1) := by decide +kernel
theorem dX11_nextOf_88 : decode cX11_nextOf 88 = .ok (.ifCond .lt 9, 3) := by decide +kernel
theorem dX11_nextOf_91 : decode cX11_nextOf 91 = .ok (.iload 5, 2) := by decide +kernel
theorem dX11_nextOf_93 : decode cX11_nextOf 93 = .ok (.iload_n 3, 1) := by decide +kernel
theorem dX11_nextOf_94 : decode cX11_nextOf 94 = .ok (.if_icmp .le 9, 3) := by decide +kernel
theorem dX11_nextOf_97 : decode cX11_nextOf 97 = .ok (.iload 4, 2) := by decide +kernel
theorem dX11_nextOf_99 : decode cX11_nextOf 99 = .ok (.istore_n 2, 1) := by decide +kernel
theorem dX11_nextOf_100 : decode cX11_nextOf 100 = .ok (.iload 5, 2) := by decide +kernel
theorem dX11_nextOf_102 : decode cX11_nextOf 102 = .ok (.istore_n 3, 1) := by decide +kernel
theorem dX11_nextOf_103 : decode cX11_nextOf 103 = .ok (.iinc 4 1, 3) := by decide +kernel
theorem dX11_nextOf_106 : decode cX11_nextOf 106 = .ok (.goto (-99), 3) := by decide +kernel
theorem dX11_nextOf_109 : decode cX11_nextOf 109 = .ok (.iload_n 2, 1) := by decide +kernel
theorem dX11_nextOf_110 : decode cX11_nextOf 110 = .ok (.ireturn, 1) := by decide +kernel
theorem dX11_order_0 : decode cX11_order 0 = .ok (.iconst 0, 1) := by decide +kernel
theorem dX11_order_1 : decode cX11_order 1 = .ok (.istore_n 2, 1) := by decide +kernel
theorem dX11_order_2 : decode cX11_order 2 = .ok (.iconst 0, 1) := by decide +kernel
theorem dX11_order_3 : decode cX11_order 3 = .ok (.istore_n 3, 1) := by decide +kernel
theorem dX11_order_4 : decode cX11_order 4 = .ok (.iload_n 3, 1) := by decide +kernel
theorem dX11_order_5 : decode cX11_order 5 = .ok (.aload_n 0, 1) := by decide +kernel
theorem dX11_order_6 : decode cX11_order 6 = .ok (.getfield 85, 3) := by decide +kernel
theorem dX11_order_9 : decode cX11_order 9 = .ok (.if_icmp .ge 27, 3) := by decide +kernel
theorem dX11_order_12 : decode cX11_order 12 = .ok (.iload_n 2, 1) := by decide +kernel
theorem dX11_order_13 : decode cX11_order 13 = .ok (.aload_n 0, 1) := by decide +kernel
theorem dX11_order_14 : decode cX11_order 14 = .ok (.iload_n 3, 1) := by decide +kernel
theorem dX11_order_15 : decode cX11_order 15 = .ok (.invokevirtual 235, 3) := by decide +kernel
theorem dX11_order_18 : decode cX11_order 18 = .ok (.ifCond .le 9, 3) := by decide +kernel
theorem dX11_order_21 : decode cX11_order 21 = .ok (.iconst 1, 1) := by decide +kernel
theorem dX11_order_22 : decode cX11_order 22 = .ok (.iload_n 3, 1) := by decide +kernel
theorem dX11_order_23 : decode cX11_order 23 = .ok (.ishl, 1) := by decide +kernel
theorem dX11_order_24 : decode cX11_order 24 = .ok (.goto 4, 3) := by decide +kernel
theorem dX11_order_27 : decode cX11_order 27 = .ok (.iconst 0, 1) := by decide +kernel
theorem dX11_order_28 : decode cX11_order 28 = .ok (.ior, 1) := by decide +kernel
theorem dX11_order_29 : decode cX11_order 29 = .ok (.istore_n 2, 1) := by decide +kernel
theorem dX11_order_30 : decode cX11_order 30 = .ok (.iinc 3 1, 3) := by decide +kernel
theorem dX11_order_33 : decode cX11_order 33 = .ok (.goto (-29), 3) := by decide +kernel
theorem dX11_order_36 : decode cX11_order 36 = .ok (.iload_n 1, 1) := by decide +kernel
theorem dX11_order_37 : decode cX11_order 37 = .ok (.ifCond .ge 5, 3) := by decide +kernel
theorem dX11_order_40 : decode cX11_order 40 = .ok (.iconst (-1), 1) := by decide +kernel
theorem dX11_order_41 : decode cX11_order 41 = .ok (.ireturn, 1) := by decide +kernel
theorem dX11_order_42 : decode cX11_order 42 = .ok (.iconst 0, 1) := by decide +kernel
theorem dX11_order_43 : decode cX11_order 43 = .ok (.istore_n 3, 1) := by decide +kernel
theorem dX11_order_44 : decode cX11_order 44 = .ok (.iload_n 3, 1) := by decide +kernel
theorem dX11_order_45 : decode cX11_order 45 = .ok (.iload_n 1, 1) := by decide +kernel
theorem dX11_order_46 : decode cX11_order 46 = .ok (.if_icmp .gt 37, 3) := by decide +kernel
theorem dX11_order_49 : decode cX11_order 49 = .ok (.iload_n 2, 1) := by decide +kernel
theorem dX11_order_50 : decode cX11_order 50 = .ok (.ifCond .eq 33, 3) := by decide +kernel
theorem dX11_order_53 : decode cX11_order 53 = .ok (.aload_n 0, 1) := by decide +kernel
theorem dX11_order_54 : decode cX11_order 54 = .ok (.iload_n 2, 1) := by decide +kernel
theorem dX11_order_55 : decode cX11_order 55 = .ok (.invokevirtual 241, 3) := by decide +kernel
theorem dX11_order_58 : decode cX11_order 58 = .ok (.istore 4, 2) := by decide +kernel
theorem dX11_order_60 : decode cX11_order 60 = .ok (.iload_n 3, 1) := by decide +kernel
theorem dX11_order_61 : decode cX11_order 61 = .ok (.iload_n 1, 1) := by decide +kernel
theorem dX11_order_62 : decode cX11_order 62 = .ok (.if_icmp .ne 6, 3) := by decide +kernel
theorem dX11_order_65 : decode cX11_order 65 = .ok (.iload 4, 2) := by decide +kernel
theorem dX11_order_67 : decode cX11_order 67 = .ok (.ireturn, 1) := by decide +kernel
theorem dX11_order_68 : decode cX11_order 68 = .ok (.iload_n 2, 1) := by decide +kernel
theorem dX11_order_69 : decode cX11_order 69 = .ok (.iconst 1, 1) := by decide +kernel
theorem dX11_order_70 : decode cX11_order 70 = .ok (.iload 4, 2) := by decide +kernel
theorem dX11_order_72 : decode cX11_order 72 = .ok (.ishl, 1) := by decide +kernel
theorem dX11_order_73 : decode cX11_order 73 = .ok (.iconst (-1), 1) := by decide +kernel
theorem dX11_order_74 : decode cX11_order 74 = .ok (.ixor, 1) := by decide +kernel
theorem dX11_order_75 : decode cX11_order 75 = .ok (.iand, 1) := by decide +kernel
theorem dX11_order_76 : decode cX11_order 76 = .ok (.istore_n 2, 1) := by decide +kernel
theorem dX11_order_77 : decode cX11_order 77 = .ok (.iinc 3 1, 3) := by decide +kernel
theorem dX11_order_80 : decode cX11_order 80 = .ok (.goto (-36), 3) := by decide +kernel
theorem dX11_order_83 : decode cX11_order 83 = .ok (.iconst (-1), 1) := by decide +kernel
theorem dX11_order_84 : decode cX11_order 84 = .ok (.ireturn, 1) := by decide +kernel
theorem dX11_common_0 : decode cX11_common 0 = .ok (.lload_n 0, 1) := by decide +kernel
theorem dX11_common_1 : decode cX11_common 1 = .ok (.lstore 4, 2) := by decide +kernel
theorem dX11_common_3 : decode cX11_common 3 = .ok (.lload_n 2, 1) := by decide +kernel
theorem dX11_common_4 : decode cX11_common 4 = .ok (.lstore 6, 2) := by decide +kernel
theorem dX11_common_6 : decode cX11_common 6 = .ok (.lload 6, 2) := by decide +kernel
theorem dX11_common_8 : decode cX11_common 8 = .ok (.lconst 0, 1) := by decide +kernel
theorem dX11_common_9 : decode cX11_common 9 = .ok (.lcmp, 1) := by decide +kernel
theorem dX11_common_10 : decode cX11_common 10 = .ok (.ifCond .eq 21, 3) := by decide +kernel
theorem dX11_common_13 : decode cX11_common 13 = .ok (.lload 4, 2) := by decide +kernel
theorem dX11_common_15 : decode cX11_common 15 = .ok (.lload 6, 2) := by decide +kernel
theorem dX11_common_17 : decode cX11_common 17 = .ok (.lrem, 1) := by decide +kernel
theorem dX11_common_18 : decode cX11_common 18 = .ok (.lstore 8, 2) := by decide +kernel
theorem dX11_common_20 : decode cX11_common 20 = .ok (.lload 6, 2) := by decide +kernel
theorem dX11_common_22 : decode cX11_common 22 = .ok (.lstore 4, 2) := by decide +kernel
theorem dX11_common_24 : decode cX11_common 24 = .ok (.lload 8, 2) := by decide +kernel
theorem dX11_common_26 : decode cX11_common 26 = .ok (.lstore 6, 2) := by decide +kernel
theorem dX11_common_28 : decode cX11_common 28 = .ok (.goto (-22), 3) := by decide +kernel
theorem dX11_common_31 : decode cX11_common 31 = .ok (.lload 4, 2) := by decide +kernel
theorem dX11_common_33 : decode cX11_common 33 = .ok (.lreturn, 1) := by decide +kernel
theorem dX11_said_0 : decode cX11_said 0 = .ok (.aload_n 0, 1) := by decide +kernel
theorem dX11_said_1 : decode cX11_said 1 = .ok (.iload_n 1, 1) := by decide +kernel
theorem dX11_said_2 : decode cX11_said 2 = .ok (.invokevirtual 114, 3) := by decide +kernel
theorem dX11_said_5 : decode cX11_said 5 = .ok (.ifCond .eq 25, 3) := by decide +kernel
theorem dX11_said_8 : decode cX11_said 8 = .ok (.iload_n 2, 1) := by decide +kernel
theorem dX11_said_9 : decode cX11_said 9 = .ok (.i2l, 1) := by decide +kernel
theorem dX11_said_10 : decode cX11_said 10 = .ok (.lconst 1, 1) := by decide +kernel
theorem dX11_said_11 : decode cX11_said 11 = .ok (.ldc2_w 244, 3) := by decide +kernel
theorem dX11_said_14 : decode cX11_said 14 = .ok (.invokestatic 88, 3) := by decide +kernel
theorem dX11_said_17 : decode cX11_said 17 = .ok (.ifCond .eq 13, 3) := by decide +kernel
theorem dX11_said_20 : decode cX11_said 20 = .ok (.iload_n 3, 1) := by decide +kernel
theorem dX11_said_21 : decode cX11_said 21 = .ok (.i2l, 1) := by decide +kernel
theorem dX11_said_22 : decode cX11_said 22 = .ok (.lconst 0, 1) := by decide +kernel
theorem dX11_said_23 : decode cX11_said 23 = .ok (.lconst 1, 1) := by decide +kernel
theorem dX11_said_24 : decode cX11_said 24 = .ok (.invokestatic 88, 3) := by decide +kernel
theorem dX11_said_27 : decode cX11_said 27 = .ok (.ifCond .ne 7, 3) := by decide +kernel
theorem dX11_said_30 : decode cX11_said 30 = .ok (.ldc2_w 248, 3) := by decide +kernel
theorem dX11_said_33 : decode cX11_said 33 = .ok (.lreturn, 1) := by decide +kernel
theorem dX11_said_34 : decode cX11_said 34 = .ok (.iload_n 2, 1) := by decide +kernel
theorem dX11_said_35 : decode cX11_said 35 = .ok (.i2l, 1) := by decide +kernel
theorem dX11_said_36 : decode cX11_said 36 = .ok (.lstore 4, 2) := by decide +kernel
theorem dX11_said_38 : decode cX11_said 38 = .ok (.bipush 100, 2) := by decide +kernel
theorem dX11_said_40 : decode cX11_said 40 = .ok (.iload_n 2, 1) := by decide +kernel
theorem dX11_said_41 : decode cX11_said 41 = .ok (.isub, 1) := by decide +kernel
theorem dX11_said_42 : decode cX11_said 42 = .ok (.i2l, 1) := by decide +kernel
theorem dX11_said_43 : decode cX11_said 43 = .ok (.lstore 6, 2) := by decide +kernel
theorem dX11_said_45 : decode cX11_said 45 = .ok (.iconst 0, 1) := by decide +kernel
theorem dX11_said_46 : decode cX11_said 46 = .ok (.istore 8, 2) := by decide +kernel
theorem dX11_said_48 : decode cX11_said 48 = .ok (.iconst 0, 1) := by decide +kernel
theorem dX11_said_49 : decode cX11_said 49 = .ok (.istore 9, 2) := by decide +kernel
theorem dX11_said_51 : decode cX11_said 51 = .ok (.iload 9, 2) := by decide +kernel
theorem dX11_said_53 : decode cX11_said 53 = .ok (.aload_n 0, 1) := by decide +kernel
theorem dX11_said_54 : decode cX11_said 54 = .ok (.getfield 190, 3) := by decide +kernel
theorem dX11_said_57 : decode cX11_said 57 = .ok (.if_icmp .ge 92, 3) := by decide +kernel
theorem dX11_said_60 : decode cX11_said 60 = .ok (.iload 8, 2) := by decide +kernel
theorem dX11_said_62 : decode cX11_said 62 = .ok (.bipush 7, 2) := by decide +kernel
theorem dX11_said_64 : decode cX11_said 64 = .ok (.if_icmp .ge 85, 3) := by decide +kernel
theorem dX11_said_67 : decode cX11_said 67 = .ok (.aload_n 0, 1) := by decide +kernel
theorem dX11_said_68 : decode cX11_said 68 = .ok (.getfield 40, 3) := by decide +kernel
theorem dX11_said_71 : decode cX11_said 71 = .ok (.iload 9, 2) := by decide +kernel
theorem dX11_said_73 : decode cX11_said 73 = .ok (.iaload, 1) := by decide +kernel
theorem dX11_said_74 : decode cX11_said 74 = .ok (.ifCond .lt 69, 3) := by decide +kernel
theorem dX11_said_77 : decode cX11_said 77 = .ok (.aload_n 0, 1) := by decide +kernel
theorem dX11_said_78 : decode cX11_said 78 = .ok (.aload_n 0, 1) := by decide +kernel
theorem dX11_said_79 : decode cX11_said 79 = .ok (.getfield 40, 3) := by decide +kernel
theorem dX11_said_82 : decode cX11_said 82 = .ok (.iload 9, 2) := by decide +kernel
theorem dX11_said_84 : decode cX11_said 84 = .ok (.iaload, 1) := by decide +kernel
theorem dX11_said_85 : decode cX11_said 85 = .ok (.iload_n 1, 1) := by decide +kernel
theorem dX11_said_86 : decode cX11_said 86 = .ok (.invokevirtual 187, 3) := by decide +kernel
theorem dX11_said_89 : decode cX11_said 89 = .ok (.istore 10, 2) := by decide +kernel
theorem dX11_said_91 : decode cX11_said 91 = .ok (.lload 4, 2) := by decide +kernel
theorem dX11_said_93 : decode cX11_said 93 = .ok (.aload_n 0, 1) := by decide +kernel
theorem dX11_said_94 : decode cX11_said 94 = .ok (.iload 9, 2) := by decide +kernel
theorem dX11_said_96 : decode cX11_said 96 = .ok (.iload_n 1, 1) := by decide +kernel
theorem dX11_said_97 : decode cX11_said 97 = .ok (.invokevirtual 222, 3) := by decide +kernel
theorem dX11_said_100 : decode cX11_said 100 = .ok (.ifCond .eq 9, 3) := by decide +kernel
theorem dX11_said_103 : decode cX11_said 103 = .ok (.iload 10, 2) := by decide +kernel
theorem dX11_said_105 : decode cX11_said 105 = .ok (.i2l, 1) := by decide +kernel
theorem dX11_said_106 : decode cX11_said 106 = .ok (.goto 9, 3) := by decide +kernel
theorem dX11_said_109 : decode cX11_said 109 = .ok (.bipush 100, 2) := by decide +kernel
theorem dX11_said_111 : decode cX11_said 111 = .ok (.iload 10, 2) := by decide +kernel
theorem dX11_said_113 : decode cX11_said 113 = .ok (.isub, 1) := by decide +kernel
theorem dX11_said_114 : decode cX11_said 114 = .ok (.i2l, 1) := by decide +kernel
theorem dX11_said_115 : decode cX11_said 115 = .ok (.lmul, 1) := by decide +kernel
theorem dX11_said_116 : decode cX11_said 116 = .ok (.lstore 4, 2) := by decide +kernel
theorem dX11_said_118 : decode cX11_said 118 = .ok (.lload 6, 2) := by decide +kernel
theorem dX11_said_120 : decode cX11_said 120 = .ok (.aload_n 0, 1) := by decide +kernel
theorem dX11_said_121 : decode cX11_said 121 = .ok (.iload 9, 2) := by decide +kernel
theorem dX11_said_123 : decode cX11_said 123 = .ok (.iload_n 1, 1) := by decide +kernel
theorem dX11_said_124 : decode cX11_said 124 = .ok (.invokevirtual 222, 3) := by decide +kernel
theorem dX11_said_127 : decode cX11_said 127 = .ok (.ifCond .eq 7, 3) := by decide +kernel
theorem dX11_said_130 : decode cX11_said 130 = .ok (.lconst 0, 1) := by decide +kernel
theorem dX11_said_131 : decode cX11_said 131 = .ok (.goto 6, 3) := by decide +kernel
theorem dX11_said_134 : decode cX11_said 134 = .ok (.ldc2_w 250, 3) := by decide +kernel
theorem dX11_said_137 : decode cX11_said 137 = .ok (.lmul, 1) := by decide +kernel
theorem dX11_said_138 : decode cX11_said 138 = .ok (.lstore 6, 2) := by decide +kernel
theorem dX11_said_140 : decode cX11_said 140 = .ok (.iinc 8 1, 3) := by decide +kernel
theorem dX11_said_143 : decode cX11_said 143 = .ok (.iinc 9 1, 3) := by decide +kernel
theorem dX11_said_146 : decode cX11_said 146 = .ok (.goto (-95), 3) := by decide +kernel
theorem dX11_said_149 : decode cX11_said 149 = .ok (.lload 4, 2) := by decide +kernel
theorem dX11_said_151 : decode cX11_said 151 = .ok (.lconst 0, 1) := by decide +kernel
theorem dX11_said_152 : decode cX11_said 152 = .ok (.lcmp, 1) := by decide +kernel
theorem dX11_said_153 : decode cX11_said 153 = .ok (.ifCond .ne 6, 3) := by decide +kernel
theorem dX11_said_156 : decode cX11_said 156 = .ok (.iload_n 3, 1) := by decide +kernel
theorem dX11_said_157 : decode cX11_said 157 = .ok (.i2l, 1) := by decide +kernel
theorem dX11_said_158 : decode cX11_said 158 = .ok (.lreturn, 1) := by decide +kernel
theorem dX11_said_159 : decode cX11_said 159 = .ok (.lload 4, 2) := by decide +kernel
theorem dX11_said_161 : decode cX11_said 161 = .ok (.lload 4, 2) := by decide +kernel
theorem dX11_said_163 : decode cX11_said 163 = .ok (.lload 6, 2) := by decide +kernel
theorem dX11_said_165 : decode cX11_said 165 = .ok (.ladd, 1) := by decide +kernel
theorem dX11_said_166 : decode cX11_said 166 = .ok (.invokestatic 252, 3) := by decide +kernel
theorem dX11_said_169 : decode cX11_said 169 = .ok (.lstore 9, 2) := by decide +kernel
theorem dX11_said_171 : decode cX11_said 171 = .ok (.iload_n 3, 1) := by decide +kernel
theorem dX11_said_172 : decode cX11_said 172 = .ok (.ifCond .ne 11, 3) := by decide +kernel
theorem dX11_said_175 : decode cX11_said 175 = .ok (.lload 4, 2) := by decide +kernel
theorem dX11_said_177 : decode cX11_said 177 = .ok (.lload 9, 2) := by decide +kernel
theorem dX11_said_179 : decode cX11_said 179 = .ok (.ldiv, 1) := by decide +kernel
theorem dX11_said_180 : decode cX11_said 180 = .ok (.goto 11, 3) := by decide +kernel
theorem dX11_said_183 : decode cX11_said 183 = .ok (.lload 4, 2) := by decide +kernel
theorem dX11_said_185 : decode cX11_said 185 = .ok (.lload 6, 2) := by decide +kernel
theorem dX11_said_187 : decode cX11_said 187 = .ok (.ladd, 1) := by decide +kernel
theorem dX11_said_188 : decode cX11_said 188 = .ok (.lload 9, 2) := by decide +kernel
theorem dX11_said_190 : decode cX11_said 190 = .ok (.ldiv, 1) := by decide +kernel
theorem dX11_said_191 : decode cX11_said 191 = .ok (.lreturn, 1) := by decide +kernel
theorem dX11_likeOf_0 : decode cX11_likeOf 0 = .ok (.ldc2_w 256, 3) := by decide +kernel
theorem dX11_likeOf_3 : decode cX11_likeOf 3 = .ok (.lstore_n 3, 1) := by decide +kernel
theorem dX11_likeOf_4 : decode cX11_likeOf 4 = .ok (.iconst 0, 1) := by decide +kernel
theorem dX11_likeOf_5 : decode cX11_likeOf 5 = .ok (.istore 5, 2) := by decide +kernel
theorem dX11_likeOf_7 : decode cX11_likeOf 7 = .ok (.iload 5, 2) := by decide +kernel
theorem dX11_likeOf_9 : decode cX11_likeOf 9 = .ok (.aload_n 0, 1) := by decide +kernel
theorem dX11_likeOf_10 : decode cX11_likeOf 10 = .ok (.getfield 85, 3) := by decide +kernel
theorem dX11_likeOf_13 : decode cX11_likeOf 13 = .ok (.if_icmp .ge 46, 3) := by decide +kernel
theorem dX11_likeOf_16 : decode cX11_likeOf 16 = .ok (.aload_n 0, 1) := by decide +kernel
theorem dX11_likeOf_17 : decode cX11_likeOf 17 = .ok (.iload_n 1, 1) := by decide +kernel
theorem dX11_likeOf_18 : decode cX11_likeOf 18 = .ok (.iload 5, 2) := by decide +kernel
theorem dX11_likeOf_20 : decode cX11_likeOf 20 = .ok (.invokevirtual 187, 3) := by decide +kernel
theorem dX11_likeOf_23 : decode cX11_likeOf 23 = .ok (.istore 6, 2) := by decide +kernel
theorem dX11_likeOf_25 : decode cX11_likeOf 25 = .ok (.lload_n 3, 1) := by decide +kernel
theorem dX11_likeOf_26 : decode cX11_likeOf 26 = .ok (.aload_n 0, 1) := by decide +kernel
theorem dX11_likeOf_27 : decode cX11_likeOf 27 = .ok (.iload_n 2, 1) := by decide +kernel
theorem dX11_likeOf_28 : decode cX11_likeOf 28 = .ok (.iload 5, 2) := by decide +kernel
theorem dX11_likeOf_30 : decode cX11_likeOf 30 = .ok (.invokevirtual 222, 3) := by decide +kernel
theorem dX11_likeOf_33 : decode cX11_likeOf 33 = .ok (.ifCond .eq 8, 3) := by decide +kernel
theorem dX11_likeOf_36 : decode cX11_likeOf 36 = .ok (.iload 6, 2) := by decide +kernel
theorem dX11_likeOf_38 : decode cX11_likeOf 38 = .ok (.goto 8, 3) := by decide +kernel
theorem dX11_likeOf_41 : decode cX11_likeOf 41 = .ok (.bipush 100, 2) := by decide +kernel
theorem dX11_likeOf_43 : decode cX11_likeOf 43 = .ok (.iload 6, 2) := by decide +kernel
theorem dX11_likeOf_45 : decode cX11_likeOf 45 = .ok (.isub, 1) := by decide +kernel
theorem dX11_likeOf_46 : decode cX11_likeOf 46 = .ok (.i2l, 1) := by decide +kernel
theorem dX11_likeOf_47 : decode cX11_likeOf 47 = .ok (.lmul, 1) := by decide +kernel
theorem dX11_likeOf_48 : decode cX11_likeOf 48 = .ok (.ldc2_w 250, 3) := by decide +kernel
theorem dX11_likeOf_51 : decode cX11_likeOf 51 = .ok (.ldiv, 1) := by decide +kernel
theorem dX11_likeOf_52 : decode cX11_likeOf 52 = .ok (.lstore_n 3, 1) := by decide +kernel
theorem dX11_likeOf_53 : decode cX11_likeOf 53 = .ok (.iinc 5 1, 3) := by decide +kernel
theorem dX11_likeOf_56 : decode cX11_likeOf 56 = .ok (.goto (-49), 3) := by decide +kernel
theorem dX11_likeOf_59 : decode cX11_likeOf 59 = .ok (.lload_n 3, 1) := by decide +kernel
theorem dX11_likeOf_60 : decode cX11_likeOf 60 = .ok (.lreturn, 1) := by decide +kernel
theorem dX11_whose_0 : decode cX11_whose 0 = .ok (.aload_n 0, 1) := by decide +kernel
theorem dX11_whose_1 : decode cX11_whose 1 = .ok (.iload_n 1, 1) := by decide +kernel
theorem dX11_whose_2 : decode cX11_whose 2 = .ok (.invokevirtual 219, 3) := by decide +kernel
theorem dX11_whose_5 : decode cX11_whose 5 = .ok (.ifCond .ne 5, 3) := by decide +kernel
theorem dX11_whose_8 : decode cX11_whose 8 = .ok (.iconst (-1), 1) := by decide +kernel
theorem dX11_whose_9 : decode cX11_whose 9 = .ok (.ireturn, 1) := by decide +kernel
theorem dX11_whose_10 : decode cX11_whose 10 = .ok (.aload_n 0, 1) := by decide +kernel
theorem dX11_whose_11 : decode cX11_whose 11 = .ok (.getfield 127, 3) := by decide +kernel
theorem dX11_whose_14 : decode cX11_whose 14 = .ok (.ifCond .ne 6, 3) := by decide +kernel
theorem dX11_whose_17 : decode cX11_whose 17 = .ok (.bipush (-5), 2) := by decide +kernel
theorem dX11_whose_19 : decode cX11_whose 19 = .ok (.ireturn, 1) := by decide +kernel
theorem dX11_whose_20 : decode cX11_whose 20 = .ok (.bipush (-2), 2) := by decide +kernel
theorem dX11_whose_22 : decode cX11_whose 22 = .ok (.istore_n 2, 1) := by decide +kernel
theorem dX11_whose_23 : decode cX11_whose 23 = .ok (.lconst 0, 1) := by decide +kernel
theorem dX11_whose_24 : decode cX11_whose 24 = .ok (.lstore_n 3, 1) := by decide +kernel
theorem dX11_whose_25 : decode cX11_whose 25 = .ok (.iconst 0, 1) := by decide +kernel
theorem dX11_whose_26 : decode cX11_whose 26 = .ok (.istore 5, 2) := by decide +kernel
theorem dX11_whose_28 : decode cX11_whose 28 = .ok (.iload 5, 2) := by decide +kernel
theorem dX11_whose_30 : decode cX11_whose 30 = .ok (.aload_n 0, 1) := by decide +kernel
theorem dX11_whose_31 : decode cX11_whose 31 = .ok (.getfield 127, 3) := by decide +kernel
theorem dX11_whose_34 : decode cX11_whose 34 = .ok (.if_icmp .ge 31, 3) := by decide +kernel
theorem dX11_whose_37 : decode cX11_whose 37 = .ok (.aload_n 0, 1) := by decide +kernel
theorem dX11_whose_38 : decode cX11_whose 38 = .ok (.iload 5, 2) := by decide +kernel
theorem dX11_whose_40 : decode cX11_whose 40 = .ok (.iload_n 1, 1) := by decide +kernel
theorem dX11_whose_41 : decode cX11_whose 41 = .ok (.invokevirtual 258, 3) := by decide +kernel
theorem dX11_whose_44 : decode cX11_whose 44 = .ok (.lstore 6, 2) := by decide +kernel
theorem dX11_whose_46 : decode cX11_whose 46 = .ok (.lload 6, 2) := by decide +kernel
theorem dX11_whose_48 : decode cX11_whose 48 = .ok (.lload_n 3, 1) := by decide +kernel
theorem dX11_whose_49 : decode cX11_whose 49 = .ok (.lcmp, 1) := by decide +kernel
theorem dX11_whose_50 : decode cX11_whose 50 = .ok (.ifCond .le 9, 3) := by decide +kernel
theorem dX11_whose_53 : decode cX11_whose 53 = .ok (.iload 5, 2) := by decide +kernel
theorem dX11_whose_55 : decode cX11_whose 55 = .ok (.istore_n 2, 1) := by decide +kernel
theorem dX11_whose_56 : decode cX11_whose 56 = .ok (.lload 6, 2) := by decide +kernel
theorem dX11_whose_58 : decode cX11_whose 58 = .ok (.lstore_n 3, 1) := by decide +kernel
theorem dX11_whose_59 : decode cX11_whose 59 = .ok (.iinc 5 1, 3) := by decide +kernel
theorem dX11_whose_62 : decode cX11_whose 62 = .ok (.goto (-34), 3) := by decide +kernel
theorem dX11_whose_65 : decode cX11_whose 65 = .ok (.iload_n 2, 1) := by decide +kernel
theorem dX11_whose_66 : decode cX11_whose 66 = .ok (.ireturn, 1) := by decide +kernel
theorem dX11_learnt_0 : decode cX11_learnt 0 = .ok (.iload_n 1, 1) := by decide +kernel
theorem dX11_learnt_1 : decode cX11_learnt 1 = .ok (.iconst 1, 1) := by decide +kernel
theorem dX11_learnt_2 : decode cX11_learnt 2 = .ok (.if_icmp .lt 22, 3) := by decide +kernel
theorem dX11_learnt_5 : decode cX11_learnt 5 = .ok (.iload_n 1, 1) := by decide +kernel
theorem dX11_learnt_6 : decode cX11_learnt 6 = .ok (.aload_n 0, 1) := by decide +kernel
theorem dX11_learnt_7 : decode cX11_learnt 7 = .ok (.getfield 190, 3) := by decide +kernel
theorem dX11_learnt_10 : decode cX11_learnt 10 = .ok (.ishr, 1) := by decide +kernel
theorem dX11_learnt_11 : decode cX11_learnt 11 = .ok (.ifCond .ne 13, 3) := by decide +kernel
theorem dX11_learnt_14 : decode cX11_learnt 14 = .ok (.iload_n 2, 1) := by decide +kernel
theorem dX11_learnt_15 : decode cX11_learnt 15 = .ok (.i2l, 1) := by decide +kernel
theorem dX11_learnt_16 : decode cX11_learnt 16 = .ok (.lconst 0, 1) := by decide +kernel
theorem dX11_learnt_17 : decode cX11_learnt 17 = .ok (.lconst 1, 1) := by decide +kernel
theorem dX11_learnt_18 : decode cX11_learnt 18 = .ok (.invokestatic 88, 3) := by decide +kernel
theorem dX11_learnt_21 : decode cX11_learnt 21 = .ok (.ifCond .ne 5, 3) := by decide +kernel
theorem dX11_learnt_24 : decode cX11_learnt 24 = .ok (.iconst (-1), 1) := by decide +kernel
theorem dX11_learnt_25 : decode cX11_learnt 25 = .ok (.ireturn, 1) := by decide +kernel
theorem dX11_learnt_26 : decode cX11_learnt 26 = .ok (.aload_n 0, 1) := by decide +kernel
theorem dX11_learnt_27 : decode cX11_learnt 27 = .ok (.getfield 127, 3) := by decide +kernel
theorem dX11_learnt_30 : decode cX11_learnt 30 = .ok (.ifCond .ne 6, 3) := by decide +kernel
theorem dX11_learnt_33 : decode cX11_learnt 33 = .ok (.bipush (-5), 2) := by decide +kernel
theorem dX11_learnt_35 : decode cX11_learnt 35 = .ok (.ireturn, 1) := by decide +kernel
theorem dX11_learnt_36 : decode cX11_learnt 36 = .ok (.iconst (-1), 1) := by decide +kernel
theorem dX11_learnt_37 : decode cX11_learnt 37 = .ok (.istore_n 3, 1) := by decide +kernel
theorem dX11_learnt_38 : decode cX11_learnt 38 = .ok (.iconst 0, 1) := by decide +kernel
theorem dX11_learnt_39 : decode cX11_learnt 39 = .ok (.istore 4, 2) := by decide +kernel
theorem dX11_learnt_41 : decode cX11_learnt 41 = .ok (.iconst 0, 1) := by decide +kernel
theorem dX11_learnt_42 : decode cX11_learnt 42 = .ok (.istore 5, 2) := by decide +kernel
theorem dX11_learnt_44 : decode cX11_learnt 44 = .ok (.iload 5, 2) := by decide +kernel
theorem dX11_learnt_46 : decode cX11_learnt 46 = .ok (.aload_n 0, 1) := by decide +kernel
theorem dX11_learnt_47 : decode cX11_learnt 47 = .ok (.getfield 127, 3) := by decide +kernel
theorem dX11_learnt_50 : decode cX11_learnt 50 = .ok (.if_icmp .ge 120, 3) := by decide +kernel
theorem dX11_learnt_53 : decode cX11_learnt 53 = .ok (.iconst 0, 1) := by decide +kernel
theorem dX11_learnt_54 : decode cX11_learnt 54 = .ok (.istore 6, 2) := by decide +kernel
theorem dX11_learnt_56 : decode cX11_learnt 56 = .ok (.iconst 0, 1) := by decide +kernel
theorem dX11_learnt_57 : decode cX11_learnt 57 = .ok (.istore 7, 2) := by decide +kernel
theorem dX11_learnt_59 : decode cX11_learnt 59 = .ok (.iload 7, 2) := by decide +kernel
theorem dX11_learnt_61 : decode cX11_learnt 61 = .ok (.aload_n 0, 1) := by decide +kernel
theorem dX11_learnt_62 : decode cX11_learnt 62 = .ok (.getfield 85, 3) := by decide +kernel
theorem dX11_learnt_65 : decode cX11_learnt 65 = .ok (.if_icmp .ge 81, 3) := by decide +kernel
theorem dX11_learnt_68 : decode cX11_learnt 68 = .ok (.iconst 0, 1) := by decide +kernel
theorem dX11_learnt_69 : decode cX11_learnt 69 = .ok (.istore 8, 2) := by decide +kernel
theorem dX11_learnt_71 : decode cX11_learnt 71 = .ok (.iconst 0, 1) := by decide +kernel
theorem dX11_learnt_72 : decode cX11_learnt 72 = .ok (.istore 9, 2) := by decide +kernel
theorem dX11_learnt_74 : decode cX11_learnt 74 = .ok (.iload 9, 2) := by decide +kernel
theorem dX11_learnt_76 : decode cX11_learnt 76 = .ok (.aload_n 0, 1) := by decide +kernel
theorem dX11_learnt_77 : decode cX11_learnt 77 = .ok (.getfield 190, 3) := by decide +kernel
theorem dX11_learnt_80 : decode cX11_learnt 80 = .ok (.if_icmp .ge 50, 3) := by decide +kernel
theorem dX11_learnt_83 : decode cX11_learnt 83 = .ok (.iload_n 1, 1) := by decide +kernel
theorem dX11_learnt_84 : decode cX11_learnt 84 = .ok (.iload 9, 2) := by decide +kernel
theorem dX11_learnt_86 : decode cX11_learnt 86 = .ok (.ishr, 1) := by decide +kernel
theorem dX11_learnt_87 : decode cX11_learnt 87 = .ok (.iconst 1, 1) := by decide +kernel
theorem dX11_learnt_88 : decode cX11_learnt 88 = .ok (.iand, 1) := by decide +kernel
theorem dX11_learnt_89 : decode cX11_learnt 89 = .ok (.iconst 1, 1) := by decide +kernel
theorem dX11_learnt_90 : decode cX11_learnt 90 = .ok (.if_icmp .ne 34, 3) := by decide +kernel
theorem dX11_learnt_93 : decode cX11_learnt 93 = .ok (.iload 8, 2) := by decide +kernel
theorem dX11_learnt_95 : decode cX11_learnt 95 = .ok (.aload_n 0, 1) := by decide +kernel
theorem dX11_learnt_96 : decode cX11_learnt 96 = .ok (.iload 5, 2) := by decide +kernel
theorem dX11_learnt_98 : decode cX11_learnt 98 = .ok (.iload 7, 2) := by decide +kernel
theorem dX11_learnt_100 : decode cX11_learnt 100 = .ok (.invokevirtual 187, 3) := by decide +kernel
theorem dX11_learnt_103 : decode cX11_learnt 103 = .ok (.aload_n 0, 1) := by decide +kernel
theorem dX11_learnt_104 : decode cX11_learnt 104 = .ok (.iload 9, 2) := by decide +kernel
theorem dX11_learnt_106 : decode cX11_learnt 106 = .ok (.iload 7, 2) := by decide +kernel
theorem dX11_learnt_108 : decode cX11_learnt 108 = .ok (.invokevirtual 222, 3) := by decide +kernel
theorem dX11_learnt_111 : decode cX11_learnt 111 = .ok (.ifCond .eq 8, 3) := by decide +kernel
theorem dX11_learnt_114 : decode cX11_learnt 114 = .ok (.bipush 100, 2) := by decide +kernel
theorem dX11_learnt_116 : decode cX11_learnt 116 = .ok (.goto 4, 3) := by decide +kernel
theorem dX11_learnt_119 : decode cX11_learnt 119 = .ok (.iconst 0, 1) := by decide +kernel
theorem dX11_learnt_120 : decode cX11_learnt 120 = .ok (.isub, 1) := by decide +kernel
theorem dX11_learnt_121 : decode cX11_learnt 121 = .ok (.iadd, 1) := by decide +kernel
theorem dX11_learnt_122 : decode cX11_learnt 122 = .ok (.istore 8, 2) := by decide +kernel
theorem dX11_learnt_124 : decode cX11_learnt 124 = .ok (.iinc 9 1, 3) := by decide +kernel
theorem dX11_learnt_127 : decode cX11_learnt 127 = .ok (.goto (-53), 3) := by decide +kernel
theorem dX11_learnt_130 : decode cX11_learnt 130 = .ok (.iload 6, 2) := by decide +kernel
theorem dX11_learnt_132 : decode cX11_learnt 132 = .ok (.iload 8, 2) := by decide +kernel
theorem dX11_learnt_134 : decode cX11_learnt 134 = .ok (.invokestatic 262, 3) := by decide +kernel
theorem dX11_learnt_137 : decode cX11_learnt 137 = .ok (.iadd, 1) := by decide +kernel
theorem dX11_learnt_138 : decode cX11_learnt 138 = .ok (.istore 6, 2) := by decide +kernel
theorem dX11_learnt_140 : decode cX11_learnt 140 = .ok (.iinc 7 1, 3) := by decide +kernel
theorem dX11_learnt_143 : decode cX11_learnt 143 = .ok (.goto (-84), 3) := by decide +kernel
theorem dX11_learnt_146 : decode cX11_learnt 146 = .ok (.iload_n 3, 1) := by decide +kernel
theorem dX11_learnt_147 : decode cX11_learnt 147 = .ok (.ifCond .lt 10, 3) := by decide +kernel
theorem dX11_learnt_150 : decode cX11_learnt 150 = .ok (.iload 6, 2) := by decide +kernel
theorem dX11_learnt_152 : decode cX11_learnt 152 = .ok (.iload 4, 2) := by decide +kernel
theorem dX11_learnt_154 : decode cX11_learnt 154 = .ok (.if_icmp .ge 10, 3) := by decide +kernel
theorem dX11_learnt_157 : decode cX11_learnt 157 = .ok (.iload 5, 2) := by decide +kernel
theorem dX11_learnt_159 : decode cX11_learnt 159 = .ok (.istore_n 3, 1) := by decide +kernel
theorem dX11_learnt_160 : decode cX11_learnt 160 = .ok (.iload 6, 2) := by decide +kernel
theorem dX11_learnt_162 : decode cX11_learnt 162 = .ok (.istore 4, 2) := by decide +kernel
theorem dX11_learnt_164 : decode cX11_learnt 164 = .ok (.iinc 5 1, 3) := by decide +kernel
theorem dX11_learnt_167 : decode cX11_learnt 167 = .ok (.goto (-123), 3) := by decide +kernel
theorem dX11_learnt_170 : decode cX11_learnt 170 = .ok (.iload_n 2, 1) := by decide +kernel
theorem dX11_learnt_171 : decode cX11_learnt 171 = .ok (.ifCond .ne 7, 3) := by decide +kernel
theorem dX11_learnt_174 : decode cX11_learnt 174 = .ok (.iload_n 3, 1) := by decide +kernel
theorem dX11_learnt_175 : decode cX11_learnt 175 = .ok (.goto 5, 3) := by decide +kernel
theorem dX11_learnt_178 : decode cX11_learnt 178 = .ok (.iload 4, 2) := by decide +kernel
theorem dX11_learnt_180 : decode cX11_learnt 180 = .ok (.ireturn, 1) := by decide +kernel
theorem dX11_asleep_0 : decode cX11_asleep 0 = .ok (.aload_n 0, 1) := by decide +kernel
theorem dX11_asleep_1 : decode cX11_asleep 1 = .ok (.iload_n 1, 1) := by decide +kernel
theorem dX11_asleep_2 : decode cX11_asleep 2 = .ok (.invokevirtual 219, 3) := by decide +kernel
theorem dX11_asleep_5 : decode cX11_asleep 5 = .ok (.ifCond .eq 13, 3) := by decide +kernel
theorem dX11_asleep_8 : decode cX11_asleep 8 = .ok (.iload_n 2, 1) := by decide +kernel
theorem dX11_asleep_9 : decode cX11_asleep 9 = .ok (.i2l, 1) := by decide +kernel
theorem dX11_asleep_10 : decode cX11_asleep 10 = .ok (.lconst 0, 1) := by decide +kernel
theorem dX11_asleep_11 : decode cX11_asleep 11 = .ok (.lconst 1, 1) := by decide +kernel
theorem dX11_asleep_12 : decode cX11_asleep 12 = .ok (.invokestatic 88, 3) := by decide +kernel
theorem dX11_asleep_15 : decode cX11_asleep 15 = .ok (.ifCond .ne 5, 3) := by decide +kernel
theorem dX11_asleep_18 : decode cX11_asleep 18 = .ok (.iconst (-1), 1) := by decide +kernel
theorem dX11_asleep_19 : decode cX11_asleep 19 = .ok (.ireturn, 1) := by decide +kernel
theorem dX11_asleep_20 : decode cX11_asleep 20 = .ok (.iconst 0, 1) := by decide +kernel
theorem dX11_asleep_21 : decode cX11_asleep 21 = .ok (.istore_n 3, 1) := by decide +kernel
theorem dX11_asleep_22 : decode cX11_asleep 22 = .ok (.iconst 0, 1) := by decide +kernel
theorem dX11_asleep_23 : decode cX11_asleep 23 = .ok (.istore 4, 2) := by decide +kernel
theorem dX11_asleep_25 : decode cX11_asleep 25 = .ok (.iconst 0, 1) := by decide +kernel
theorem dX11_asleep_26 : decode cX11_asleep 26 = .ok (.istore 5, 2) := by decide +kernel
theorem dX11_asleep_28 : decode cX11_asleep 28 = .ok (.iconst 0, 1) := by decide +kernel
theorem dX11_asleep_29 : decode cX11_asleep 29 = .ok (.istore 6, 2) := by decide +kernel
theorem dX11_asleep_31 : decode cX11_asleep 31 = .ok (.iconst 0, 1) := by decide +kernel
theorem dX11_asleep_32 : decode cX11_asleep 32 = .ok (.istore 7, 2) := by decide +kernel
theorem dX11_asleep_34 : decode cX11_asleep 34 = .ok (.iload 7, 2) := by decide +kernel
theorem dX11_asleep_36 : decode cX11_asleep 36 = .ok (.aload_n 0, 1) := by decide +kernel
theorem dX11_asleep_37 : decode cX11_asleep 37 = .ok (.getfield 85, 3) := by decide +kernel
theorem dX11_asleep_40 : decode cX11_asleep 40 = .ok (.if_icmp .ge 63, 3) := by decide +kernel
theorem dX11_asleep_43 : decode cX11_asleep 43 = .ok (.aload_n 0, 1) := by decide +kernel
theorem dX11_asleep_44 : decode cX11_asleep 44 = .ok (.iload_n 1, 1) := by decide +kernel
theorem dX11_asleep_45 : decode cX11_asleep 45 = .ok (.iload 7, 2) := by decide +kernel
theorem dX11_asleep_47 : decode cX11_asleep 47 = .ok (.invokevirtual 222, 3) := by decide +kernel
theorem dX11_asleep_50 : decode cX11_asleep 50 = .ok (.ifCond .eq 15, 3) := by decide +kernel
theorem dX11_asleep_53 : decode cX11_asleep 53 = .ok (.iconst 0, 1) := by decide +kernel
theorem dX11_asleep_54 : decode cX11_asleep 54 = .ok (.istore 5, 2) := by decide +kernel
theorem dX11_asleep_56 : decode cX11_asleep 56 = .ok (.iload 7, 2) := by decide +kernel
theorem dX11_asleep_58 : decode cX11_asleep 58 = .ok (.iconst 1, 1) := by decide +kernel
theorem dX11_asleep_59 : decode cX11_asleep 59 = .ok (.iadd, 1) := by decide +kernel
theorem dX11_asleep_60 : decode cX11_asleep 60 = .ok (.istore 6, 2) := by decide +kernel
theorem dX11_asleep_62 : decode cX11_asleep 62 = .ok (.goto 35, 3) := by decide +kernel
theorem dX11_asleep_65 : decode cX11_asleep 65 = .ok (.iload 5, 2) := by decide +kernel
theorem dX11_asleep_67 : decode cX11_asleep 67 = .ok (.aload_n 0, 1) := by decide +kernel
theorem dX11_asleep_68 : decode cX11_asleep 68 = .ok (.getfield 9, 3) := by decide +kernel
theorem dX11_asleep_71 : decode cX11_asleep 71 = .ok (.bipush 48, 2) := by decide +kernel
theorem dX11_asleep_73 : decode cX11_asleep 73 = .ok (.iload 7, 2) := by decide +kernel
theorem dX11_asleep_75 : decode cX11_asleep 75 = .ok (.iadd, 1) := by decide +kernel
theorem dX11_asleep_76 : decode cX11_asleep 76 = .ok (.iaload, 1) := by decide +kernel
theorem dX11_asleep_77 : decode cX11_asleep 77 = .ok (.iadd, 1) := by decide +kernel
theorem dX11_asleep_78 : decode cX11_asleep 78 = .ok (.istore 5, 2) := by decide +kernel
theorem dX11_asleep_80 : decode cX11_asleep 80 = .ok (.iload 5, 2) := by decide +kernel
theorem dX11_asleep_82 : decode cX11_asleep 82 = .ok (.iload_n 3, 1) := by decide +kernel
theorem dX11_asleep_83 : decode cX11_asleep 83 = .ok (.if_icmp .le 14, 3) := by decide +kernel
theorem dX11_asleep_86 : decode cX11_asleep 86 = .ok (.iload 5, 2) := by decide +kernel
theorem dX11_asleep_88 : decode cX11_asleep 88 = .ok (.istore_n 3, 1) := by decide +kernel
theorem dX11_asleep_89 : decode cX11_asleep 89 = .ok (.aload_n 0, 1) := by decide +kernel
theorem dX11_asleep_90 : decode cX11_asleep 90 = .ok (.iload 6, 2) := by decide +kernel
theorem dX11_asleep_92 : decode cX11_asleep 92 = .ok (.invokevirtual 123, 3) := by decide +kernel
theorem dX11_asleep_95 : decode cX11_asleep 95 = .ok (.istore 4, 2) := by decide +kernel
theorem dX11_asleep_97 : decode cX11_asleep 97 = .ok (.iinc 7 1, 3) := by decide +kernel
theorem dX11_asleep_100 : decode cX11_asleep 100 = .ok (.goto (-66), 3) := by decide +kernel
theorem dX11_asleep_103 : decode cX11_asleep 103 = .ok (.iload_n 2, 1) := by decide +kernel
theorem dX11_asleep_104 : decode cX11_asleep 104 = .ok (.ifCond .ne 8, 3) := by decide +kernel
theorem dX11_asleep_107 : decode cX11_asleep 107 = .ok (.iload 4, 2) := by decide +kernel
theorem dX11_asleep_109 : decode cX11_asleep 109 = .ok (.goto 4, 3) := by decide +kernel
theorem dX11_asleep_112 : decode cX11_asleep 112 = .ok (.iload_n 3, 1) := by decide +kernel
theorem dX11_asleep_113 : decode cX11_asleep 113 = .ok (.ireturn, 1) := by decide +kernel
theorem dX11_ask_0 : decode cX11_ask 0 = .ok (.iload_n 1, 1) := by decide +kernel
theorem dX11_ask_1 : decode cX11_ask 1 = .ok (.i2l, 1) := by decide +kernel
theorem dX11_ask_2 : decode cX11_ask 2 = .ok (.lconst 0, 1) := by decide +kernel
theorem dX11_ask_3 : decode cX11_ask 3 = .ok (.lconst 1, 1) := by decide +kernel
theorem dX11_ask_4 : decode cX11_ask 4 = .ok (.invokestatic 88, 3) := by decide +kernel
theorem dX11_ask_7 : decode cX11_ask 7 = .ok (.ifCond .ne 5, 3) := by decide +kernel
theorem dX11_ask_10 : decode cX11_ask 10 = .ok (.iconst (-1), 1) := by decide +kernel
theorem dX11_ask_11 : decode cX11_ask 11 = .ok (.ireturn, 1) := by decide +kernel
theorem dX11_ask_12 : decode cX11_ask 12 = .ok (.aload_n 0, 1) := by decide +kernel
theorem dX11_ask_13 : decode cX11_ask 13 = .ok (.getfield 127, 3) := by decide +kernel
theorem dX11_ask_16 : decode cX11_ask 16 = .ok (.iconst 2, 1) := by decide +kernel
theorem dX11_ask_17 : decode cX11_ask 17 = .ok (.if_icmp .ge 6, 3) := by decide +kernel
theorem dX11_ask_20 : decode cX11_ask 20 = .ok (.bipush (-5), 2) := by decide +kernel
theorem dX11_ask_22 : decode cX11_ask 22 = .ok (.ireturn, 1) := by decide +kernel
theorem dX11_ask_23 : decode cX11_ask 23 = .ok (.iconst (-1), 1) := by decide +kernel
theorem dX11_ask_24 : decode cX11_ask 24 = .ok (.istore_n 2, 1) := by decide +kernel
theorem dX11_ask_25 : decode cX11_ask 25 = .ok (.iconst 0, 1) := by decide +kernel
theorem dX11_ask_26 : decode cX11_ask 26 = .ok (.istore_n 3, 1) := by decide +kernel
theorem dX11_ask_27 : decode cX11_ask 27 = .ok (.iconst 0, 1) := by decide +kernel
theorem dX11_ask_28 : decode cX11_ask 28 = .ok (.istore 4, 2) := by decide +kernel
theorem dX11_ask_30 : decode cX11_ask 30 = .ok (.iload 4, 2) := by decide +kernel
theorem dX11_ask_32 : decode cX11_ask 32 = .ok (.aload_n 0, 1) := by decide +kernel
theorem dX11_ask_33 : decode cX11_ask 33 = .ok (.getfield 127, 3) := by decide +kernel
theorem dX11_ask_36 : decode cX11_ask 36 = .ok (.if_icmp .ge 105, 3) := by decide +kernel
theorem dX11_ask_39 : decode cX11_ask 39 = .ok (.iload 4, 2) := by decide +kernel
theorem dX11_ask_41 : decode cX11_ask 41 = .ok (.iconst 1, 1) := by decide +kernel
theorem dX11_ask_42 : decode cX11_ask 42 = .ok (.iadd, 1) := by decide +kernel
theorem dX11_ask_43 : decode cX11_ask 43 = .ok (.istore 5, 2) := by decide +kernel
theorem dX11_ask_45 : decode cX11_ask 45 = .ok (.iload 5, 2) := by decide +kernel
theorem dX11_ask_47 : decode cX11_ask 47 = .ok (.aload_n 0, 1) := by decide +kernel
theorem dX11_ask_48 : decode cX11_ask 48 = .ok (.getfield 127, 3) := by decide +kernel
theorem dX11_ask_51 : decode cX11_ask 51 = .ok (.if_icmp .ge 84, 3) := by decide +kernel
theorem dX11_ask_54 : decode cX11_ask 54 = .ok (.iconst 0, 1) := by decide +kernel
theorem dX11_ask_55 : decode cX11_ask 55 = .ok (.istore 6, 2) := by decide +kernel
theorem dX11_ask_57 : decode cX11_ask 57 = .ok (.iconst 0, 1) := by decide +kernel
theorem dX11_ask_58 : decode cX11_ask 58 = .ok (.istore 7, 2) := by decide +kernel
theorem dX11_ask_60 : decode cX11_ask 60 = .ok (.iload 7, 2) := by decide +kernel
theorem dX11_ask_62 : decode cX11_ask 62 = .ok (.aload_n 0, 1) := by decide +kernel
theorem dX11_ask_63 : decode cX11_ask 63 = .ok (.getfield 85, 3) := by decide +kernel
theorem dX11_ask_66 : decode cX11_ask 66 = .ok (.if_icmp .ge 41, 3) := by decide +kernel
theorem dX11_ask_69 : decode cX11_ask 69 = .ok (.iload 6, 2) := by decide +kernel
theorem dX11_ask_71 : decode cX11_ask 71 = .ok (.sipush 10000, 3) := by decide +kernel
theorem dX11_ask_74 : decode cX11_ask 74 = .ok (.bipush 100, 2) := by decide +kernel
theorem dX11_ask_76 : decode cX11_ask 76 = .ok (.aload_n 0, 1) := by decide +kernel
theorem dX11_ask_77 : decode cX11_ask 77 = .ok (.iload 4, 2) := by decide +kernel
theorem dX11_ask_79 : decode cX11_ask 79 = .ok (.iload 7, 2) := by decide +kernel
theorem dX11_ask_81 : decode cX11_ask 81 = .ok (.invokevirtual 187, 3) := by decide +kernel
theorem dX11_ask_84 : decode cX11_ask 84 = .ok (.isub, 1) := by decide +kernel
theorem dX11_ask_85 : decode cX11_ask 85 = .ok (.bipush 100, 2) := by decide +kernel
theorem dX11_ask_87 : decode cX11_ask 87 = .ok (.aload_n 0, 1) := by decide +kernel
theorem dX11_ask_88 : decode cX11_ask 88 = .ok (.iload 5, 2) := by decide +kernel
theorem dX11_ask_90 : decode cX11_ask 90 = .ok (.iload 7, 2) := by decide +kernel
theorem dX11_ask_92 : decode cX11_ask 92 = .ok (.invokevirtual 187, 3) := by decide +kernel
theorem dX11_ask_95 : decode cX11_ask 95 = .ok (.isub, 1) := by decide +kernel
theorem dX11_ask_96 : decode cX11_ask 96 = .ok (.imul, 1) := by decide +kernel
theorem dX11_ask_97 : decode cX11_ask 97 = .ok (.isub, 1) := by decide +kernel
theorem dX11_ask_98 : decode cX11_ask 98 = .ok (.iadd, 1) := by decide +kernel
theorem dX11_ask_99 : decode cX11_ask 99 = .ok (.istore 6, 2) := by decide +kernel
theorem dX11_ask_101 : decode cX11_ask 101 = .ok (.iinc 7 1, 3) := by decide +kernel
theorem dX11_ask_104 : decode cX11_ask 104 = .ok (.goto (-44), 3) := by decide +kernel
theorem dX11_ask_107 : decode cX11_ask 107 = .ok (.iload_n 2, 1) := by decide +kernel
theorem dX11_ask_108 : decode cX11_ask 108 = .ok (.ifCond .lt 9, 3) := by decide +kernel
theorem dX11_ask_111 : decode cX11_ask 111 = .ok (.iload 6, 2) := by decide +kernel
theorem dX11_ask_113 : decode cX11_ask 113 = .ok (.iload_n 3, 1) := by decide +kernel
theorem dX11_ask_114 : decode cX11_ask 114 = .ok (.if_icmp .le 15, 3) := by decide +kernel
theorem dX11_ask_117 : decode cX11_ask 117 = .ok (.bipush 10, 2) := by decide +kernel
theorem dX11_ask_119 : decode cX11_ask 119 = .ok (.iload 4, 2) := by decide +kernel
theorem dX11_ask_121 : decode cX11_ask 121 = .ok (.imul, 1) := by decide +kernel
theorem dX11_ask_122 : decode cX11_ask 122 = .ok (.iload 5, 2) := by decide +kernel
theorem dX11_ask_124 : decode cX11_ask 124 = .ok (.iadd, 1) := by decide +kernel
theorem dX11_ask_125 : decode cX11_ask 125 = .ok (.istore_n 2, 1) := by decide +kernel
theorem dX11_ask_126 : decode cX11_ask 126 = .ok (.iload 6, 2) := by decide +kernel
theorem dX11_ask_128 : decode cX11_ask 128 = .ok (.istore_n 3, 1) := by decide +kernel
theorem dX11_ask_129 : decode cX11_ask 129 = .ok (.iinc 5 1, 3) := by decide +kernel
theorem dX11_ask_132 : decode cX11_ask 132 = .ok (.goto (-87), 3) := by decide +kernel
theorem dX11_ask_135 : decode cX11_ask 135 = .ok (.iinc 4 1, 3) := by decide +kernel
theorem dX11_ask_138 : decode cX11_ask 138 = .ok (.goto (-108), 3) := by decide +kernel
theorem dX11_ask_141 : decode cX11_ask 141 = .ok (.iload_n 1, 1) := by decide +kernel
theorem dX11_ask_142 : decode cX11_ask 142 = .ok (.ifCond .ne 7, 3) := by decide +kernel
theorem dX11_ask_145 : decode cX11_ask 145 = .ok (.iload_n 2, 1) := by decide +kernel
theorem dX11_ask_146 : decode cX11_ask 146 = .ok (.goto 4, 3) := by decide +kernel
theorem dX11_ask_149 : decode cX11_ask 149 = .ok (.iload_n 3, 1) := by decide +kernel
theorem dX11_ask_150 : decode cX11_ask 150 = .ok (.ireturn, 1) := by decide +kernel
theorem dX11_years_0 : decode cX11_years 0 = .ok (.aload_n 0, 1) := by decide +kernel
theorem dX11_years_1 : decode cX11_years 1 = .ok (.iload_n 1, 1) := by decide +kernel
theorem dX11_years_2 : decode cX11_years 2 = .ok (.invokevirtual 184, 3) := by decide +kernel
theorem dX11_years_5 : decode cX11_years 5 = .ok (.ifCond .eq 15, 3) := by decide +kernel
theorem dX11_years_8 : decode cX11_years 8 = .ok (.iload_n 2, 1) := by decide +kernel
theorem dX11_years_9 : decode cX11_years 9 = .ok (.i2l, 1) := by decide +kernel
theorem dX11_years_10 : decode cX11_years 10 = .ok (.lconst 0, 1) := by decide +kernel
theorem dX11_years_11 : decode cX11_years 11 = .ok (.ldc2_w 244, 3) := by decide +kernel
theorem dX11_years_14 : decode cX11_years 14 = .ok (.invokestatic 88, 3) := by decide +kernel
theorem dX11_years_17 : decode cX11_years 17 = .ok (.ifCond .ne 5, 3) := by decide +kernel
theorem dX11_years_20 : decode cX11_years 20 = .ok (.iconst (-1), 1) := by decide +kernel
theorem dX11_years_21 : decode cX11_years 21 = .ok (.ireturn, 1) := by decide +kernel
theorem dX11_years_22 : decode cX11_years 22 = .ok (.iconst 0, 1) := by decide +kernel
theorem dX11_years_23 : decode cX11_years 23 = .ok (.istore_n 3, 1) := by decide +kernel
theorem dX11_years_24 : decode cX11_years 24 = .ok (.iconst 0, 1) := by decide +kernel
theorem dX11_years_25 : decode cX11_years 25 = .ok (.istore 4, 2) := by decide +kernel
theorem dX11_years_27 : decode cX11_years 27 = .ok (.iload 4, 2) := by decide +kernel
theorem dX11_years_29 : decode cX11_years 29 = .ok (.aload_n 0, 1) := by decide +kernel
theorem dX11_years_30 : decode cX11_years 30 = .ok (.getfield 85, 3) := by decide +kernel
theorem dX11_years_33 : decode cX11_years 33 = .ok (.if_icmp .ge 27, 3) := by decide +kernel
theorem dX11_years_36 : decode cX11_years 36 = .ok (.iload_n 3, 1) := by decide +kernel
theorem dX11_years_37 : decode cX11_years 37 = .ok (.aload_n 0, 1) := by decide +kernel
theorem dX11_years_38 : decode cX11_years 38 = .ok (.iload_n 1, 1) := by decide +kernel
theorem dX11_years_39 : decode cX11_years 39 = .ok (.iload 4, 2) := by decide +kernel
theorem dX11_years_41 : decode cX11_years 41 = .ok (.invokevirtual 187, 3) := by decide +kernel
theorem dX11_years_44 : decode cX11_years 44 = .ok (.bipush 100, 2) := by decide +kernel
theorem dX11_years_46 : decode cX11_years 46 = .ok (.iload_n 2, 1) := by decide +kernel
theorem dX11_years_47 : decode cX11_years 47 = .ok (.isub, 1) := by decide +kernel
theorem dX11_years_48 : decode cX11_years 48 = .ok (.imul, 1) := by decide +kernel
theorem dX11_years_49 : decode cX11_years 49 = .ok (.bipush 100, 2) := by decide +kernel
theorem dX11_years_51 : decode cX11_years 51 = .ok (.idiv, 1) := by decide +kernel
theorem dX11_years_52 : decode cX11_years 52 = .ok (.iadd, 1) := by decide +kernel
theorem dX11_years_53 : decode cX11_years 53 = .ok (.istore_n 3, 1) := by decide +kernel
theorem dX11_years_54 : decode cX11_years 54 = .ok (.iinc 4 1, 3) := by decide +kernel
theorem dX11_years_57 : decode cX11_years 57 = .ok (.goto (-30), 3) := by decide +kernel
theorem dX11_years_60 : decode cX11_years 60 = .ok (.iload_n 3, 1) := by decide +kernel
theorem dX11_years_61 : decode cX11_years 61 = .ok (.ireturn, 1) := by decide +kernel
theorem dX11_isBody_0 : decode cX11_isBody 0 = .ok (.iload_n 1, 1) := by decide +kernel
theorem dX11_isBody_1 : decode cX11_isBody 1 = .ok (.i2l, 1) := by decide +kernel
theorem dX11_isBody_2 : decode cX11_isBody 2 = .ok (.lconst 0, 1) := by decide +kernel
theorem dX11_isBody_3 : decode cX11_isBody 3 = .ok (.aload_n 0, 1) := by decide +kernel
theorem dX11_isBody_4 : decode cX11_isBody 4 = .ok (.getfield 265, 3) := by decide +kernel
theorem dX11_isBody_7 : decode cX11_isBody 7 = .ok (.iconst 1, 1) := by decide +kernel
theorem dX11_isBody_8 : decode cX11_isBody 8 = .ok (.isub, 1) := by decide +kernel
theorem dX11_isBody_9 : decode cX11_isBody 9 = .ok (.i2l, 1) := by decide +kernel
theorem dX11_isBody_10 : decode cX11_isBody 10 = .ok (.invokestatic 88, 3) := by decide +kernel
theorem dX11_isBody_13 : decode cX11_isBody 13 = .ok (.ireturn, 1) := by decide +kernel
theorem dX11_kindOf_0 : decode cX11_kindOf 0 = .ok (.aload_n 0, 1) := by decide +kernel
theorem dX11_kindOf_1 : decode cX11_kindOf 1 = .ok (.getfield 59, 3) := by decide +kernel
theorem dX11_kindOf_4 : decode cX11_kindOf 4 = .ok (.iload_n 1, 1) := by decide +kernel
theorem dX11_kindOf_5 : decode cX11_kindOf 5 = .ok (.iaload, 1) := by decide +kernel
theorem dX11_kindOf_6 : decode cX11_kindOf 6 = .ok (.ireturn, 1) := by decide +kernel
theorem dX11_body_0 : decode cX11_body 0 = .ok (.iload_n 1, 1) := by decide +kernel
theorem dX11_body_1 : decode cX11_body 1 = .ok (.i2l, 1) := by decide +kernel
theorem dX11_body_2 : decode cX11_body 2 = .ok (.lconst 0, 1) := by decide +kernel
theorem dX11_body_3 : decode cX11_body 3 = .ok (.ldc2_w 96, 3) := by decide +kernel
theorem dX11_body_6 : decode cX11_body 6 = .ok (.invokestatic 88, 3) := by decide +kernel
theorem dX11_body_9 : decode cX11_body 9 = .ok (.ifCond .ne 5, 3) := by decide +kernel
theorem dX11_body_12 : decode cX11_body 12 = .ok (.iconst (-1), 1) := by decide +kernel
theorem dX11_body_13 : decode cX11_body 13 = .ok (.ireturn, 1) := by decide +kernel
theorem dX11_body_14 : decode cX11_body 14 = .ok (.aload_n 0, 1) := by decide +kernel
theorem dX11_body_15 : decode cX11_body 15 = .ok (.getfield 265, 3) := by decide +kernel
theorem dX11_body_18 : decode cX11_body 18 = .ok (.bipush 50, 2) := by decide +kernel
theorem dX11_body_20 : decode cX11_body 20 = .ok (.if_icmp .ne 6, 3) := by decide +kernel
theorem dX11_body_23 : decode cX11_body 23 = .ok (.bipush (-3), 2) := by decide +kernel
theorem dX11_body_25 : decode cX11_body 25 = .ok (.ireturn, 1) := by decide +kernel
theorem dX11_body_26 : decode cX11_body 26 = .ok (.aload_n 0, 1) := by decide +kernel
theorem dX11_body_27 : decode cX11_body 27 = .ok (.getfield 59, 3) := by decide +kernel
theorem dX11_body_30 : decode cX11_body 30 = .ok (.aload_n 0, 1) := by decide +kernel
theorem dX11_body_31 : decode cX11_body 31 = .ok (.getfield 265, 3) := by decide +kernel
theorem dX11_body_34 : decode cX11_body 34 = .ok (.iload_n 1, 1) := by decide +kernel
theorem dX11_body_35 : decode cX11_body 35 = .ok (.iastore, 1) := by decide +kernel
theorem dX11_body_36 : decode cX11_body 36 = .ok (.aload_n 0, 1) := by decide +kernel
theorem dX11_body_37 : decode cX11_body 37 = .ok (.dup, 1) := by decide +kernel
theorem dX11_body_38 : decode cX11_body 38 = .ok (.getfield 265, 3) := by decide +kernel
theorem dX11_body_41 : decode cX11_body 41 = .ok (.iconst 1, 1) := by decide +kernel
theorem dX11_body_42 : decode cX11_body 42 = .ok (.iadd, 1) := by decide +kernel
theorem dX11_body_43 : decode cX11_body 43 = .ok (.putfield 265, 3) := by decide +kernel
theorem dX11_body_46 : decode cX11_body 46 = .ok (.aload_n 0, 1) := by decide +kernel
theorem dX11_body_47 : decode cX11_body 47 = .ok (.getfield 265, 3) := by decide +kernel
theorem dX11_body_50 : decode cX11_body 50 = .ok (.iconst 1, 1) := by decide +kernel
theorem dX11_body_51 : decode cX11_body 51 = .ok (.isub, 1) := by decide +kernel
theorem dX11_body_52 : decode cX11_body 52 = .ok (.ireturn, 1) := by decide +kernel
theorem dX11_above_0 : decode cX11_above 0 = .ok (.iload_n 0, 1) := by decide +kernel
theorem dX11_above_1 : decode cX11_above 1 = .ok (.iconst 2, 1) := by decide +kernel
theorem dX11_above_2 : decode cX11_above 2 = .ok (.if_icmp .eq 8, 3) := by decide +kernel
theorem dX11_above_5 : decode cX11_above 5 = .ok (.iload_n 0, 1) := by decide +kernel
theorem dX11_above_6 : decode cX11_above 6 = .ok (.iconst 3, 1) := by decide +kernel
theorem dX11_above_7 : decode cX11_above 7 = .ok (.if_icmp .ne 7, 3) := by decide +kernel
theorem dX11_above_10 : decode cX11_above 10 = .ok (.iconst 1, 1) := by decide +kernel
theorem dX11_above_11 : decode cX11_above 11 = .ok (.goto 23, 3) := by decide +kernel
theorem dX11_above_14 : decode cX11_above 14 = .ok (.iload_n 0, 1) := by decide +kernel
theorem dX11_above_15 : decode cX11_above 15 = .ok (.iconst 5, 1) := by decide +kernel
theorem dX11_above_16 : decode cX11_above 16 = .ok (.if_icmp .ne 7, 3) := by decide +kernel
theorem dX11_above_19 : decode cX11_above 19 = .ok (.iconst 3, 1) := by decide +kernel
theorem dX11_above_20 : decode cX11_above 20 = .ok (.goto 14, 3) := by decide +kernel
theorem dX11_above_23 : decode cX11_above 23 = .ok (.iload_n 0, 1) := by decide +kernel
theorem dX11_above_24 : decode cX11_above 24 = .ok (.bipush 7, 2) := by decide +kernel
theorem dX11_above_26 : decode cX11_above 26 = .ok (.if_icmp .ne 7, 3) := by decide +kernel
theorem dX11_above_29 : decode cX11_above 29 = .ok (.iconst 2, 1) := by decide +kernel
theorem dX11_above_30 : decode cX11_above 30 = .ok (.goto 4, 3) := by decide +kernel
theorem dX11_above_33 : decode cX11_above 33 = .ok (.iconst 0, 1) := by decide +kernel
theorem dX11_above_34 : decode cX11_above 34 = .ok (.ireturn, 1) := by decide +kernel
theorem dX11_begins_0 : decode cX11_begins 0 = .ok (.aload_n 0, 1) := by decide +kernel
theorem dX11_begins_1 : decode cX11_begins 1 = .ok (.getfield 268, 3) := by decide +kernel
theorem dX11_begins_4 : decode cX11_begins 4 = .ok (.bipush 24, 2) := by decide +kernel
theorem dX11_begins_6 : decode cX11_begins 6 = .ok (.if_icmp .ge 13, 3) := by decide +kernel
theorem dX11_begins_9 : decode cX11_begins 9 = .ok (.aload_n 0, 1) := by decide +kernel
theorem dX11_begins_10 : decode cX11_begins 10 = .ok (.getfield 62, 3) := by decide +kernel
theorem dX11_begins_13 : decode cX11_begins 13 = .ok (.aload_n 0, 1) := by decide +kernel
theorem dX11_begins_14 : decode cX11_begins 14 = .ok (.getfield 268, 3) := by decide +kernel
theorem dX11_begins_17 : decode cX11_begins 17 = .ok (.iload_n 1, 1) := by decide +kernel
theorem dX11_begins_18 : decode cX11_begins 18 = .ok (.iastore, 1) := by decide +kernel
theorem dX11_begins_19 : decode cX11_begins 19 = .ok (.aload_n 0, 1) := by decide +kernel
theorem dX11_begins_20 : decode cX11_begins 20 = .ok (.dup, 1) := by decide +kernel
theorem dX11_begins_21 : decode cX11_begins 21 = .ok (.getfield 268, 3) := by decide +kernel
theorem dX11_begins_24 : decode cX11_begins 24 = .ok (.iconst 1, 1) := by decide +kernel
theorem dX11_begins_25 : decode cX11_begins 25 = .ok (.iadd, 1) := by decide +kernel
theorem dX11_begins_26 : decode cX11_begins 26 = .ok (.putfield 268, 3) := by decide +kernel
theorem dX11_begins_29 : decode cX11_begins 29 = .ok (.return_, 1) := by decide +kernel
theorem dX11_saysAs_0 : decode cX11_saysAs 0 = .ok (.iload_n 1, 1) := by decide +kernel
theorem dX11_saysAs_1 : decode cX11_saysAs 1 = .ok (.bipush 6, 2) := by decide +kernel
theorem dX11_saysAs_3 : decode cX11_saysAs 3 = .ok (.if_icmp .ne 18, 3) := by decide +kernel
theorem dX11_saysAs_6 : decode cX11_saysAs 6 = .ok (.aload_n 0, 1) := by decide +kernel
theorem dX11_saysAs_7 : decode cX11_saysAs 7 = .ok (.bipush 70, 2) := by decide +kernel
theorem dX11_saysAs_9 : decode cX11_saysAs 9 = .ok (.invokevirtual 271, 3) := by decide +kernel
theorem dX11_saysAs_12 : decode cX11_saysAs 12 = .ok (.aload_n 0, 1) := by decide +kernel
theorem dX11_saysAs_13 : decode cX11_saysAs 13 = .ok (.iconst 0, 1) := by decide +kernel
theorem dX11_saysAs_14 : decode cX11_saysAs 14 = .ok (.iload_n 2, 1) := by decide +kernel
theorem dX11_saysAs_15 : decode cX11_saysAs 15 = .ok (.invokevirtual 274, 3) := by decide +kernel
theorem dX11_saysAs_18 : decode cX11_saysAs 18 = .ok (.iconst 2, 1) := by decide +kernel
theorem dX11_saysAs_19 : decode cX11_saysAs 19 = .ok (.imul, 1) := by decide +kernel
theorem dX11_saysAs_20 : decode cX11_saysAs 20 = .ok (.ireturn, 1) := by decide +kernel
theorem dX11_saysAs_21 : decode cX11_saysAs 21 = .ok (.iload_n 1, 1) := by decide +kernel
theorem dX11_saysAs_22 : decode cX11_saysAs 22 = .ok (.ifCond .eq 23, 3) := by decide +kernel
theorem dX11_saysAs_25 : decode cX11_saysAs 25 = .ok (.iload_n 1, 1) := by decide +kernel
theorem dX11_saysAs_26 : decode cX11_saysAs 26 = .ok (.iconst 4, 1) := by decide +kernel
theorem dX11_saysAs_27 : decode cX11_saysAs 27 = .ok (.if_icmp .eq 18, 3) := by decide +kernel
theorem dX11_saysAs_30 : decode cX11_saysAs 30 = .ok (.aload_n 0, 1) := by decide +kernel
theorem dX11_saysAs_31 : decode cX11_saysAs 31 = .ok (.bipush 20, 2) := by decide +kernel
theorem dX11_saysAs_33 : decode cX11_saysAs 33 = .ok (.invokevirtual 271, 3) := by decide +kernel
theorem dX11_saysAs_36 : decode cX11_saysAs 36 = .ok (.aload_n 0, 1) := by decide +kernel
theorem dX11_saysAs_37 : decode cX11_saysAs 37 = .ok (.iconst 0, 1) := by decide +kernel
theorem dX11_saysAs_38 : decode cX11_saysAs 38 = .ok (.iload_n 2, 1) := by decide +kernel
theorem dX11_saysAs_39 : decode cX11_saysAs 39 = .ok (.invokevirtual 274, 3) := by decide +kernel
theorem dX11_saysAs_42 : decode cX11_saysAs 42 = .ok (.iconst 3, 1) := by decide +kernel
theorem dX11_saysAs_43 : decode cX11_saysAs 43 = .ok (.iadd, 1) := by decide +kernel
theorem dX11_saysAs_44 : decode cX11_saysAs 44 = .ok (.ireturn, 1) := by decide +kernel
theorem dX11_saysAs_45 : decode cX11_saysAs 45 = .ok (.aload_n 0, 1) := by decide +kernel
theorem dX11_saysAs_46 : decode cX11_saysAs 46 = .ok (.iconst 1, 1) := by decide +kernel
theorem dX11_saysAs_47 : decode cX11_saysAs 47 = .ok (.invokevirtual 271, 3) := by decide +kernel
theorem dX11_saysAs_50 : decode cX11_saysAs 50 = .ok (.iload_n 2, 1) := by decide +kernel
theorem dX11_saysAs_51 : decode cX11_saysAs 51 = .ok (.aload_n 0, 1) := by decide +kernel
theorem dX11_saysAs_52 : decode cX11_saysAs 52 = .ok (.getfield 277, 3) := by decide +kernel
theorem dX11_saysAs_55 : decode cX11_saysAs 55 = .ok (.iadd, 1) := by decide +kernel
theorem dX11_saysAs_56 : decode cX11_saysAs 56 = .ok (.ireturn, 1) := by decide +kernel
theorem dX11_mendsAs_0 : decode cX11_mendsAs 0 = .ok (.iload_n 1, 1) := by decide +kernel
theorem dX11_mendsAs_1 : decode cX11_mendsAs 1 = .ok (.iconst 5, 1) := by decide +kernel
theorem dX11_mendsAs_2 : decode cX11_mendsAs 2 = .ok (.if_icmp .ne 28, 3) := by decide +kernel
theorem dX11_mendsAs_5 : decode cX11_mendsAs 5 = .ok (.aload_n 0, 1) := by decide +kernel
theorem dX11_mendsAs_6 : decode cX11_mendsAs 6 = .ok (.bipush 60, 2) := by decide +kernel
theorem dX11_mendsAs_8 : decode cX11_mendsAs 8 = .ok (.invokevirtual 271, 3) := by decide +kernel
theorem dX11_mendsAs_11 : decode cX11_mendsAs 11 = .ok (.aload_n 0, 1) := by decide +kernel
theorem dX11_mendsAs_12 : decode cX11_mendsAs 12 = .ok (.iconst 3, 1) := by decide +kernel
theorem dX11_mendsAs_13 : decode cX11_mendsAs 13 = .ok (.iload_n 2, 1) := by decide +kernel
theorem dX11_mendsAs_14 : decode cX11_mendsAs 14 = .ok (.invokevirtual 286, 3) := by decide +kernel
theorem dX11_mendsAs_17 : decode cX11_mendsAs 17 = .ok (.istore_n 3, 1) := by decide +kernel
theorem dX11_mendsAs_18 : decode cX11_mendsAs 18 = .ok (.iload_n 3, 1) := by decide +kernel
theorem dX11_mendsAs_19 : decode cX11_mendsAs 19 = .ok (.aload_n 0, 1) := by decide +kernel
theorem dX11_mendsAs_20 : decode cX11_mendsAs 20 = .ok (.aload_n 0, 1) := by decide +kernel
theorem dX11_mendsAs_21 : decode cX11_mendsAs 21 = .ok (.getfield 283, 3) := by decide +kernel
theorem dX11_mendsAs_24 : decode cX11_mendsAs 24 = .ok (.iconst 2, 1) := by decide +kernel
theorem dX11_mendsAs_25 : decode cX11_mendsAs 25 = .ok (.invokevirtual 274, 3) := by decide +kernel
theorem dX11_mendsAs_28 : decode cX11_mendsAs 28 = .ok (.isub, 1) := by decide +kernel
theorem dX11_mendsAs_29 : decode cX11_mendsAs 29 = .ok (.ireturn, 1) := by decide +kernel
theorem dX11_mendsAs_30 : decode cX11_mendsAs 30 = .ok (.iload_n 1, 1) := by decide +kernel
theorem dX11_mendsAs_31 : decode cX11_mendsAs 31 = .ok (.iconst 3, 1) := by decide +kernel
theorem dX11_mendsAs_32 : decode cX11_mendsAs 32 = .ok (.if_icmp .ne 18, 3) := by decide +kernel
theorem dX11_mendsAs_35 : decode cX11_mendsAs 35 = .ok (.aload_n 0, 1) := by decide +kernel
theorem dX11_mendsAs_36 : decode cX11_mendsAs 36 = .ok (.bipush 40, 2) := by decide +kernel
theorem dX11_mendsAs_38 : decode cX11_mendsAs 38 = .ok (.invokevirtual 271, 3) := by decide +kernel
theorem dX11_mendsAs_41 : decode cX11_mendsAs 41 = .ok (.aload_n 0, 1) := by decide +kernel
theorem dX11_mendsAs_42 : decode cX11_mendsAs 42 = .ok (.iconst 1, 1) := by decide +kernel
theorem dX11_mendsAs_43 : decode cX11_mendsAs 43 = .ok (.iload_n 2, 1) := by decide +kernel
theorem dX11_mendsAs_44 : decode cX11_mendsAs 44 = .ok (.invokevirtual 286, 3) := by decide +kernel
theorem dX11_mendsAs_47 : decode cX11_mendsAs 47 = .ok (.iconst 3, 1) := by decide +kernel
theorem dX11_mendsAs_48 : decode cX11_mendsAs 48 = .ok (.imul, 1) := by decide +kernel
theorem dX11_mendsAs_49 : decode cX11_mendsAs 49 = .ok (.ireturn, 1) := by decide +kernel
theorem dX11_mendsAs_50 : decode cX11_mendsAs 50 = .ok (.aload_n 0, 1) := by decide +kernel
theorem dX11_mendsAs_51 : decode cX11_mendsAs 51 = .ok (.bipush 11, 2) := by decide +kernel
theorem dX11_mendsAs_53 : decode cX11_mendsAs 53 = .ok (.invokevirtual 271, 3) := by decide +kernel
theorem dX11_mendsAs_56 : decode cX11_mendsAs 56 = .ok (.iload_n 2, 1) := by decide +kernel
theorem dX11_mendsAs_57 : decode cX11_mendsAs 57 = .ok (.aload_n 0, 1) := by decide +kernel
theorem dX11_mendsAs_58 : decode cX11_mendsAs 58 = .ok (.getfield 277, 3) := by decide +kernel
theorem dX11_mendsAs_61 : decode cX11_mendsAs 61 = .ok (.ixor, 1) := by decide +kernel
theorem dX11_mendsAs_62 : decode cX11_mendsAs 62 = .ok (.ireturn, 1) := by decide +kernel
theorem dX11_takesAs_0 : decode cX11_takesAs 0 = .ok (.iload_n 1, 1) := by decide +kernel
theorem dX11_takesAs_1 : decode cX11_takesAs 1 = .ok (.bipush 7, 2) := by decide +kernel
theorem dX11_takesAs_3 : decode cX11_takesAs 3 = .ok (.if_icmp .ne 28, 3) := by decide +kernel
theorem dX11_takesAs_6 : decode cX11_takesAs 6 = .ok (.aload_n 0, 1) := by decide +kernel
theorem dX11_takesAs_7 : decode cX11_takesAs 7 = .ok (.bipush 80, 2) := by decide +kernel
theorem dX11_takesAs_9 : decode cX11_takesAs 9 = .ok (.invokevirtual 271, 3) := by decide +kernel
theorem dX11_takesAs_12 : decode cX11_takesAs 12 = .ok (.aload_n 0, 1) := by decide +kernel
theorem dX11_takesAs_13 : decode cX11_takesAs 13 = .ok (.iconst 2, 1) := by decide +kernel
theorem dX11_takesAs_14 : decode cX11_takesAs 14 = .ok (.iload_n 2, 1) := by decide +kernel
theorem dX11_takesAs_15 : decode cX11_takesAs 15 = .ok (.invokevirtual 280, 3) := by decide +kernel
theorem dX11_takesAs_18 : decode cX11_takesAs 18 = .ok (.istore_n 3, 1) := by decide +kernel
theorem dX11_takesAs_19 : decode cX11_takesAs 19 = .ok (.iload_n 3, 1) := by decide +kernel
theorem dX11_takesAs_20 : decode cX11_takesAs 20 = .ok (.aload_n 0, 1) := by decide +kernel
theorem dX11_takesAs_21 : decode cX11_takesAs 21 = .ok (.aload_n 0, 1) := by decide +kernel
theorem dX11_takesAs_22 : decode cX11_takesAs 22 = .ok (.getfield 283, 3) := by decide +kernel
theorem dX11_takesAs_25 : decode cX11_takesAs 25 = .ok (.iconst 2, 1) := by decide +kernel
theorem dX11_takesAs_26 : decode cX11_takesAs 26 = .ok (.invokevirtual 286, 3) := by decide +kernel
theorem dX11_takesAs_29 : decode cX11_takesAs 29 = .ok (.iadd, 1) := by decide +kernel
theorem dX11_takesAs_30 : decode cX11_takesAs 30 = .ok (.ireturn, 1) := by decide +kernel
theorem dX11_takesAs_31 : decode cX11_takesAs 31 = .ok (.iload_n 1, 1) := by decide +kernel
theorem dX11_takesAs_32 : decode cX11_takesAs 32 = .ok (.iconst 2, 1) := by decide +kernel
theorem dX11_takesAs_33 : decode cX11_takesAs 33 = .ok (.if_icmp .ne 17, 3) := by decide +kernel
theorem dX11_takesAs_36 : decode cX11_takesAs 36 = .ok (.aload_n 0, 1) := by decide +kernel
theorem dX11_takesAs_37 : decode cX11_takesAs 37 = .ok (.bipush 30, 2) := by decide +kernel
theorem dX11_takesAs_39 : decode cX11_takesAs 39 = .ok (.invokevirtual 271, 3) := by decide +kernel
theorem dX11_takesAs_42 : decode cX11_takesAs 42 = .ok (.aload_n 0, 1) := by decide +kernel
theorem dX11_takesAs_43 : decode cX11_takesAs 43 = .ok (.iconst 1, 1) := by decide +kernel
theorem dX11_takesAs_44 : decode cX11_takesAs 44 = .ok (.iload_n 2, 1) := by decide +kernel
theorem dX11_takesAs_45 : decode cX11_takesAs 45 = .ok (.invokevirtual 280, 3) := by decide +kernel
theorem dX11_takesAs_48 : decode cX11_takesAs 48 = .ok (.ineg, 1) := by decide +kernel
theorem dX11_takesAs_49 : decode cX11_takesAs 49 = .ok (.ireturn, 1) := by decide +kernel
theorem dX11_takesAs_50 : decode cX11_takesAs 50 = .ok (.iload_n 1, 1) := by decide +kernel
theorem dX11_takesAs_51 : decode cX11_takesAs 51 = .ok (.iconst 3, 1) := by decide +kernel
theorem dX11_takesAs_52 : decode cX11_takesAs 52 = .ok (.if_icmp .eq 8, 3) := by decide +kernel
theorem dX11_takesAs_55 : decode cX11_takesAs 55 = .ok (.iload_n 1, 1) := by decide +kernel
theorem dX11_takesAs_56 : decode cX11_takesAs 56 = .ok (.iconst 5, 1) := by decide +kernel
theorem dX11_takesAs_57 : decode cX11_takesAs 57 = .ok (.if_icmp .ne 18, 3) := by decide +kernel
theorem dX11_takesAs_60 : decode cX11_takesAs 60 = .ok (.aload_n 0, 1) := by decide +kernel
theorem dX11_takesAs_61 : decode cX11_takesAs 61 = .ok (.bipush 41, 2) := by decide +kernel
theorem dX11_takesAs_63 : decode cX11_takesAs 63 = .ok (.invokevirtual 271, 3) := by decide +kernel
theorem dX11_takesAs_66 : decode cX11_takesAs 66 = .ok (.aload_n 0, 1) := by decide +kernel
theorem dX11_takesAs_67 : decode cX11_takesAs 67 = .ok (.iconst 1, 1) := by decide +kernel
theorem dX11_takesAs_68 : decode cX11_takesAs 68 = .ok (.iload_n 2, 1) := by decide +kernel
theorem dX11_takesAs_69 : decode cX11_takesAs 69 = .ok (.iconst 1, 1) := by decide +kernel
theorem dX11_takesAs_70 : decode cX11_takesAs 70 = .ok (.iadd, 1) := by decide +kernel
theorem dX11_takesAs_71 : decode cX11_takesAs 71 = .ok (.invokevirtual 280, 3) := by decide +kernel
theorem dX11_takesAs_74 : decode cX11_takesAs 74 = .ok (.ireturn, 1) := by decide +kernel
theorem dX11_takesAs_75 : decode cX11_takesAs 75 = .ok (.aload_n 0, 1) := by decide +kernel
theorem dX11_takesAs_76 : decode cX11_takesAs 76 = .ok (.bipush 10, 2) := by decide +kernel
theorem dX11_takesAs_78 : decode cX11_takesAs 78 = .ok (.invokevirtual 271, 3) := by decide +kernel
theorem dX11_takesAs_81 : decode cX11_takesAs 81 = .ok (.aload_n 0, 1) := by decide +kernel
theorem dX11_takesAs_82 : decode cX11_takesAs 82 = .ok (.aload_n 0, 1) := by decide +kernel
theorem dX11_takesAs_83 : decode cX11_takesAs 83 = .ok (.getfield 283, 3) := by decide +kernel
theorem dX11_takesAs_86 : decode cX11_takesAs 86 = .ok (.iload_n 2, 1) := by decide +kernel
theorem dX11_takesAs_87 : decode cX11_takesAs 87 = .ok (.invokevirtual 274, 3) := by decide +kernel
theorem dX11_takesAs_90 : decode cX11_takesAs 90 = .ok (.iconst 2, 1) := by decide +kernel
theorem dX11_takesAs_91 : decode cX11_takesAs 91 = .ok (.imul, 1) := by decide +kernel
theorem dX11_takesAs_92 : decode cX11_takesAs 92 = .ok (.ireturn, 1) := by decide +kernel
theorem dX11_joinsAs_0 : decode cX11_joinsAs 0 = .ok (.iload_n 1, 1) := by decide +kernel
theorem dX11_joinsAs_1 : decode cX11_joinsAs 1 = .ok (.iconst 4, 1) := by decide +kernel
theorem dX11_joinsAs_2 : decode cX11_joinsAs 2 = .ok (.if_icmp .ne 18, 3) := by decide +kernel
theorem dX11_joinsAs_5 : decode cX11_joinsAs 5 = .ok (.aload_n 0, 1) := by decide +kernel
theorem dX11_joinsAs_6 : decode cX11_joinsAs 6 = .ok (.bipush 50, 2) := by decide +kernel
theorem dX11_joinsAs_8 : decode cX11_joinsAs 8 = .ok (.invokevirtual 271, 3) := by decide +kernel
theorem dX11_joinsAs_11 : decode cX11_joinsAs 11 = .ok (.aload_n 0, 1) := by decide +kernel
theorem dX11_joinsAs_12 : decode cX11_joinsAs 12 = .ok (.iconst 0, 1) := by decide +kernel
theorem dX11_joinsAs_13 : decode cX11_joinsAs 13 = .ok (.iload_n 2, 1) := by decide +kernel
theorem dX11_joinsAs_14 : decode cX11_joinsAs 14 = .ok (.invokevirtual 289, 3) := by decide +kernel
theorem dX11_joinsAs_17 : decode cX11_joinsAs 17 = .ok (.iconst 5, 1) := by decide +kernel
theorem dX11_joinsAs_18 : decode cX11_joinsAs 18 = .ok (.ixor, 1) := by decide +kernel
theorem dX11_joinsAs_19 : decode cX11_joinsAs 19 = .ok (.ireturn, 1) := by decide +kernel
theorem dX11_joinsAs_20 : decode cX11_joinsAs 20 = .ok (.iload_n 1, 1) := by decide +kernel
theorem dX11_joinsAs_21 : decode cX11_joinsAs 21 = .ok (.iconst 5, 1) := by decide +kernel
theorem dX11_joinsAs_22 : decode cX11_joinsAs 22 = .ok (.if_icmp .ne 18, 3) := by decide +kernel
theorem dX11_joinsAs_25 : decode cX11_joinsAs 25 = .ok (.aload_n 0, 1) := by decide +kernel
theorem dX11_joinsAs_26 : decode cX11_joinsAs 26 = .ok (.bipush 61, 2) := by decide +kernel
theorem dX11_joinsAs_28 : decode cX11_joinsAs 28 = .ok (.invokevirtual 271, 3) := by decide +kernel
theorem dX11_joinsAs_31 : decode cX11_joinsAs 31 = .ok (.aload_n 0, 1) := by decide +kernel
theorem dX11_joinsAs_32 : decode cX11_joinsAs 32 = .ok (.iconst 3, 1) := by decide +kernel
theorem dX11_joinsAs_33 : decode cX11_joinsAs 33 = .ok (.iload_n 2, 1) := by decide +kernel
theorem dX11_joinsAs_34 : decode cX11_joinsAs 34 = .ok (.invokevirtual 289, 3) := by decide +kernel
theorem dX11_joinsAs_37 : decode cX11_joinsAs 37 = .ok (.iconst 1, 1) := by decide +kernel
theorem dX11_joinsAs_38 : decode cX11_joinsAs 38 = .ok (.iadd, 1) := by decide +kernel
theorem dX11_joinsAs_39 : decode cX11_joinsAs 39 = .ok (.ireturn, 1) := by decide +kernel
theorem dX11_joinsAs_40 : decode cX11_joinsAs 40 = .ok (.iload_n 1, 1) := by decide +kernel
theorem dX11_joinsAs_41 : decode cX11_joinsAs 41 = .ok (.bipush 7, 2) := by decide +kernel
theorem dX11_joinsAs_43 : decode cX11_joinsAs 43 = .ok (.if_icmp .ne 18, 3) := by decide +kernel
theorem dX11_joinsAs_46 : decode cX11_joinsAs 46 = .ok (.aload_n 0, 1) := by decide +kernel
theorem dX11_joinsAs_47 : decode cX11_joinsAs 47 = .ok (.bipush 81, 2) := by decide +kernel
theorem dX11_joinsAs_49 : decode cX11_joinsAs 49 = .ok (.invokevirtual 271, 3) := by decide +kernel
theorem dX11_joinsAs_52 : decode cX11_joinsAs 52 = .ok (.aload_n 0, 1) := by decide +kernel
theorem dX11_joinsAs_53 : decode cX11_joinsAs 53 = .ok (.iconst 2, 1) := by decide +kernel
theorem dX11_joinsAs_54 : decode cX11_joinsAs 54 = .ok (.iload_n 2, 1) := by decide +kernel
theorem dX11_joinsAs_55 : decode cX11_joinsAs 55 = .ok (.invokevirtual 289, 3) := by decide +kernel
theorem dX11_joinsAs_58 : decode cX11_joinsAs 58 = .ok (.iconst 1, 1) := by decide +kernel
theorem dX11_joinsAs_59 : decode cX11_joinsAs 59 = .ok (.isub, 1) := by decide +kernel
theorem dX11_joinsAs_60 : decode cX11_joinsAs 60 = .ok (.ireturn, 1) := by decide +kernel
theorem dX11_joinsAs_61 : decode cX11_joinsAs 61 = .ok (.aload_n 0, 1) := by decide +kernel
theorem dX11_joinsAs_62 : decode cX11_joinsAs 62 = .ok (.iconst 2, 1) := by decide +kernel
theorem dX11_joinsAs_63 : decode cX11_joinsAs 63 = .ok (.invokevirtual 271, 3) := by decide +kernel
theorem dX11_joinsAs_66 : decode cX11_joinsAs 66 = .ok (.aload_n 0, 1) := by decide +kernel
theorem dX11_joinsAs_67 : decode cX11_joinsAs 67 = .ok (.aload_n 0, 1) := by decide +kernel
theorem dX11_joinsAs_68 : decode cX11_joinsAs 68 = .ok (.getfield 283, 3) := by decide +kernel
theorem dX11_joinsAs_71 : decode cX11_joinsAs 71 = .ok (.iload_n 2, 1) := by decide +kernel
theorem dX11_joinsAs_72 : decode cX11_joinsAs 72 = .ok (.invokevirtual 280, 3) := by decide +kernel
theorem dX11_joinsAs_75 : decode cX11_joinsAs 75 = .ok (.istore_n 3, 1) := by decide +kernel
theorem dX11_joinsAs_76 : decode cX11_joinsAs 76 = .ok (.iload_n 3, 1) := by decide +kernel
theorem dX11_joinsAs_77 : decode cX11_joinsAs 77 = .ok (.aload_n 0, 1) := by decide +kernel
theorem dX11_joinsAs_78 : decode cX11_joinsAs 78 = .ok (.aload_n 0, 1) := by decide +kernel
theorem dX11_joinsAs_79 : decode cX11_joinsAs 79 = .ok (.getfield 283, 3) := by decide +kernel
theorem dX11_joinsAs_82 : decode cX11_joinsAs 82 = .ok (.iconst 1, 1) := by decide +kernel
theorem dX11_joinsAs_83 : decode cX11_joinsAs 83 = .ok (.invokevirtual 286, 3) := by decide +kernel
theorem dX11_joinsAs_86 : decode cX11_joinsAs 86 = .ok (.isub, 1) := by decide +kernel
theorem dX11_joinsAs_87 : decode cX11_joinsAs 87 = .ok (.ireturn, 1) := by decide +kernel
theorem dX11_act_0 : decode cX11_act 0 = .ok (.aload_n 0, 1) := by decide +kernel
theorem dX11_act_1 : decode cX11_act 1 = .ok (.iconst 0, 1) := by decide +kernel
theorem dX11_act_2 : decode cX11_act 2 = .ok (.putfield 268, 3) := by decide +kernel
theorem dX11_act_5 : decode cX11_act 5 = .ok (.aload_n 0, 1) := by decide +kernel
theorem dX11_act_6 : decode cX11_act 6 = .ok (.iload_n 1, 1) := by decide +kernel
theorem dX11_act_7 : decode cX11_act 7 = .ok (.invokevirtual 292, 3) := by decide +kernel
theorem dX11_act_10 : decode cX11_act 10 = .ok (.ifCond .ne 5, 3) := by decide +kernel
theorem dX11_act_13 : decode cX11_act 13 = .ok (.iconst 0, 1) := by decide +kernel
theorem dX11_act_14 : decode cX11_act 14 = .ok (.ireturn, 1) := by decide +kernel
theorem dX11_act_15 : decode cX11_act 15 = .ok (.aload_n 0, 1) := by decide +kernel
theorem dX11_act_16 : decode cX11_act 16 = .ok (.aload_n 0, 1) := by decide +kernel
theorem dX11_act_17 : decode cX11_act 17 = .ok (.getfield 59, 3) := by decide +kernel
theorem dX11_act_20 : decode cX11_act 20 = .ok (.iload_n 1, 1) := by decide +kernel
theorem dX11_act_21 : decode cX11_act 21 = .ok (.iaload, 1) := by decide +kernel
theorem dX11_act_22 : decode cX11_act 22 = .ok (.putfield 283, 3) := by decide +kernel
theorem dX11_act_25 : decode cX11_act 25 = .ok (.aload_n 0, 1) := by decide +kernel
theorem dX11_act_26 : decode cX11_act 26 = .ok (.iload_n 1, 1) := by decide +kernel
theorem dX11_act_27 : decode cX11_act 27 = .ok (.putfield 277, 3) := by decide +kernel
theorem dX11_act_30 : decode cX11_act 30 = .ok (.iload_n 2, 1) := by decide +kernel
theorem dX11_act_31 : decode cX11_act 31 = .ok (.tableswitch 69 0 3 #[29, 39, 49, 59], 29) := by decide +kernel
theorem dX11_act_60 : decode cX11_act 60 = .ok (.aload_n 0, 1) := by decide +kernel
theorem dX11_act_61 : decode cX11_act 61 = .ok (.aload_n 0, 1) := by decide +kernel
theorem dX11_act_62 : decode cX11_act 62 = .ok (.getfield 283, 3) := by decide +kernel
theorem dX11_act_65 : decode cX11_act 65 = .ok (.iload_n 3, 1) := by decide +kernel
theorem dX11_act_66 : decode cX11_act 66 = .ok (.invokevirtual 274, 3) := by decide +kernel
theorem dX11_act_69 : decode cX11_act 69 = .ok (.ireturn, 1) := by decide +kernel
theorem dX11_act_70 : decode cX11_act 70 = .ok (.aload_n 0, 1) := by decide +kernel
theorem dX11_act_71 : decode cX11_act 71 = .ok (.aload_n 0, 1) := by decide +kernel
theorem dX11_act_72 : decode cX11_act 72 = .ok (.getfield 283, 3) := by decide +kernel
theorem dX11_act_75 : decode cX11_act 75 = .ok (.iload_n 3, 1) := by decide +kernel
theorem dX11_act_76 : decode cX11_act 76 = .ok (.invokevirtual 280, 3) := by decide +kernel
theorem dX11_act_79 : decode cX11_act 79 = .ok (.ireturn, 1) := by decide +kernel
theorem dX11_act_80 : decode cX11_act 80 = .ok (.aload_n 0, 1) := by decide +kernel
theorem dX11_act_81 : decode cX11_act 81 = .ok (.aload_n 0, 1) := by decide +kernel
theorem dX11_act_82 : decode cX11_act 82 = .ok (.getfield 283, 3) := by decide +kernel
theorem dX11_act_85 : decode cX11_act 85 = .ok (.iload_n 3, 1) := by decide +kernel
theorem dX11_act_86 : decode cX11_act 86 = .ok (.invokevirtual 286, 3) := by decide +kernel
theorem dX11_act_89 : decode cX11_act 89 = .ok (.ireturn, 1) := by decide +kernel
theorem dX11_act_90 : decode cX11_act 90 = .ok (.aload_n 0, 1) := by decide +kernel
theorem dX11_act_91 : decode cX11_act 91 = .ok (.aload_n 0, 1) := by decide +kernel
theorem dX11_act_92 : decode cX11_act 92 = .ok (.getfield 283, 3) := by decide +kernel
theorem dX11_act_95 : decode cX11_act 95 = .ok (.iload_n 3, 1) := by decide +kernel
theorem dX11_act_96 : decode cX11_act 96 = .ok (.invokevirtual 289, 3) := by decide +kernel
theorem dX11_act_99 : decode cX11_act 99 = .ok (.ireturn, 1) := by decide +kernel
theorem dX11_act_100 : decode cX11_act 100 = .ok (.iconst 0, 1) := by decide +kernel
theorem dX11_act_101 : decode cX11_act 101 = .ok (.ireturn, 1) := by decide +kernel
theorem dX11_trace_0 : decode cX11_trace 0 = .ok (.iload_n 1, 1) := by decide +kernel
theorem dX11_trace_1 : decode cX11_trace 1 = .ok (.ifCond .lt 26, 3) := by decide +kernel
theorem dX11_trace_4 : decode cX11_trace 4 = .ok (.iload_n 1, 1) := by decide +kernel
theorem dX11_trace_5 : decode cX11_trace 5 = .ok (.aload_n 0, 1) := by decide +kernel
theorem dX11_trace_6 : decode cX11_trace 6 = .ok (.getfield 268, 3) := by decide +kernel
theorem dX11_trace_9 : decode cX11_trace 9 = .ok (.if_icmp .ge 18, 3) := by decide +kernel
theorem dX11_trace_12 : decode cX11_trace 12 = .ok (.iload_n 1, 1) := by decide +kernel
theorem dX11_trace_13 : decode cX11_trace 13 = .ok (.bipush 24, 2) := by decide +kernel
theorem dX11_trace_15 : decode cX11_trace 15 = .ok (.if_icmp .ge 12, 3) := by decide +kernel
theorem dX11_trace_18 : decode cX11_trace 18 = .ok (.aload_n 0, 1) := by decide +kernel
theorem dX11_trace_19 : decode cX11_trace 19 = .ok (.getfield 62, 3) := by decide +kernel
theorem dX11_trace_22 : decode cX11_trace 22 = .ok (.iload_n 1, 1) := by decide +kernel
theorem dX11_trace_23 : decode cX11_trace 23 = .ok (.iaload, 1) := by decide +kernel
theorem dX11_trace_24 : decode cX11_trace 24 = .ok (.goto 4, 3) := by decide +kernel
theorem dX11_trace_27 : decode cX11_trace 27 = .ok (.iconst (-1), 1) := by decide +kernel
theorem dX11_trace_28 : decode cX11_trace 28 = .ok (.ireturn, 1) := by decide +kernel
theorem dX11_keep_0 : decode cX11_keep 0 = .ok (.iload_n 1, 1) := by decide +kernel
theorem dX11_keep_1 : decode cX11_keep 1 = .ok (.invokestatic 108, 3) := by decide +kernel
theorem dX11_keep_4 : decode cX11_keep 4 = .ok (.ifCond .eq 16, 3) := by decide +kernel
theorem dX11_keep_7 : decode cX11_keep 7 = .ok (.iload_n 2, 1) := by decide +kernel
theorem dX11_keep_8 : decode cX11_keep 8 = .ok (.iconst (-1), 1) := by decide +kernel
theorem dX11_keep_9 : decode cX11_keep 9 = .ok (.if_icmp .eq 13, 3) := by decide +kernel
theorem dX11_keep_12 : decode cX11_keep 12 = .ok (.aload_n 0, 1) := by decide +kernel
theorem dX11_keep_13 : decode cX11_keep 13 = .ok (.iload_n 2, 1) := by decide +kernel
theorem dX11_keep_14 : decode cX11_keep 14 = .ok (.invokevirtual 292, 3) := by decide +kernel
theorem dX11_keep_17 : decode cX11_keep 17 = .ok (.ifCond .ne 5, 3) := by decide +kernel
theorem dX11_keep_20 : decode cX11_keep 20 = .ok (.iconst (-1), 1) := by decide +kernel
theorem dX11_keep_21 : decode cX11_keep 21 = .ok (.ireturn, 1) := by decide +kernel
theorem dX11_keep_22 : decode cX11_keep 22 = .ok (.aload_n 0, 1) := by decide +kernel
theorem dX11_keep_23 : decode cX11_keep 23 = .ok (.getfield 65, 3) := by decide +kernel
theorem dX11_keep_26 : decode cX11_keep 26 = .ok (.iload_n 1, 1) := by decide +kernel
theorem dX11_keep_27 : decode cX11_keep 27 = .ok (.iload_n 2, 1) := by decide +kernel
theorem dX11_keep_28 : decode cX11_keep 28 = .ok (.iastore, 1) := by decide +kernel
theorem dX11_keep_29 : decode cX11_keep 29 = .ok (.aload_n 0, 1) := by decide +kernel
theorem dX11_keep_30 : decode cX11_keep 30 = .ok (.getfield 68, 3) := by decide +kernel
theorem dX11_keep_33 : decode cX11_keep 33 = .ok (.iload_n 1, 1) := by decide +kernel
theorem dX11_keep_34 : decode cX11_keep 34 = .ok (.iconst 0, 1) := by decide +kernel
theorem dX11_keep_35 : decode cX11_keep 35 = .ok (.iastore, 1) := by decide +kernel
theorem dX11_keep_36 : decode cX11_keep 36 = .ok (.iconst 1, 1) := by decide +kernel
theorem dX11_keep_37 : decode cX11_keep 37 = .ok (.ireturn, 1) := by decide +kernel
theorem dX11_row_0 : decode cX11_row 0 = .ok (.iload_n 1, 1) := by decide +kernel
theorem dX11_row_1 : decode cX11_row 1 = .ok (.invokestatic 108, 3) := by decide +kernel
theorem dX11_row_4 : decode cX11_row 4 = .ok (.ifCond .eq 21, 3) := by decide +kernel
theorem dX11_row_7 : decode cX11_row 7 = .ok (.iload_n 2, 1) := by decide +kernel
theorem dX11_row_8 : decode cX11_row 8 = .ok (.i2l, 1) := by decide +kernel
theorem dX11_row_9 : decode cX11_row 9 = .ok (.lconst 0, 1) := by decide +kernel
theorem dX11_row_10 : decode cX11_row 10 = .ok (.ldc2_w 121, 3) := by decide +kernel
theorem dX11_row_13 : decode cX11_row 13 = .ok (.invokestatic 88, 3) := by decide +kernel
theorem dX11_row_16 : decode cX11_row 16 = .ok (.ifCond .eq 9, 3) := by decide +kernel
theorem dX11_row_19 : decode cX11_row 19 = .ok (.iload_n 3, 1) := by decide +kernel
theorem dX11_row_20 : decode cX11_row 20 = .ok (.bipush 60, 2) := by decide +kernel
theorem dX11_row_22 : decode cX11_row 22 = .ok (.if_icmp .le 5, 3) := by decide +kernel
theorem dX11_row_25 : decode cX11_row 25 = .ok (.iconst (-1), 1) := by decide +kernel
theorem dX11_row_26 : decode cX11_row 26 = .ok (.ireturn, 1) := by decide +kernel
theorem dX11_row_27 : decode cX11_row 27 = .ok (.iload_n 3, 1) := by decide +kernel
theorem dX11_row_28 : decode cX11_row 28 = .ok (.ifCond .ge 6, 3) := by decide +kernel
theorem dX11_row_31 : decode cX11_row 31 = .ok (.bipush (-14), 2) := by decide +kernel
theorem dX11_row_33 : decode cX11_row 33 = .ok (.ireturn, 1) := by decide +kernel
theorem dX11_row_34 : decode cX11_row 34 = .ok (.aload_n 0, 1) := by decide +kernel
theorem dX11_row_35 : decode cX11_row 35 = .ok (.getfield 65, 3) := by decide +kernel
theorem dX11_row_38 : decode cX11_row 38 = .ok (.iload_n 1, 1) := by decide +kernel
theorem dX11_row_39 : decode cX11_row 39 = .ok (.bipush 50, 2) := by decide +kernel
theorem dX11_row_41 : decode cX11_row 41 = .ok (.iload_n 2, 1) := by decide +kernel
theorem dX11_row_42 : decode cX11_row 42 = .ok (.iadd, 1) := by decide +kernel
theorem dX11_row_43 : decode cX11_row 43 = .ok (.iastore, 1) := by decide +kernel
theorem dX11_row_44 : decode cX11_row 44 = .ok (.aload_n 0, 1) := by decide +kernel
theorem dX11_row_45 : decode cX11_row 45 = .ok (.getfield 68, 3) := by decide +kernel
theorem dX11_row_48 : decode cX11_row 48 = .ok (.iload_n 1, 1) := by decide +kernel
theorem dX11_row_49 : decode cX11_row 49 = .ok (.iload_n 3, 1) := by decide +kernel
theorem dX11_row_50 : decode cX11_row 50 = .ok (.iastore, 1) := by decide +kernel
theorem dX11_row_51 : decode cX11_row 51 = .ok (.bipush 60, 2) := by decide +kernel
theorem dX11_row_53 : decode cX11_row 53 = .ok (.iload_n 1, 1) := by decide +kernel
theorem dX11_row_54 : decode cX11_row 54 = .ok (.imul, 1) := by decide +kernel
theorem dX11_row_55 : decode cX11_row 55 = .ok (.istore 4, 2) := by decide +kernel
theorem dX11_row_57 : decode cX11_row 57 = .ok (.iload 4, 2) := by decide +kernel
theorem dX11_row_59 : decode cX11_row 59 = .ok (.bipush 60, 2) := by decide +kernel
theorem dX11_row_61 : decode cX11_row 61 = .ok (.iload_n 1, 1) := by decide +kernel
theorem dX11_row_62 : decode cX11_row 62 = .ok (.imul, 1) := by decide +kernel
theorem dX11_row_63 : decode cX11_row 63 = .ok (.bipush 60, 2) := by decide +kernel
theorem dX11_row_65 : decode cX11_row 65 = .ok (.iadd, 1) := by decide +kernel
theorem dX11_row_66 : decode cX11_row 66 = .ok (.if_icmp .ge 17, 3) := by decide +kernel
theorem dX11_row_69 : decode cX11_row 69 = .ok (.aload_n 0, 1) := by decide +kernel
theorem dX11_row_70 : decode cX11_row 70 = .ok (.getfield 71, 3) := by decide +kernel
theorem dX11_row_73 : decode cX11_row 73 = .ok (.iload 4, 2) := by decide +kernel
theorem dX11_row_75 : decode cX11_row 75 = .ok (.lconst 0, 1) := by decide +kernel
theorem dX11_row_76 : decode cX11_row 76 = .ok (.lastore, 1) := by decide +kernel
theorem dX11_row_77 : decode cX11_row 77 = .ok (.iinc 4 1, 3) := by decide +kernel
theorem dX11_row_80 : decode cX11_row 80 = .ok (.goto (-23), 3) := by decide +kernel
theorem dX11_row_83 : decode cX11_row 83 = .ok (.iconst 1, 1) := by decide +kernel
theorem dX11_row_84 : decode cX11_row 84 = .ok (.ireturn, 1) := by decide +kernel
theorem dX11_refusal_0 : decode cX11_refusal 0 = .ok (.iload_n 1, 1) := by decide +kernel
theorem dX11_refusal_1 : decode cX11_refusal 1 = .ok (.invokestatic 108, 3) := by decide +kernel
theorem dX11_refusal_4 : decode cX11_refusal 4 = .ok (.ifCond .ne 5, 3) := by decide +kernel
theorem dX11_refusal_7 : decode cX11_refusal 7 = .ok (.iconst (-1), 1) := by decide +kernel
theorem dX11_refusal_8 : decode cX11_refusal 8 = .ok (.ireturn, 1) := by decide +kernel
theorem dX11_refusal_9 : decode cX11_refusal 9 = .ok (.aload_n 0, 1) := by decide +kernel
theorem dX11_refusal_10 : decode cX11_refusal 10 = .ok (.getfield 65, 3) := by decide +kernel
theorem dX11_refusal_13 : decode cX11_refusal 13 = .ok (.iload_n 1, 1) := by decide +kernel
theorem dX11_refusal_14 : decode cX11_refusal 14 = .ok (.iaload, 1) := by decide +kernel
theorem dX11_refusal_15 : decode cX11_refusal 15 = .ok (.ifCond .ge 6, 3) := by decide +kernel
theorem dX11_refusal_18 : decode cX11_refusal 18 = .ok (.bipush (-11), 2) := by decide +kernel
theorem dX11_refusal_20 : decode cX11_refusal 20 = .ok (.ireturn, 1) := by decide +kernel
theorem dX11_refusal_21 : decode cX11_refusal 21 = .ok (.aload_n 0, 1) := by decide +kernel
theorem dX11_refusal_22 : decode cX11_refusal 22 = .ok (.getfield 65, 3) := by decide +kernel
theorem dX11_refusal_25 : decode cX11_refusal 25 = .ok (.iload_n 1, 1) := by decide +kernel
theorem dX11_refusal_26 : decode cX11_refusal 26 = .ok (.iaload, 1) := by decide +kernel
theorem dX11_refusal_27 : decode cX11_refusal 27 = .ok (.bipush 50, 2) := by decide +kernel
theorem dX11_refusal_29 : decode cX11_refusal 29 = .ok (.if_icmp .ge 6, 3) := by decide +kernel
theorem dX11_refusal_32 : decode cX11_refusal 32 = .ok (.bipush (-12), 2) := by decide +kernel
theorem dX11_refusal_34 : decode cX11_refusal 34 = .ok (.ireturn, 1) := by decide +kernel
theorem dX11_refusal_35 : decode cX11_refusal 35 = .ok (.iload_n 2, 1) := by decide +kernel
theorem dX11_refusal_36 : decode cX11_refusal 36 = .ok (.ifCond .lt 17, 3) := by decide +kernel
theorem dX11_refusal_39 : decode cX11_refusal 39 = .ok (.iload_n 2, 1) := by decide +kernel
theorem dX11_refusal_40 : decode cX11_refusal 40 = .ok (.aload_n 0, 1) := by decide +kernel
theorem dX11_refusal_41 : decode cX11_refusal 41 = .ok (.getfield 68, 3) := by decide +kernel
theorem dX11_refusal_44 : decode cX11_refusal 44 = .ok (.iload_n 1, 1) := by decide +kernel
theorem dX11_refusal_45 : decode cX11_refusal 45 = .ok (.iaload, 1) := by decide +kernel
theorem dX11_refusal_46 : decode cX11_refusal 46 = .ok (.if_icmp .ge 7, 3) := by decide +kernel
theorem dX11_refusal_49 : decode cX11_refusal 49 = .ok (.iconst 0, 1) := by decide +kernel
theorem dX11_refusal_50 : decode cX11_refusal 50 = .ok (.goto 5, 3) := by decide +kernel
theorem dX11_refusal_53 : decode cX11_refusal 53 = .ok (.bipush (-13), 2) := by decide +kernel
theorem dX11_refusal_55 : decode cX11_refusal 55 = .ok (.ireturn, 1) := by decide +kernel
theorem dX11_asSort_0 : decode cX11_asSort 0 = .ok (.iload_n 0, 1) := by decide +kernel
theorem dX11_asSort_1 : decode cX11_asSort 1 = .ok (.ifCond .ne 10, 3) := by decide +kernel
theorem dX11_asSort_4 : decode cX11_asSort 4 = .ok (.lload_n 1, 1) := by decide +kernel
theorem dX11_asSort_5 : decode cX11_asSort 5 = .ok (.l2i, 1) := by decide +kernel
theorem dX11_asSort_6 : decode cX11_asSort 6 = .ok (.i2b, 1) := by decide +kernel
theorem dX11_asSort_7 : decode cX11_asSort 7 = .ok (.i2l, 1) := by decide +kernel
theorem dX11_asSort_8 : decode cX11_asSort 8 = .ok (.goto 46, 3) := by decide +kernel
theorem dX11_asSort_11 : decode cX11_asSort 11 = .ok (.iload_n 0, 1) := by decide +kernel
theorem dX11_asSort_12 : decode cX11_asSort 12 = .ok (.iconst 1, 1) := by decide +kernel
theorem dX11_asSort_13 : decode cX11_asSort 13 = .ok (.if_icmp .ne 10, 3) := by decide +kernel
theorem dX11_asSort_16 : decode cX11_asSort 16 = .ok (.lload_n 1, 1) := by decide +kernel
theorem dX11_asSort_17 : decode cX11_asSort 17 = .ok (.l2i, 1) := by decide +kernel
theorem dX11_asSort_18 : decode cX11_asSort 18 = .ok (.i2s, 1) := by decide +kernel
theorem dX11_asSort_19 : decode cX11_asSort 19 = .ok (.i2l, 1) := by decide +kernel
theorem dX11_asSort_20 : decode cX11_asSort 20 = .ok (.goto 34, 3) := by decide +kernel
theorem dX11_asSort_23 : decode cX11_asSort 23 = .ok (.iload_n 0, 1) := by decide +kernel
theorem dX11_asSort_24 : decode cX11_asSort 24 = .ok (.iconst 2, 1) := by decide +kernel
theorem dX11_asSort_25 : decode cX11_asSort 25 = .ok (.if_icmp .ne 9, 3) := by decide +kernel
theorem dX11_asSort_28 : decode cX11_asSort 28 = .ok (.lload_n 1, 1) := by decide +kernel
theorem dX11_asSort_29 : decode cX11_asSort 29 = .ok (.l2i, 1) := by decide +kernel
theorem dX11_asSort_30 : decode cX11_asSort 30 = .ok (.i2l, 1) := by decide +kernel
theorem dX11_asSort_31 : decode cX11_asSort 31 = .ok (.goto 23, 3) := by decide +kernel
theorem dX11_asSort_34 : decode cX11_asSort 34 = .ok (.iload_n 0, 1) := by decide +kernel
theorem dX11_asSort_35 : decode cX11_asSort 35 = .ok (.iconst 4, 1) := by decide +kernel
theorem dX11_asSort_36 : decode cX11_asSort 36 = .ok (.if_icmp .ne 17, 3) := by decide +kernel
theorem dX11_asSort_39 : decode cX11_asSort 39 = .ok (.lload_n 1, 1) := by decide +kernel
theorem dX11_asSort_40 : decode cX11_asSort 40 = .ok (.lconst 0, 1) := by decide +kernel
theorem dX11_asSort_41 : decode cX11_asSort 41 = .ok (.lcmp, 1) := by decide +kernel
theorem dX11_asSort_42 : decode cX11_asSort 42 = .ok (.ifCond .eq 7, 3) := by decide +kernel
theorem dX11_asSort_45 : decode cX11_asSort 45 = .ok (.lconst 1, 1) := by decide +kernel
theorem dX11_asSort_46 : decode cX11_asSort 46 = .ok (.goto 8, 3) := by decide +kernel
theorem dX11_asSort_49 : decode cX11_asSort 49 = .ok (.lconst 0, 1) := by decide +kernel
theorem dX11_asSort_50 : decode cX11_asSort 50 = .ok (.goto 4, 3) := by decide +kernel
theorem dX11_asSort_53 : decode cX11_asSort 53 = .ok (.lload_n 1, 1) := by decide +kernel
theorem dX11_asSort_54 : decode cX11_asSort 54 = .ok (.lreturn, 1) := by decide +kernel
theorem dX11_put_0 : decode cX11_put 0 = .ok (.aload_n 0, 1) := by decide +kernel
theorem dX11_put_1 : decode cX11_put 1 = .ok (.iload_n 1, 1) := by decide +kernel
theorem dX11_put_2 : decode cX11_put 2 = .ok (.iload_n 2, 1) := by decide +kernel
theorem dX11_put_3 : decode cX11_put 3 = .ok (.invokevirtual 297, 3) := by decide +kernel
theorem dX11_put_6 : decode cX11_put 6 = .ok (.istore 5, 2) := by decide +kernel
theorem dX11_put_8 : decode cX11_put 8 = .ok (.iload 5, 2) := by decide +kernel
theorem dX11_put_10 : decode cX11_put 10 = .ok (.ifCond .ne 27, 3) := by decide +kernel
theorem dX11_put_13 : decode cX11_put 13 = .ok (.aload_n 0, 1) := by decide +kernel
theorem dX11_put_14 : decode cX11_put 14 = .ok (.getfield 71, 3) := by decide +kernel
theorem dX11_put_17 : decode cX11_put 17 = .ok (.bipush 60, 2) := by decide +kernel
theorem dX11_put_19 : decode cX11_put 19 = .ok (.iload_n 1, 1) := by decide +kernel
theorem dX11_put_20 : decode cX11_put 20 = .ok (.imul, 1) := by decide +kernel
theorem dX11_put_21 : decode cX11_put 21 = .ok (.iload_n 2, 1) := by decide +kernel
theorem dX11_put_22 : decode cX11_put 22 = .ok (.iadd, 1) := by decide +kernel
theorem dX11_put_23 : decode cX11_put 23 = .ok (.aload_n 0, 1) := by decide +kernel
theorem dX11_put_24 : decode cX11_put 24 = .ok (.getfield 65, 3) := by decide +kernel
theorem dX11_put_27 : decode cX11_put 27 = .ok (.iload_n 1, 1) := by decide +kernel
theorem dX11_put_28 : decode cX11_put 28 = .ok (.iaload, 1) := by decide +kernel
theorem dX11_put_29 : decode cX11_put 29 = .ok (.bipush 50, 2) := by decide +kernel
theorem dX11_put_31 : decode cX11_put 31 = .ok (.isub, 1) := by decide +kernel
theorem dX11_put_32 : decode cX11_put 32 = .ok (.lload_n 3, 1) := by decide +kernel
theorem dX11_put_33 : decode cX11_put 33 = .ok (.invokestatic 300, 3) := by decide +kernel
theorem dX11_put_36 : decode cX11_put 36 = .ok (.lastore, 1) := by decide +kernel
theorem dX11_put_37 : decode cX11_put 37 = .ok (.iload 5, 2) := by decide +kernel
theorem dX11_put_39 : decode cX11_put 39 = .ok (.ifCond .ne 7, 3) := by decide +kernel
theorem dX11_put_42 : decode cX11_put 42 = .ok (.iconst 1, 1) := by decide +kernel
theorem dX11_put_43 : decode cX11_put 43 = .ok (.goto 5, 3) := by decide +kernel
theorem dX11_put_46 : decode cX11_put 46 = .ok (.iload 5, 2) := by decide +kernel
theorem dX11_put_48 : decode cX11_put 48 = .ok (.ireturn, 1) := by decide +kernel
theorem dX11_element_0 : decode cX11_element 0 = .ok (.aload_n 0, 1) := by decide +kernel
theorem dX11_element_1 : decode cX11_element 1 = .ok (.iload_n 1, 1) := by decide +kernel
theorem dX11_element_2 : decode cX11_element 2 = .ok (.iload_n 2, 1) := by decide +kernel
theorem dX11_element_3 : decode cX11_element 3 = .ok (.invokevirtual 297, 3) := by decide +kernel
theorem dX11_element_6 : decode cX11_element 6 = .ok (.ifCond .eq 9, 3) := by decide +kernel
theorem dX11_element_9 : decode cX11_element 9 = .ok (.ldc2_w 248, 3) := by decide +kernel
theorem dX11_element_12 : decode cX11_element 12 = .ok (.goto 14, 3) := by decide +kernel
theorem dX11_element_15 : decode cX11_element 15 = .ok (.aload_n 0, 1) := by decide +kernel
theorem dX11_element_16 : decode cX11_element 16 = .ok (.getfield 71, 3) := by decide +kernel
theorem dX11_element_19 : decode cX11_element 19 = .ok (.bipush 60, 2) := by decide +kernel
theorem dX11_element_21 : decode cX11_element 21 = .ok (.iload_n 1, 1) := by decide +kernel
theorem dX11_element_22 : decode cX11_element 22 = .ok (.imul, 1) := by decide +kernel
theorem dX11_element_23 : decode cX11_element 23 = .ok (.iload_n 2, 1) := by decide +kernel
theorem dX11_element_24 : decode cX11_element 24 = .ok (.iadd, 1) := by decide +kernel
theorem dX11_element_25 : decode cX11_element 25 = .ok (.laload, 1) := by decide +kernel
theorem dX11_element_26 : decode cX11_element 26 = .ok (.lreturn, 1) := by decide +kernel
theorem dX11_shift_0 : decode cX11_shift 0 = .ok (.iload_n 1, 1) := by decide +kernel
theorem dX11_shift_1 : decode cX11_shift 1 = .ok (.invokestatic 108, 3) := by decide +kernel
theorem dX11_shift_4 : decode cX11_shift 4 = .ok (.ifCond .eq 10, 3) := by decide +kernel
theorem dX11_shift_7 : decode cX11_shift 7 = .ok (.iload_n 3, 1) := by decide +kernel
theorem dX11_shift_8 : decode cX11_shift 8 = .ok (.invokestatic 108, 3) := by decide +kernel
theorem dX11_shift_11 : decode cX11_shift 11 = .ok (.ifCond .ne 5, 3) := by decide +kernel
theorem dX11_shift_14 : decode cX11_shift 14 = .ok (.iconst (-1), 1) := by decide +kernel
theorem dX11_shift_15 : decode cX11_shift 15 = .ok (.ireturn, 1) := by decide +kernel
theorem dX11_shift_16 : decode cX11_shift 16 = .ok (.aload_n 0, 1) := by decide +kernel
theorem dX11_shift_17 : decode cX11_shift 17 = .ok (.getfield 65, 3) := by decide +kernel
theorem dX11_shift_20 : decode cX11_shift 20 = .ok (.iload_n 1, 1) := by decide +kernel
theorem dX11_shift_21 : decode cX11_shift 21 = .ok (.iaload, 1) := by decide +kernel
theorem dX11_shift_22 : decode cX11_shift 22 = .ok (.ifCond .lt 12, 3) := by decide +kernel
theorem dX11_shift_25 : decode cX11_shift 25 = .ok (.aload_n 0, 1) := by decide +kernel
theorem dX11_shift_26 : decode cX11_shift 26 = .ok (.getfield 65, 3) := by decide +kernel
theorem dX11_shift_29 : decode cX11_shift 29 = .ok (.iload_n 3, 1) := by decide +kernel
theorem dX11_shift_30 : decode cX11_shift 30 = .ok (.iaload, 1) := by decide +kernel
theorem dX11_shift_31 : decode cX11_shift 31 = .ok (.ifCond .ge 6, 3) := by decide +kernel
theorem dX11_shift_34 : decode cX11_shift 34 = .ok (.bipush (-11), 2) := by decide +kernel
theorem dX11_shift_36 : decode cX11_shift 36 = .ok (.ireturn, 1) := by decide +kernel
theorem dX11_shift_37 : decode cX11_shift 37 = .ok (.aload_n 0, 1) := by decide +kernel
theorem dX11_shift_38 : decode cX11_shift 38 = .ok (.getfield 65, 3) := by decide +kernel
theorem dX11_shift_41 : decode cX11_shift 41 = .ok (.iload_n 1, 1) := by decide +kernel
theorem dX11_shift_42 : decode cX11_shift 42 = .ok (.iaload, 1) := by decide +kernel
theorem dX11_shift_43 : decode cX11_shift 43 = .ok (.bipush 50, 2) := by decide +kernel
theorem dX11_shift_45 : decode cX11_shift 45 = .ok (.if_icmp .lt 18, 3) := by decide +kernel
theorem dX11_shift_48 : decode cX11_shift 48 = .ok (.aload_n 0, 1) := by decide +kernel
theorem dX11_shift_49 : decode cX11_shift 49 = .ok (.getfield 65, 3) := by decide +kernel
theorem dX11_shift_52 : decode cX11_shift 52 = .ok (.iload_n 1, 1) := by decide +kernel
theorem dX11_shift_53 : decode cX11_shift 53 = .ok (.iaload, 1) := by decide +kernel
theorem dX11_shift_54 : decode cX11_shift 54 = .ok (.aload_n 0, 1) := by decide +kernel
theorem dX11_shift_55 : decode cX11_shift 55 = .ok (.getfield 65, 3) := by decide +kernel
theorem dX11_shift_58 : decode cX11_shift 58 = .ok (.iload_n 3, 1) := by decide +kernel
theorem dX11_shift_59 : decode cX11_shift 59 = .ok (.iaload, 1) := by decide +kernel
theorem dX11_shift_60 : decode cX11_shift 60 = .ok (.if_icmp .eq 6, 3) := by decide +kernel
theorem dX11_shift_63 : decode cX11_shift 63 = .ok (.bipush (-12), 2) := by decide +kernel
theorem dX11_shift_65 : decode cX11_shift 65 = .ok (.ireturn, 1) := by decide +kernel
theorem dX11_shift_66 : decode cX11_shift 66 = .ok (.iload 5, 2) := by decide +kernel
theorem dX11_shift_68 : decode cX11_shift 68 = .ok (.ifCond .lt 39, 3) := by decide +kernel
theorem dX11_shift_71 : decode cX11_shift 71 = .ok (.iload_n 2, 1) := by decide +kernel
theorem dX11_shift_72 : decode cX11_shift 72 = .ok (.ifCond .lt 35, 3) := by decide +kernel
theorem dX11_shift_75 : decode cX11_shift 75 = .ok (.iload 4, 2) := by decide +kernel
theorem dX11_shift_77 : decode cX11_shift 77 = .ok (.ifCond .lt 30, 3) := by decide +kernel
theorem dX11_shift_80 : decode cX11_shift 80 = .ok (.iload_n 2, 1) := by decide +kernel
theorem dX11_shift_81 : decode cX11_shift 81 = .ok (.aload_n 0, 1) := by decide +kernel
theorem dX11_shift_82 : decode cX11_shift 82 = .ok (.getfield 68, 3) := by decide +kernel
theorem dX11_shift_85 : decode cX11_shift 85 = .ok (.iload_n 1, 1) := by decide +kernel
theorem dX11_shift_86 : decode cX11_shift 86 = .ok (.iaload, 1) := by decide +kernel
theorem dX11_shift_87 : decode cX11_shift 87 = .ok (.iload 5, 2) := by decide +kernel
theorem dX11_shift_89 : decode cX11_shift 89 = .ok (.isub, 1) := by decide +kernel
theorem dX11_shift_90 : decode cX11_shift 90 = .ok (.if_icmp .gt 17, 3) := by decide +kernel
theorem dX11_shift_93 : decode cX11_shift 93 = .ok (.iload 4, 2) := by decide +kernel
theorem dX11_shift_95 : decode cX11_shift 95 = .ok (.aload_n 0, 1) := by decide +kernel
theorem dX11_shift_96 : decode cX11_shift 96 = .ok (.getfield 68, 3) := by decide +kernel
theorem dX11_shift_99 : decode cX11_shift 99 = .ok (.iload_n 3, 1) := by decide +kernel
theorem dX11_shift_100 : decode cX11_shift 100 = .ok (.iaload, 1) := by decide +kernel
theorem dX11_shift_101 : decode cX11_shift 101 = .ok (.iload 5, 2) := by decide +kernel
theorem dX11_shift_103 : decode cX11_shift 103 = .ok (.isub, 1) := by decide +kernel
theorem dX11_shift_104 : decode cX11_shift 104 = .ok (.if_icmp .le 6, 3) := by decide +kernel
theorem dX11_shift_107 : decode cX11_shift 107 = .ok (.bipush (-13), 2) := by decide +kernel
theorem dX11_shift_109 : decode cX11_shift 109 = .ok (.ireturn, 1) := by decide +kernel
theorem dX11_shift_110 : decode cX11_shift 110 = .ok (.iconst 0, 1) := by decide +kernel
theorem dX11_shift_111 : decode cX11_shift 111 = .ok (.istore 6, 2) := by decide +kernel
theorem dX11_shift_113 : decode cX11_shift 113 = .ok (.iload 6, 2) := by decide +kernel
theorem dX11_shift_115 : decode cX11_shift 115 = .ok (.iload 5, 2) := by decide +kernel
theorem dX11_shift_117 : decode cX11_shift 117 = .ok (.if_icmp .ge 30, 3) := by decide +kernel
theorem dX11_shift_120 : decode cX11_shift 120 = .ok (.aload_n 0, 1) := by decide +kernel
theorem dX11_shift_121 : decode cX11_shift 121 = .ok (.getfield 75, 3) := by decide +kernel
theorem dX11_shift_124 : decode cX11_shift 124 = .ok (.iload 6, 2) := by decide +kernel
theorem dX11_shift_126 : decode cX11_shift 126 = .ok (.aload_n 0, 1) := by decide +kernel
theorem dX11_shift_127 : decode cX11_shift 127 = .ok (.getfield 71, 3) := by decide +kernel
theorem dX11_shift_130 : decode cX11_shift 130 = .ok (.bipush 60, 2) := by decide +kernel
theorem dX11_shift_132 : decode cX11_shift 132 = .ok (.iload_n 1, 1) := by decide +kernel
theorem dX11_shift_133 : decode cX11_shift 133 = .ok (.imul, 1) := by decide +kernel
theorem dX11_shift_134 : decode cX11_shift 134 = .ok (.iload_n 2, 1) := by decide +kernel
theorem dX11_shift_135 : decode cX11_shift 135 = .ok (.iadd, 1) := by decide +kernel
theorem dX11_shift_136 : decode cX11_shift 136 = .ok (.iload 6, 2) := by decide +kernel
theorem dX11_shift_138 : decode cX11_shift 138 = .ok (.iadd, 1) := by decide +kernel
theorem dX11_shift_139 : decode cX11_shift 139 = .ok (.laload, 1) := by decide +kernel
theorem dX11_shift_140 : decode cX11_shift 140 = .ok (.lastore, 1) := by decide +kernel
theorem dX11_shift_141 : decode cX11_shift 141 = .ok (.iinc 6 1, 3) := by decide +kernel
theorem dX11_shift_144 : decode cX11_shift 144 = .ok (.goto (-31), 3) := by decide +kernel
theorem dX11_shift_147 : decode cX11_shift 147 = .ok (.iconst 0, 1) := by decide +kernel
theorem dX11_shift_148 : decode cX11_shift 148 = .ok (.istore 6, 2) := by decide +kernel
theorem dX11_shift_150 : decode cX11_shift 150 = .ok (.iload 6, 2) := by decide +kernel
theorem dX11_shift_152 : decode cX11_shift 152 = .ok (.iload 5, 2) := by decide +kernel
theorem dX11_shift_154 : decode cX11_shift 154 = .ok (.if_icmp .ge 31, 3) := by decide +kernel
theorem dX11_shift_157 : decode cX11_shift 157 = .ok (.aload_n 0, 1) := by decide +kernel
theorem dX11_shift_158 : decode cX11_shift 158 = .ok (.getfield 71, 3) := by decide +kernel
theorem dX11_shift_161 : decode cX11_shift 161 = .ok (.bipush 60, 2) := by decide +kernel
theorem dX11_shift_163 : decode cX11_shift 163 = .ok (.iload_n 3, 1) := by decide +kernel
theorem dX11_shift_164 : decode cX11_shift 164 = .ok (.imul, 1) := by decide +kernel
theorem dX11_shift_165 : decode cX11_shift 165 = .ok (.iload 4, 2) := by decide +kernel
theorem dX11_shift_167 : decode cX11_shift 167 = .ok (.iadd, 1) := by decide +kernel
theorem dX11_shift_168 : decode cX11_shift 168 = .ok (.iload 6, 2) := by decide +kernel
theorem dX11_shift_170 : decode cX11_shift 170 = .ok (.iadd, 1) := by decide +kernel
theorem dX11_shift_171 : decode cX11_shift 171 = .ok (.aload_n 0, 1) := by decide +kernel
theorem dX11_shift_172 : decode cX11_shift 172 = .ok (.getfield 75, 3) := by decide +kernel
theorem dX11_shift_175 : decode cX11_shift 175 = .ok (.iload 6, 2) := by decide +kernel
theorem dX11_shift_177 : decode cX11_shift 177 = .ok (.laload, 1) := by decide +kernel
theorem dX11_shift_178 : decode cX11_shift 178 = .ok (.lastore, 1) := by decide +kernel
theorem dX11_shift_179 : decode cX11_shift 179 = .ok (.iinc 6 1, 3) := by decide +kernel
theorem dX11_shift_182 : decode cX11_shift 182 = .ok (.goto (-32), 3) := by decide +kernel
theorem dX11_shift_185 : decode cX11_shift 185 = .ok (.iload 5, 2) := by decide +kernel
theorem dX11_shift_187 : decode cX11_shift 187 = .ok (.ireturn, 1) := by decide +kernel
theorem dX11_taken_0 : decode cX11_taken 0 = .ok (.iload_n 1, 1) := by decide +kernel
theorem dX11_taken_1 : decode cX11_taken 1 = .ok (.invokestatic 108, 3) := by decide +kernel
theorem dX11_taken_4 : decode cX11_taken 4 = .ok (.ifCond .eq 15, 3) := by decide +kernel
theorem dX11_taken_7 : decode cX11_taken 7 = .ok (.iload_n 2, 1) := by decide +kernel
theorem dX11_taken_8 : decode cX11_taken 8 = .ok (.i2l, 1) := by decide +kernel
theorem dX11_taken_9 : decode cX11_taken 9 = .ok (.lconst 0, 1) := by decide +kernel
theorem dX11_taken_10 : decode cX11_taken 10 = .ok (.ldc2_w 96, 3) := by decide +kernel
theorem dX11_taken_13 : decode cX11_taken 13 = .ok (.invokestatic 88, 3) := by decide +kernel
theorem dX11_taken_16 : decode cX11_taken 16 = .ok (.ifCond .ne 5, 3) := by decide +kernel
theorem dX11_taken_19 : decode cX11_taken 19 = .ok (.iconst (-1), 1) := by decide +kernel
theorem dX11_taken_20 : decode cX11_taken 20 = .ok (.ireturn, 1) := by decide +kernel
theorem dX11_taken_21 : decode cX11_taken 21 = .ok (.aload_n 0, 1) := by decide +kernel
theorem dX11_taken_22 : decode cX11_taken 22 = .ok (.getfield 65, 3) := by decide +kernel
theorem dX11_taken_25 : decode cX11_taken 25 = .ok (.iload_n 1, 1) := by decide +kernel
theorem dX11_taken_26 : decode cX11_taken 26 = .ok (.iaload, 1) := by decide +kernel
theorem dX11_taken_27 : decode cX11_taken 27 = .ok (.ifCond .ge 6, 3) := by decide +kernel
theorem dX11_taken_30 : decode cX11_taken 30 = .ok (.bipush (-11), 2) := by decide +kernel
theorem dX11_taken_32 : decode cX11_taken 32 = .ok (.ireturn, 1) := by decide +kernel
theorem dX11_taken_33 : decode cX11_taken 33 = .ok (.aload_n 0, 1) := by decide +kernel
theorem dX11_taken_34 : decode cX11_taken 34 = .ok (.getfield 65, 3) := by decide +kernel
theorem dX11_taken_37 : decode cX11_taken 37 = .ok (.iload_n 1, 1) := by decide +kernel
theorem dX11_taken_38 : decode cX11_taken 38 = .ok (.iaload, 1) := by decide +kernel
theorem dX11_taken_39 : decode cX11_taken 39 = .ok (.bipush 50, 2) := by decide +kernel
theorem dX11_taken_41 : decode cX11_taken 41 = .ok (.if_icmp .lt 6, 3) := by decide +kernel
theorem dX11_taken_44 : decode cX11_taken 44 = .ok (.bipush (-12), 2) := by decide +kernel
theorem dX11_taken_46 : decode cX11_taken 46 = .ok (.ireturn, 1) := by decide +kernel
theorem dX11_taken_47 : decode cX11_taken 47 = .ok (.aload_n 0, 1) := by decide +kernel
theorem dX11_taken_48 : decode cX11_taken 48 = .ok (.aload_n 0, 1) := by decide +kernel
theorem dX11_taken_49 : decode cX11_taken 49 = .ok (.getfield 65, 3) := by decide +kernel
theorem dX11_taken_52 : decode cX11_taken 52 = .ok (.iload_n 1, 1) := by decide +kernel
theorem dX11_taken_53 : decode cX11_taken 53 = .ok (.iaload, 1) := by decide +kernel
theorem dX11_taken_54 : decode cX11_taken 54 = .ok (.invokevirtual 304, 3) := by decide +kernel
theorem dX11_taken_57 : decode cX11_taken 57 = .ok (.istore_n 3, 1) := by decide +kernel
theorem dX11_taken_58 : decode cX11_taken 58 = .ok (.iload_n 3, 1) := by decide +kernel
theorem dX11_taken_59 : decode cX11_taken 59 = .ok (.iload_n 2, 1) := by decide +kernel
theorem dX11_taken_60 : decode cX11_taken 60 = .ok (.if_icmp .eq 15, 3) := by decide +kernel
theorem dX11_taken_63 : decode cX11_taken 63 = .ok (.iload_n 3, 1) := by decide +kernel
theorem dX11_taken_64 : decode cX11_taken 64 = .ok (.ifCond .le 11, 3) := by decide +kernel
theorem dX11_taken_67 : decode cX11_taken 67 = .ok (.iload_n 3, 1) := by decide +kernel
theorem dX11_taken_68 : decode cX11_taken 68 = .ok (.invokestatic 307, 3) := by decide +kernel
theorem dX11_taken_71 : decode cX11_taken 71 = .ok (.istore_n 3, 1) := by decide +kernel
theorem dX11_taken_72 : decode cX11_taken 72 = .ok (.goto (-14), 3) := by decide +kernel
theorem dX11_taken_75 : decode cX11_taken 75 = .ok (.iload_n 3, 1) := by decide +kernel
theorem dX11_taken_76 : decode cX11_taken 76 = .ok (.iload_n 2, 1) := by decide +kernel
theorem dX11_taken_77 : decode cX11_taken 77 = .ok (.if_icmp .ne 16, 3) := by decide +kernel
theorem dX11_taken_80 : decode cX11_taken 80 = .ok (.aload_n 0, 1) := by decide +kernel
theorem dX11_taken_81 : decode cX11_taken 81 = .ok (.aload_n 0, 1) := by decide +kernel
theorem dX11_taken_82 : decode cX11_taken 82 = .ok (.getfield 65, 3) := by decide +kernel
theorem dX11_taken_85 : decode cX11_taken 85 = .ok (.iload_n 1, 1) := by decide +kernel
theorem dX11_taken_86 : decode cX11_taken 86 = .ok (.iaload, 1) := by decide +kernel
theorem dX11_taken_87 : decode cX11_taken 87 = .ok (.invokevirtual 304, 3) := by decide +kernel
theorem dX11_taken_90 : decode cX11_taken 90 = .ok (.goto 5, 3) := by decide +kernel
theorem dX11_taken_93 : decode cX11_taken 93 = .ok (.bipush (-12), 2) := by decide +kernel
theorem dX11_taken_95 : decode cX11_taken 95 = .ok (.ireturn, 1) := by decide +kernel
theorem dX11_count_0 : decode cX11_count 0 = .ok (.iload_n 1, 1) := by decide +kernel
theorem dX11_count_1 : decode cX11_count 1 = .ok (.tableswitch 78 0 6 #[43, 48, 53, 58, 63, 68, 73], 43) := by decide +kernel
theorem dX11_count_44 : decode cX11_count 44 = .ok (.aload_n 0, 1) := by decide +kernel
theorem dX11_count_45 : decode cX11_count 45 = .ok (.getfield 85, 3) := by decide +kernel
theorem dX11_count_48 : decode cX11_count 48 = .ok (.ireturn, 1) := by decide +kernel
theorem dX11_count_49 : decode cX11_count 49 = .ok (.aload_n 0, 1) := by decide +kernel
theorem dX11_count_50 : decode cX11_count 50 = .ok (.getfield 127, 3) := by decide +kernel
theorem dX11_count_53 : decode cX11_count 53 = .ok (.ireturn, 1) := by decide +kernel
theorem dX11_count_54 : decode cX11_count 54 = .ok (.aload_n 0, 1) := by decide +kernel
theorem dX11_count_55 : decode cX11_count 55 = .ok (.getfield 190, 3) := by decide +kernel
theorem dX11_count_58 : decode cX11_count 58 = .ok (.ireturn, 1) := by decide +kernel
theorem dX11_count_59 : decode cX11_count 59 = .ok (.aload_n 0, 1) := by decide +kernel
theorem dX11_count_60 : decode cX11_count 60 = .ok (.getfield 132, 3) := by decide +kernel
theorem dX11_count_63 : decode cX11_count 63 = .ok (.ireturn, 1) := by decide +kernel
theorem dX11_count_64 : decode cX11_count 64 = .ok (.aload_n 0, 1) := by decide +kernel
theorem dX11_count_65 : decode cX11_count 65 = .ok (.getfield 78, 3) := by decide +kernel
theorem dX11_count_68 : decode cX11_count 68 = .ok (.ireturn, 1) := by decide +kernel
theorem dX11_count_69 : decode cX11_count 69 = .ok (.aload_n 0, 1) := by decide +kernel
theorem dX11_count_70 : decode cX11_count 70 = .ok (.getfield 265, 3) := by decide +kernel
theorem dX11_count_73 : decode cX11_count 73 = .ok (.ireturn, 1) := by decide +kernel
theorem dX11_count_74 : decode cX11_count 74 = .ok (.aload_n 0, 1) := by decide +kernel
theorem dX11_count_75 : decode cX11_count 75 = .ok (.getfield 268, 3) := by decide +kernel
theorem dX11_count_78 : decode cX11_count 78 = .ok (.ireturn, 1) := by decide +kernel
theorem dX11_count_79 : decode cX11_count 79 = .ok (.iconst (-1), 1) := by decide +kernel
theorem dX11_count_80 : decode cX11_count 80 = .ok (.ireturn, 1) := by decide +kernel
def fX11_within (x0 x1 x2 : Int) (u0 : zMem) : zRs := zjn (fun (u1 : zMem) => zbl 0 (some (0, u1))) (fun k2 => if (zcmp x0 x1) < 0 then (k2 u0) else (if (zcmp x0 x2) > 0 then (k2 u0) else (zbl 1 (some (1, u0)))))
set_option maxRecDepth 100000 in
set_option maxHeartbeats 4000000 in
theorem rX11_within (l : Launch) (w : zW) (x0 x1 x2 : Int) (u0 : zMem) : zSpc l w 1 yX11_within cX11_within 6 (some .boolean) 1 [zL x0, zL x1, zL x2] u0 (fX11_within x0 x1 x2 u0) := by
  refine zSpc_of (own := RX11) pnRX11 rfl (Nat.le_of_ble_eq_true rfl) (fun G p e R s m args below meth c C hini => ?_)
  unfold fX11_within
  refine zlocs (lb := [(0, zL x0), (2, zL x1), (4, zL x2)]) ⟨rfl, rfl, rfl, trivial⟩ ?_
  refine z_lload_n C (i := 0) (pc' := 1) dX11_within_0 rfl rfl rfl ?_
  refine z_lload_n C (i := 2) (pc' := 2) dX11_within_1 rfl rfl rfl ?_
  refine z_lcmp C (pc' := 3) dX11_within_2 rfl ?_
  refine zjoin (P := fun (f : zMem → zRs) => ∀ (u1 : zMem), zSim G p l e R s m args below meth c w 6 (znc u0) (zM w 1 (znc u0) below args s) 17 [] [] u1 (f u1)) (fun u1 => ?_) (fun k2 hk2 => ?_)
  ·
    refine z_iconst C (pc' := 18) dX11_within_17 kc_0 rfl ?_
    exact z_zreturn C dX11_within_18
  ·
    refine z_if_lt C (pc' := 17) (pf := 6) dX11_within_3 rfl rfl (fun _ => ?_) (fun _ => ?_)
    ·
      exact zlocs (lb := []) trivial (hk2 _)
    ·
      refine z_lload_n C (i := 0) (pc' := 7) dX11_within_6 rfl rfl rfl ?_
      refine z_lload C (pc' := 9) dX11_within_7 rfl rfl ?_
      refine z_lcmp C (pc' := 10) dX11_within_9 rfl ?_
      refine z_if_gt C (pc' := 17) (pf := 13) dX11_within_10 rfl rfl (fun _ => ?_) (fun _ => ?_)
      ·
        exact zlocs (lb := []) trivial (hk2 _)
      ·
        refine z_iconst C (pc' := 14) dX11_within_13 kc_1 rfl ?_
        refine z_goto C (pc' := 18) dX11_within_14 rfl ?_
        exact z_zreturn C dX11_within_18
def fX11_size (x0 : Int) (u0 : zMem) : zRs := if x0 ≥ 0 then (some (x0, u0)) else (some ((zw32 (-x0)), u0))
set_option maxRecDepth 100000 in
set_option maxHeartbeats 4000000 in
theorem rX11_size (l : Launch) (w : zW) (x0 : Int) (u0 : zMem) : zSpc l w 1 yX11_size cX11_size 1 (some .int) 1 [zI x0] u0 (fX11_size x0 u0) := by
  refine zSpc_of (own := RX11) pnRX11 rfl (Nat.le_of_ble_eq_true rfl) (fun G p e R s m args below meth c C hini => ?_)
  unfold fX11_size
  refine zlocs (lb := [(0, zI x0)]) ⟨rfl, trivial⟩ ?_
  refine z_iload_n C (i := 0) (pc' := 1) dX11_size_0 rfl rfl rfl ?_
  refine z_if_ge C (pc' := 9) (pf := 4) dX11_size_1 rfl rfl (fun _ => ?_) (fun _ => ?_)
  ·
    refine z_iload_n C (i := 0) (pc' := 10) dX11_size_9 rfl rfl rfl ?_
    exact z_ireturn C dX11_size_10
  ·
    refine z_iload_n C (i := 0) (pc' := 5) dX11_size_4 rfl rfl rfl ?_
    refine z_ineg C (pc' := 6) dX11_size_5 rfl ?_
    refine z_goto C (pc' := 10) dX11_size_6 rfl ?_
    exact z_ireturn C dX11_size_10
def fX11_init (x0 : Int) (u0 : zMem) : zRs := if 0 ≤ x0 then (znar 20 64 u0 (fun v1 u2 => zpf 11 0 x0 v1 u2 (fun u3 => znar 20 40 u3 (fun v4 u5 => zpf 11 1 x0 v4 u5 (fun u6 => znar 20 40 u6 (fun v7 u8 => zpf 11 2 x0 v7 u8 (fun u9 => znar 20 40 u9 (fun v10 u11 => zpf 11 3 x0 v10 u11 (fun u12 => znar 20 120 u12 (fun v13 u14 => zpf 11 7 x0 v13 u14 (fun u15 => znar 20 4 u15 (fun v16 u17 => zpf 11 10 x0 v16 u17 (fun u18 => znar 20 4 u18 (fun v19 u20 => zpf 11 11 x0 v19 u20 (fun u21 => znar 20 480 u21 (fun v22 u23 => zpf 11 12 x0 v22 u23 (fun u24 => znar 20 4 u24 (fun v25 u26 => zpf 11 13 x0 v25 u26 (fun u27 => znar 20 8 u27 (fun v28 u29 => zpf 11 19 x0 v28 u29 (fun u30 => znar 20 10 u30 (fun v31 u32 => zpf 11 21 x0 v31 u32 (fun u33 => znar 20 10 u33 (fun v34 u35 => zpf 11 22 x0 v34 u35 (fun u36 => znar 20 160 u36 (fun v37 u38 => zpf 11 23 x0 v37 u38 (fun u39 => znar 20 160 u39 (fun v40 u41 => zpf 11 24 x0 v40 u41 (fun u42 => znar 20 160 u42 (fun v43 u44 => zpf 11 25 x0 v43 u44 (fun u45 => znar 22 160 u45 (fun v46 u47 => zpf 11 26 x0 v46 u47 (fun u48 => znar 20 50 u48 (fun v49 u50 => zpf 11 28 x0 v49 u50 (fun u51 => znar 20 24 u51 (fun v52 u53 => zpf 11 29 x0 v52 u53 (fun u54 => znar 20 6 u54 (fun v55 u56 => zpf 11 33 x0 v55 u56 (fun u57 => znar 20 6 u57 (fun v58 u59 => zpf 11 34 x0 v58 u59 (fun u60 => znar 21 360 u60 (fun v61 u62 => zpf 11 35 x0 v61 u62 (fun u63 => znar 21 60 u63 (fun v64 u65 => zpf 11 36 x0 v64 u65 (fun u66 => zlp (fun _ _ => none) (fun k69 (v67 : Int) (u68 : zMem) => if v67 ≥ 6 then (some (0, u68)) else (zgf 11 33 x0 u68 (fun v70 => zast 20 v70 v67 (-1) u68 (fun u71 => k69 (zw32 (v67 + 1)) u71)))) 1000000 0 u66))))))))))))))))))))))))))))))))))))))))))))) else none
set_option maxRecDepth 100000 in
set_option maxHeartbeats 4000000 in
theorem rX11_init (l : Launch) (w : zW) (x0 : Int) (u0 : zMem) : zSpc l w 1 yX11_init cX11_init 2 none 0 [zR x0] u0 (fX11_init x0 u0) := by
  refine zSpc_of (own := RX11) pnRX11 rfl (Nat.le_of_ble_eq_true rfl) (fun G p e R s m args below meth c C hini => ?_)
  unfold fX11_init
  refine zlocs (lb := [(0, zR x0)]) ⟨rfl, trivial⟩ ?_
  refine z_aload_n C (i := 0) (pc' := 1) dX11_init_0 rfl rfl rfl ?_
  refine z_objinit C (pc' := 4) woRX11_3 woi woc dX11_init_1 rfl (by decide) (Nat.le_of_ble_eq_true rfl) ?_
  refine z_aload_n C (i := 0) (pc' := 5) dX11_init_4 rfl rfl rfl ?_
  refine z_bipush C (pc' := 7) dX11_init_5 kb_64 rfl ?_
  refine z_newarr C (kd := 20) (aty := .int) (pc' := 9) (by decide) rfl wy20 dX11_init_7 rfl (fun v1 u2 => ?_)
  refine z_putfRi C (pc' := 12) flRX11_9 hini rfl fb11_0 dX11_init_9 rfl (fun u3 => ?_)
  refine z_aload_n C (i := 0) (pc' := 13) dX11_init_12 rfl rfl rfl ?_
  refine z_bipush C (pc' := 15) dX11_init_13 kb_40 rfl ?_
  refine z_newarr C (kd := 20) (aty := .int) (pc' := 17) (by decide) rfl wy20 dX11_init_15 rfl (fun v4 u5 => ?_)
  refine z_putfRi C (pc' := 20) flRX11_13 hini rfl fb11_1 dX11_init_17 rfl (fun u6 => ?_)
  refine z_aload_n C (i := 0) (pc' := 21) dX11_init_20 rfl rfl rfl ?_
  refine z_bipush C (pc' := 23) dX11_init_21 kb_40 rfl ?_
  refine z_newarr C (kd := 20) (aty := .int) (pc' := 25) (by decide) rfl wy20 dX11_init_23 rfl (fun v7 u8 => ?_)
  refine z_putfRi C (pc' := 28) flRX11_16 hini rfl fb11_2 dX11_init_25 rfl (fun u9 => ?_)
  refine z_aload_n C (i := 0) (pc' := 29) dX11_init_28 rfl rfl rfl ?_
  refine z_bipush C (pc' := 31) dX11_init_29 kb_40 rfl ?_
  refine z_newarr C (kd := 20) (aty := .int) (pc' := 33) (by decide) rfl wy20 dX11_init_31 rfl (fun v10 u11 => ?_)
  refine z_putfRi C (pc' := 36) flRX11_19 hini rfl fb11_3 dX11_init_33 rfl (fun u12 => ?_)
  refine z_aload_n C (i := 0) (pc' := 37) dX11_init_36 rfl rfl rfl ?_
  refine z_bipush C (pc' := 39) dX11_init_37 kb_120 rfl ?_
  refine z_newarr C (kd := 20) (aty := .int) (pc' := 41) (by decide) rfl wy20 dX11_init_39 rfl (fun v13 u14 => ?_)
  refine z_putfRi C (pc' := 44) flRX11_22 hini rfl fb11_7 dX11_init_41 rfl (fun u15 => ?_)
  refine z_aload_n C (i := 0) (pc' := 45) dX11_init_44 rfl rfl rfl ?_
  refine z_iconst C (pc' := 46) dX11_init_45 kc_4 rfl ?_
  refine z_newarr C (kd := 20) (aty := .int) (pc' := 48) (by decide) rfl wy20 dX11_init_46 rfl (fun v16 u17 => ?_)
  refine z_putfRi C (pc' := 51) flRX11_25 hini rfl fb11_10 dX11_init_48 rfl (fun u18 => ?_)
  refine z_aload_n C (i := 0) (pc' := 52) dX11_init_51 rfl rfl rfl ?_
  refine z_iconst C (pc' := 53) dX11_init_52 kc_4 rfl ?_
  refine z_newarr C (kd := 20) (aty := .int) (pc' := 55) (by decide) rfl wy20 dX11_init_53 rfl (fun v19 u20 => ?_)
  refine z_putfRi C (pc' := 58) flRX11_28 hini rfl fb11_11 dX11_init_55 rfl (fun u21 => ?_)
  refine z_aload_n C (i := 0) (pc' := 59) dX11_init_58 rfl rfl rfl ?_
  refine z_sipush C (pc' := 62) dX11_init_59 ks_480 rfl ?_
  refine z_newarr C (kd := 20) (aty := .int) (pc' := 64) (by decide) rfl wy20 dX11_init_62 rfl (fun v22 u23 => ?_)
  refine z_putfRi C (pc' := 67) flRX11_31 hini rfl fb11_12 dX11_init_64 rfl (fun u24 => ?_)
  refine z_aload_n C (i := 0) (pc' := 68) dX11_init_67 rfl rfl rfl ?_
  refine z_iconst C (pc' := 69) dX11_init_68 kc_4 rfl ?_
  refine z_newarr C (kd := 20) (aty := .int) (pc' := 71) (by decide) rfl wy20 dX11_init_69 rfl (fun v25 u26 => ?_)
  refine z_putfRi C (pc' := 74) flRX11_34 hini rfl fb11_13 dX11_init_71 rfl (fun u27 => ?_)
  refine z_aload_n C (i := 0) (pc' := 75) dX11_init_74 rfl rfl rfl ?_
  refine z_bipush C (pc' := 77) dX11_init_75 kb_8 rfl ?_
  refine z_newarr C (kd := 20) (aty := .int) (pc' := 79) (by decide) rfl wy20 dX11_init_77 rfl (fun v28 u29 => ?_)
  refine z_putfRi C (pc' := 82) flRX11_37 hini rfl fb11_19 dX11_init_79 rfl (fun u30 => ?_)
  refine z_aload_n C (i := 0) (pc' := 83) dX11_init_82 rfl rfl rfl ?_
  refine z_bipush C (pc' := 85) dX11_init_83 kb_10 rfl ?_
  refine z_newarr C (kd := 20) (aty := .int) (pc' := 87) (by decide) rfl wy20 dX11_init_85 rfl (fun v31 u32 => ?_)
  refine z_putfRi C (pc' := 90) flRX11_40 hini rfl fb11_21 dX11_init_87 rfl (fun u33 => ?_)
  refine z_aload_n C (i := 0) (pc' := 91) dX11_init_90 rfl rfl rfl ?_
  refine z_bipush C (pc' := 93) dX11_init_91 kb_10 rfl ?_
  refine z_newarr C (kd := 20) (aty := .int) (pc' := 95) (by decide) rfl wy20 dX11_init_93 rfl (fun v34 u35 => ?_)
  refine z_putfRi C (pc' := 98) flRX11_43 hini rfl fb11_22 dX11_init_95 rfl (fun u36 => ?_)
  refine z_aload_n C (i := 0) (pc' := 99) dX11_init_98 rfl rfl rfl ?_
  refine z_sipush C (pc' := 102) dX11_init_99 ks_160 rfl ?_
  refine z_newarr C (kd := 20) (aty := .int) (pc' := 104) (by decide) rfl wy20 dX11_init_102 rfl (fun v37 u38 => ?_)
  refine z_putfRi C (pc' := 107) flRX11_46 hini rfl fb11_23 dX11_init_104 rfl (fun u39 => ?_)
  refine z_aload_n C (i := 0) (pc' := 108) dX11_init_107 rfl rfl rfl ?_
  refine z_sipush C (pc' := 111) dX11_init_108 ks_160 rfl ?_
  refine z_newarr C (kd := 20) (aty := .int) (pc' := 113) (by decide) rfl wy20 dX11_init_111 rfl (fun v40 u41 => ?_)
  refine z_putfRi C (pc' := 116) flRX11_49 hini rfl fb11_24 dX11_init_113 rfl (fun u42 => ?_)
  refine z_aload_n C (i := 0) (pc' := 117) dX11_init_116 rfl rfl rfl ?_
  refine z_sipush C (pc' := 120) dX11_init_117 ks_160 rfl ?_
  refine z_newarr C (kd := 20) (aty := .int) (pc' := 122) (by decide) rfl wy20 dX11_init_120 rfl (fun v43 u44 => ?_)
  refine z_putfRi C (pc' := 125) flRX11_52 hini rfl fb11_25 dX11_init_122 rfl (fun u45 => ?_)
  refine z_aload_n C (i := 0) (pc' := 126) dX11_init_125 rfl rfl rfl ?_
  refine z_sipush C (pc' := 129) dX11_init_126 ks_160 rfl ?_
  refine z_newarr C (kd := 22) (aty := .boolean) (pc' := 131) (by decide) rfl wy22 dX11_init_129 rfl (fun v46 u47 => ?_)
  refine z_putfRi C (pc' := 134) flRX11_55 hini rfl fb11_26 dX11_init_131 rfl (fun u48 => ?_)
  refine z_aload_n C (i := 0) (pc' := 135) dX11_init_134 rfl rfl rfl ?_
  refine z_bipush C (pc' := 137) dX11_init_135 kb_50 rfl ?_
  refine z_newarr C (kd := 20) (aty := .int) (pc' := 139) (by decide) rfl wy20 dX11_init_137 rfl (fun v49 u50 => ?_)
  refine z_putfRi C (pc' := 142) flRX11_59 hini rfl fb11_28 dX11_init_139 rfl (fun u51 => ?_)
  refine z_aload_n C (i := 0) (pc' := 143) dX11_init_142 rfl rfl rfl ?_
  refine z_bipush C (pc' := 145) dX11_init_143 kb_24 rfl ?_
  refine z_newarr C (kd := 20) (aty := .int) (pc' := 147) (by decide) rfl wy20 dX11_init_145 rfl (fun v52 u53 => ?_)
  refine z_putfRi C (pc' := 150) flRX11_62 hini rfl fb11_29 dX11_init_147 rfl (fun u54 => ?_)
  refine z_aload_n C (i := 0) (pc' := 151) dX11_init_150 rfl rfl rfl ?_
  refine z_bipush C (pc' := 153) dX11_init_151 kb_6 rfl ?_
  refine z_newarr C (kd := 20) (aty := .int) (pc' := 155) (by decide) rfl wy20 dX11_init_153 rfl (fun v55 u56 => ?_)
  refine z_putfRi C (pc' := 158) flRX11_65 hini rfl fb11_33 dX11_init_155 rfl (fun u57 => ?_)
  refine z_aload_n C (i := 0) (pc' := 159) dX11_init_158 rfl rfl rfl ?_
  refine z_bipush C (pc' := 161) dX11_init_159 kb_6 rfl ?_
  refine z_newarr C (kd := 20) (aty := .int) (pc' := 163) (by decide) rfl wy20 dX11_init_161 rfl (fun v58 u59 => ?_)
  refine z_putfRi C (pc' := 166) flRX11_68 hini rfl fb11_34 dX11_init_163 rfl (fun u60 => ?_)
  refine z_aload_n C (i := 0) (pc' := 167) dX11_init_166 rfl rfl rfl ?_
  refine z_sipush C (pc' := 170) dX11_init_167 ks_360 rfl ?_
  refine z_newarr C (kd := 21) (aty := .long) (pc' := 172) (by decide) rfl wy21 dX11_init_170 rfl (fun v61 u62 => ?_)
  refine z_putfRi C (pc' := 175) flRX11_71 hini rfl fb11_35 dX11_init_172 rfl (fun u63 => ?_)
  refine z_aload_n C (i := 0) (pc' := 176) dX11_init_175 rfl rfl rfl ?_
  refine z_bipush C (pc' := 178) dX11_init_176 kb_60 rfl ?_
  refine z_newarr C (kd := 21) (aty := .long) (pc' := 180) (by decide) rfl wy21 dX11_init_178 rfl (fun v64 u65 => ?_)
  refine z_putfRi C (pc' := 183) flRX11_75 hini rfl fb11_36 dX11_init_180 rfl (fun u66 => ?_)
  refine z_iconst C (pc' := 184) dX11_init_183 kc_0 rfl ?_
  refine z_istore_n C (i := 1) (la' := [(1, zI 0), (0, zR x0)]) (pc' := 185) dX11_init_184 rfl (by decide) rfl rfl ?_
  refine zlocs (lb := [(0, zR x0), (1, zI 0)]) ⟨rfl, rfl, trivial⟩ ?_
  refine zlp_ind (fun (f : Int → zMem → zRs) => ∀ (v67 : Int) (u68 : zMem), zSim G p l e R s m args below meth c w 2 (znc u0) (zM w 0 (znc u0) below args s) 185 [(0, zR x0), (1, zI v67)] [] u68 (f v67 u68)) (fun _ _ => znone) (fun k69 hk69 v67 u68 => ?_) _ _ _
  refine z_iload_n C (i := 1) (pc' := 186) dX11_init_185 rfl rfl rfl ?_
  refine z_bipush C (pc' := 188) dX11_init_186 kb_6 rfl ?_
  refine z_icmp_ge C (pc' := 204) (pf := 191) dX11_init_188 rfl rfl (fun _ => ?_) (fun _ => ?_)
  ·
    exact z_return C dX11_init_204
  ·
    refine z_aload_n C (i := 0) (pc' := 192) dX11_init_191 rfl rfl rfl ?_
    refine z_getfR C (pc' := 195) flRX11_65 dX11_init_192 rfl (fun v70 => ?_)
    refine z_iload_n C (i := 1) (pc' := 196) dX11_init_195 rfl rfl rfl ?_
    refine z_iconst C (pc' := 197) dX11_init_196 kc_m1 rfl ?_
    refine z_iast C (pc' := 198) dX11_init_197 rfl (fun u71 => ?_)
    refine z_iinc C (i := 1) (la' := [(1, zI (zw32 (v67 + 1))), (0, zR x0)]) (pc' := 201) dX11_init_198 rfl (by decide) rfl rfl ?_
    refine z_goto C (pc' := 185) dX11_init_201 rfl ?_
    exact zlocs (lb := [(0, zR x0), (1, zI (zw32 (v67 + 1)))]) ⟨rfl, rfl, trivial⟩ (hk69 _ _)
def fX11_becomes (x0 x1 x2 : Int) (u0 : zMem) : zRs := zgf 11 0 x0 u0 (fun v1 => zald 20 v1 x1 u0 (fun v2 => if v2 ≠ x2 then (zgf 11 5 x0 u0 (fun v3 => zjn (fun (u4 : zMem) => zgf 11 1 x0 u4 (fun v6 => zgf 11 5 x0 u4 (fun v7 => zast 20 v6 v7 x1 u4 (fun u8 => zgf 11 2 x0 u8 (fun v9 => zgf 11 5 x0 u8 (fun v10 => zast 20 v9 v10 v2 u8 (fun u11 => zgf 11 3 x0 u11 (fun v12 => zgf 11 5 x0 u11 (fun v13 => zast 20 v12 v13 x2 u11 (fun u14 => zgf 11 5 x0 u14 (fun v15 => zpf 11 5 x0 (zw32 (v15 + 1)) u14 (fun u16 => zgf 11 5 x0 u16 (fun v17 => zpf 11 4 x0 v17 u16 (fun u18 => zgf 11 0 x0 u18 (fun v19 => zast 20 v19 x1 x2 u18 (fun u20 => some (v2, u20))))))))))))))))) (fun k5 => if v3 ≠ 40 then (k5 u0) else (zlp (fun _ _ => none) (fun k23 (v21 : Int) (u22 : zMem) => if v21 ≥ 40 then (zgf 11 5 x0 u22 (fun v24 => zpf 11 5 x0 (zw32 (v24 - 1)) u22 (fun u25 => k5 u25))) else (zgf 11 1 x0 u22 (fun v26 => zgf 11 1 x0 u22 (fun v27 => zald 20 v27 v21 u22 (fun v28 => zast 20 v26 (zw32 (v21 - 1)) v28 u22 (fun u29 => zgf 11 2 x0 u29 (fun v30 => zgf 11 2 x0 u29 (fun v31 => zald 20 v31 v21 u29 (fun v32 => zast 20 v30 (zw32 (v21 - 1)) v32 u29 (fun u33 => zgf 11 3 x0 u33 (fun v34 => zgf 11 3 x0 u33 (fun v35 => zald 20 v35 v21 u33 (fun v36 => zast 20 v34 (zw32 (v21 - 1)) v36 u33 (fun u37 => k23 (zw32 (v21 + 1)) u37)))))))))))))) 1000000 1 u0)))) else (some (v2, u0))))
set_option maxRecDepth 100000 in
set_option maxHeartbeats 4000000 in
theorem rX11_becomes (l : Launch) (w : zW) (x0 x1 x2 : Int) (u0 : zMem) : zSpc l w 1 yX11_becomes cX11_becomes 5 (some .int) 1 [zR x0, zI x1, zI x2] u0 (fX11_becomes x0 x1 x2 u0) := by
  refine zSpc_of (own := RX11) pnRX11 rfl (Nat.le_of_ble_eq_true rfl) (fun G p e R s m args below meth c C hini => ?_)
  unfold fX11_becomes
  refine zlocs (lb := [(0, zR x0), (1, zI x1), (2, zI x2)]) ⟨rfl, rfl, rfl, trivial⟩ ?_
  refine z_aload_n C (i := 0) (pc' := 1) dX11_becomes_0 rfl rfl rfl ?_
  refine z_getfR C (pc' := 4) flRX11_9 dX11_becomes_1 rfl (fun v1 => ?_)
  refine z_iload_n C (i := 1) (pc' := 5) dX11_becomes_4 rfl rfl rfl ?_
  refine z_iald C (pc' := 6) dX11_becomes_5 rfl (fun v2 => ?_)
  refine z_istore_n C (i := 3) (la' := [(3, zI v2), (0, zR x0), (1, zI x1), (2, zI x2)]) (pc' := 7) dX11_becomes_6 rfl (by decide) rfl rfl ?_
  refine z_iload_n C (i := 3) (pc' := 8) dX11_becomes_7 rfl rfl rfl ?_
  refine z_iload_n C (i := 2) (pc' := 9) dX11_becomes_8 rfl rfl rfl ?_
  refine z_icmp_ne C (pc' := 14) (pf := 12) dX11_becomes_9 rfl rfl (fun _ => ?_) (fun _ => ?_)
  ·
    refine z_aload_n C (i := 0) (pc' := 15) dX11_becomes_14 rfl rfl rfl ?_
    refine z_getf C (pc' := 18) flRX11_78 dX11_becomes_15 rfl (fun v3 => ?_)
    refine z_bipush C (pc' := 20) dX11_becomes_18 kb_40 rfl ?_
    refine zjoin (P := fun (f : zMem → zRs) => ∀ (u4 : zMem), zSim G p l e R s m args below meth c w 5 (znc u0) (zM w 1 (znc u0) below args s) 97 [(0, zR x0), (1, zI x1), (2, zI x2), (3, zI v2)] [] u4 (f u4)) (fun u4 => ?_) (fun k5 hk5 => ?_)
    ·
      refine z_aload_n C (i := 0) (pc' := 98) dX11_becomes_97 rfl rfl rfl ?_
      refine z_getfR C (pc' := 101) flRX11_13 dX11_becomes_98 rfl (fun v6 => ?_)
      refine z_aload_n C (i := 0) (pc' := 102) dX11_becomes_101 rfl rfl rfl ?_
      refine z_getf C (pc' := 105) flRX11_78 dX11_becomes_102 rfl (fun v7 => ?_)
      refine z_iload_n C (i := 1) (pc' := 106) dX11_becomes_105 rfl rfl rfl ?_
      refine z_iast C (pc' := 107) dX11_becomes_106 rfl (fun u8 => ?_)
      refine z_aload_n C (i := 0) (pc' := 108) dX11_becomes_107 rfl rfl rfl ?_
      refine z_getfR C (pc' := 111) flRX11_16 dX11_becomes_108 rfl (fun v9 => ?_)
      refine z_aload_n C (i := 0) (pc' := 112) dX11_becomes_111 rfl rfl rfl ?_
      refine z_getf C (pc' := 115) flRX11_78 dX11_becomes_112 rfl (fun v10 => ?_)
      refine z_iload_n C (i := 3) (pc' := 116) dX11_becomes_115 rfl rfl rfl ?_
      refine z_iast C (pc' := 117) dX11_becomes_116 rfl (fun u11 => ?_)
      refine z_aload_n C (i := 0) (pc' := 118) dX11_becomes_117 rfl rfl rfl ?_
      refine z_getfR C (pc' := 121) flRX11_19 dX11_becomes_118 rfl (fun v12 => ?_)
      refine z_aload_n C (i := 0) (pc' := 122) dX11_becomes_121 rfl rfl rfl ?_
      refine z_getf C (pc' := 125) flRX11_78 dX11_becomes_122 rfl (fun v13 => ?_)
      refine z_iload_n C (i := 2) (pc' := 126) dX11_becomes_125 rfl rfl rfl ?_
      refine z_iast C (pc' := 127) dX11_becomes_126 rfl (fun u14 => ?_)
      refine z_aload_n C (i := 0) (pc' := 128) dX11_becomes_127 rfl rfl rfl ?_
      refine z_dup C (pc' := 129) dX11_becomes_128 rfl rfl ?_
      refine z_getf C (pc' := 132) flRX11_78 dX11_becomes_129 rfl (fun v15 => ?_)
      refine z_iconst C (pc' := 133) dX11_becomes_132 kc_1 rfl ?_
      refine z_iadd C (pc' := 134) dX11_becomes_133 rfl ?_
      refine z_putf C (pc' := 137) flRX11_78 fn11_5 fb11_5 dX11_becomes_134 rfl (fun u16 => ?_)
      refine z_aload_n C (i := 0) (pc' := 138) dX11_becomes_137 rfl rfl rfl ?_
      refine z_aload_n C (i := 0) (pc' := 139) dX11_becomes_138 rfl rfl rfl ?_
      refine z_getf C (pc' := 142) flRX11_78 dX11_becomes_139 rfl (fun v17 => ?_)
      refine z_putf C (pc' := 145) flRX11_82 fn11_4 fb11_4 dX11_becomes_142 rfl (fun u18 => ?_)
      refine z_aload_n C (i := 0) (pc' := 146) dX11_becomes_145 rfl rfl rfl ?_
      refine z_getfR C (pc' := 149) flRX11_9 dX11_becomes_146 rfl (fun v19 => ?_)
      refine z_iload_n C (i := 1) (pc' := 150) dX11_becomes_149 rfl rfl rfl ?_
      refine z_iload_n C (i := 2) (pc' := 151) dX11_becomes_150 rfl rfl rfl ?_
      refine z_iast C (pc' := 152) dX11_becomes_151 rfl (fun u20 => ?_)
      refine z_iload_n C (i := 3) (pc' := 153) dX11_becomes_152 rfl rfl rfl ?_
      exact z_ireturn C dX11_becomes_153
    ·
      refine z_icmp_ne C (pc' := 97) (pf := 23) dX11_becomes_20 rfl rfl (fun _ => ?_) (fun _ => ?_)
      ·
        exact zlocs (lb := [(0, zR x0), (1, zI x1), (2, zI x2), (3, zI v2)]) ⟨rfl, rfl, rfl, rfl, trivial⟩ (hk5 _)
      ·
        refine z_iconst C (pc' := 24) dX11_becomes_23 kc_1 rfl ?_
        refine z_istore C (i := 4) (la' := [(4, zI 1), (3, zI v2), (0, zR x0), (1, zI x1), (2, zI x2)]) (pc' := 26) dX11_becomes_24 (by decide) rfl rfl ?_
        refine zlocs (lb := [(0, zR x0), (1, zI x1), (2, zI x2), (3, zI v2), (4, zI 1)]) ⟨rfl, rfl, rfl, rfl, rfl, trivial⟩ ?_
        refine zlp_ind (fun (f : Int → zMem → zRs) => ∀ (v21 : Int) (u22 : zMem), zSim G p l e R s m args below meth c w 5 (znc u0) (zM w 1 (znc u0) below args s) 26 [(0, zR x0), (1, zI x1), (2, zI x2), (3, zI v2), (4, zI v21)] [] u22 (f v21 u22)) (fun _ _ => znone) (fun k23 hk23 v21 u22 => ?_) _ _ _
        refine z_iload C (pc' := 28) dX11_becomes_26 rfl rfl ?_
        refine z_bipush C (pc' := 30) dX11_becomes_28 kb_40 rfl ?_
        refine z_icmp_ge C (pc' := 87) (pf := 33) dX11_becomes_30 rfl rfl (fun _ => ?_) (fun _ => ?_)
        ·
          refine z_aload_n C (i := 0) (pc' := 88) dX11_becomes_87 rfl rfl rfl ?_
          refine z_dup C (pc' := 89) dX11_becomes_88 rfl rfl ?_
          refine z_getf C (pc' := 92) flRX11_78 dX11_becomes_89 rfl (fun v24 => ?_)
          refine z_iconst C (pc' := 93) dX11_becomes_92 kc_1 rfl ?_
          refine z_isub C (pc' := 94) dX11_becomes_93 rfl ?_
          refine z_putf C (pc' := 97) flRX11_78 fn11_5 fb11_5 dX11_becomes_94 rfl (fun u25 => ?_)
          exact zlocs (lb := [(0, zR x0), (1, zI x1), (2, zI x2), (3, zI v2)]) ⟨rfl, rfl, rfl, rfl, trivial⟩ (hk5 _)
        ·
          refine z_aload_n C (i := 0) (pc' := 34) dX11_becomes_33 rfl rfl rfl ?_
          refine z_getfR C (pc' := 37) flRX11_13 dX11_becomes_34 rfl (fun v26 => ?_)
          refine z_iload C (pc' := 39) dX11_becomes_37 rfl rfl ?_
          refine z_iconst C (pc' := 40) dX11_becomes_39 kc_1 rfl ?_
          refine z_isub C (pc' := 41) dX11_becomes_40 rfl ?_
          refine z_aload_n C (i := 0) (pc' := 42) dX11_becomes_41 rfl rfl rfl ?_
          refine z_getfR C (pc' := 45) flRX11_13 dX11_becomes_42 rfl (fun v27 => ?_)
          refine z_iload C (pc' := 47) dX11_becomes_45 rfl rfl ?_
          refine z_iald C (pc' := 48) dX11_becomes_47 rfl (fun v28 => ?_)
          refine z_iast C (pc' := 49) dX11_becomes_48 rfl (fun u29 => ?_)
          refine z_aload_n C (i := 0) (pc' := 50) dX11_becomes_49 rfl rfl rfl ?_
          refine z_getfR C (pc' := 53) flRX11_16 dX11_becomes_50 rfl (fun v30 => ?_)
          refine z_iload C (pc' := 55) dX11_becomes_53 rfl rfl ?_
          refine z_iconst C (pc' := 56) dX11_becomes_55 kc_1 rfl ?_
          refine z_isub C (pc' := 57) dX11_becomes_56 rfl ?_
          refine z_aload_n C (i := 0) (pc' := 58) dX11_becomes_57 rfl rfl rfl ?_
          refine z_getfR C (pc' := 61) flRX11_16 dX11_becomes_58 rfl (fun v31 => ?_)
          refine z_iload C (pc' := 63) dX11_becomes_61 rfl rfl ?_
          refine z_iald C (pc' := 64) dX11_becomes_63 rfl (fun v32 => ?_)
          refine z_iast C (pc' := 65) dX11_becomes_64 rfl (fun u33 => ?_)
          refine z_aload_n C (i := 0) (pc' := 66) dX11_becomes_65 rfl rfl rfl ?_
          refine z_getfR C (pc' := 69) flRX11_19 dX11_becomes_66 rfl (fun v34 => ?_)
          refine z_iload C (pc' := 71) dX11_becomes_69 rfl rfl ?_
          refine z_iconst C (pc' := 72) dX11_becomes_71 kc_1 rfl ?_
          refine z_isub C (pc' := 73) dX11_becomes_72 rfl ?_
          refine z_aload_n C (i := 0) (pc' := 74) dX11_becomes_73 rfl rfl rfl ?_
          refine z_getfR C (pc' := 77) flRX11_19 dX11_becomes_74 rfl (fun v35 => ?_)
          refine z_iload C (pc' := 79) dX11_becomes_77 rfl rfl ?_
          refine z_iald C (pc' := 80) dX11_becomes_79 rfl (fun v36 => ?_)
          refine z_iast C (pc' := 81) dX11_becomes_80 rfl (fun u37 => ?_)
          refine z_iinc C (i := 4) (la' := [(4, zI (zw32 (v21 + 1))), (0, zR x0), (1, zI x1), (2, zI x2), (3, zI v2)]) (pc' := 84) dX11_becomes_81 rfl (by decide) rfl rfl ?_
          refine z_goto C (pc' := 26) dX11_becomes_84 rfl ?_
          exact zlocs (lb := [(0, zR x0), (1, zI x1), (2, zI x2), (3, zI v2), (4, zI (zw32 (v21 + 1)))]) ⟨rfl, rfl, rfl, rfl, rfl, trivial⟩ (hk23 _ _)
  ·
    refine z_iload_n C (i := 3) (pc' := 13) dX11_becomes_12 rfl rfl rfl ?_
    exact z_ireturn C dX11_becomes_13
def fX11_undo (x0 : Int) (u0 : zMem) : zRs := zgf 11 5 x0 u0 (fun v1 => if v1 ≠ 0 then (zgf 11 5 x0 u0 (fun v2 => zpf 11 5 x0 (zw32 (v2 - 1)) u0 (fun u3 => zgf 11 0 x0 u3 (fun v4 => zgf 11 1 x0 u3 (fun v5 => zgf 11 5 x0 u3 (fun v6 => zald 20 v5 v6 u3 (fun v7 => zgf 11 2 x0 u3 (fun v8 => zgf 11 5 x0 u3 (fun v9 => zald 20 v8 v9 u3 (fun v10 => zast 20 v4 v7 v10 u3 (fun u11 => zgf 11 5 x0 u11 (fun v12 => some (v12, u11))))))))))))) else (some ((-5), u0)))
set_option maxRecDepth 100000 in
set_option maxHeartbeats 4000000 in
theorem rX11_undo (l : Launch) (w : zW) (x0 : Int) (u0 : zMem) : zSpc l w 1 yX11_undo cX11_undo 1 (some .int) 1 [zR x0] u0 (fX11_undo x0 u0) := by
  refine zSpc_of (own := RX11) pnRX11 rfl (Nat.le_of_ble_eq_true rfl) (fun G p e R s m args below meth c C hini => ?_)
  unfold fX11_undo
  refine zlocs (lb := [(0, zR x0)]) ⟨rfl, trivial⟩ ?_
  refine z_aload_n C (i := 0) (pc' := 1) dX11_undo_0 rfl rfl rfl ?_
  refine z_getf C (pc' := 4) flRX11_78 dX11_undo_1 rfl (fun v1 => ?_)
  refine z_if_ne C (pc' := 10) (pf := 7) dX11_undo_4 rfl rfl (fun _ => ?_) (fun _ => ?_)
  ·
    refine z_aload_n C (i := 0) (pc' := 11) dX11_undo_10 rfl rfl rfl ?_
    refine z_dup C (pc' := 12) dX11_undo_11 rfl rfl ?_
    refine z_getf C (pc' := 15) flRX11_78 dX11_undo_12 rfl (fun v2 => ?_)
    refine z_iconst C (pc' := 16) dX11_undo_15 kc_1 rfl ?_
    refine z_isub C (pc' := 17) dX11_undo_16 rfl ?_
    refine z_putf C (pc' := 20) flRX11_78 fn11_5 fb11_5 dX11_undo_17 rfl (fun u3 => ?_)
    refine z_aload_n C (i := 0) (pc' := 21) dX11_undo_20 rfl rfl rfl ?_
    refine z_getfR C (pc' := 24) flRX11_9 dX11_undo_21 rfl (fun v4 => ?_)
    refine z_aload_n C (i := 0) (pc' := 25) dX11_undo_24 rfl rfl rfl ?_
    refine z_getfR C (pc' := 28) flRX11_13 dX11_undo_25 rfl (fun v5 => ?_)
    refine z_aload_n C (i := 0) (pc' := 29) dX11_undo_28 rfl rfl rfl ?_
    refine z_getf C (pc' := 32) flRX11_78 dX11_undo_29 rfl (fun v6 => ?_)
    refine z_iald C (pc' := 33) dX11_undo_32 rfl (fun v7 => ?_)
    refine z_aload_n C (i := 0) (pc' := 34) dX11_undo_33 rfl rfl rfl ?_
    refine z_getfR C (pc' := 37) flRX11_16 dX11_undo_34 rfl (fun v8 => ?_)
    refine z_aload_n C (i := 0) (pc' := 38) dX11_undo_37 rfl rfl rfl ?_
    refine z_getf C (pc' := 41) flRX11_78 dX11_undo_38 rfl (fun v9 => ?_)
    refine z_iald C (pc' := 42) dX11_undo_41 rfl (fun v10 => ?_)
    refine z_iast C (pc' := 43) dX11_undo_42 rfl (fun u11 => ?_)
    refine z_aload_n C (i := 0) (pc' := 44) dX11_undo_43 rfl rfl rfl ?_
    refine z_getf C (pc' := 47) flRX11_78 dX11_undo_44 rfl (fun v12 => ?_)
    exact z_ireturn C dX11_undo_47
  ·
    refine z_bipush C (pc' := 9) dX11_undo_7 kb_m5 rfl ?_
    exact z_ireturn C dX11_undo_9
def fX11_redo (x0 : Int) (u0 : zMem) : zRs := zgf 11 5 x0 u0 (fun v1 => zgf 11 4 x0 u0 (fun v2 => if v1 ≠ v2 then (zgf 11 0 x0 u0 (fun v3 => zgf 11 1 x0 u0 (fun v4 => zgf 11 5 x0 u0 (fun v5 => zald 20 v4 v5 u0 (fun v6 => zgf 11 3 x0 u0 (fun v7 => zgf 11 5 x0 u0 (fun v8 => zald 20 v7 v8 u0 (fun v9 => zast 20 v3 v6 v9 u0 (fun u10 => zgf 11 5 x0 u10 (fun v11 => zpf 11 5 x0 (zw32 (v11 + 1)) u10 (fun u12 => zgf 11 4 x0 u12 (fun v13 => zgf 11 5 x0 u12 (fun v14 => some ((zw32 (v13 - v14)), u12)))))))))))))) else (some ((-5), u0))))
set_option maxRecDepth 100000 in
set_option maxHeartbeats 4000000 in
theorem rX11_redo (l : Launch) (w : zW) (x0 : Int) (u0 : zMem) : zSpc l w 1 yX11_redo cX11_redo 1 (some .int) 1 [zR x0] u0 (fX11_redo x0 u0) := by
  refine zSpc_of (own := RX11) pnRX11 rfl (Nat.le_of_ble_eq_true rfl) (fun G p e R s m args below meth c C hini => ?_)
  unfold fX11_redo
  refine zlocs (lb := [(0, zR x0)]) ⟨rfl, trivial⟩ ?_
  refine z_aload_n C (i := 0) (pc' := 1) dX11_redo_0 rfl rfl rfl ?_
  refine z_getf C (pc' := 4) flRX11_78 dX11_redo_1 rfl (fun v1 => ?_)
  refine z_aload_n C (i := 0) (pc' := 5) dX11_redo_4 rfl rfl rfl ?_
  refine z_getf C (pc' := 8) flRX11_82 dX11_redo_5 rfl (fun v2 => ?_)
  refine z_icmp_ne C (pc' := 14) (pf := 11) dX11_redo_8 rfl rfl (fun _ => ?_) (fun _ => ?_)
  ·
    refine z_aload_n C (i := 0) (pc' := 15) dX11_redo_14 rfl rfl rfl ?_
    refine z_getfR C (pc' := 18) flRX11_9 dX11_redo_15 rfl (fun v3 => ?_)
    refine z_aload_n C (i := 0) (pc' := 19) dX11_redo_18 rfl rfl rfl ?_
    refine z_getfR C (pc' := 22) flRX11_13 dX11_redo_19 rfl (fun v4 => ?_)
    refine z_aload_n C (i := 0) (pc' := 23) dX11_redo_22 rfl rfl rfl ?_
    refine z_getf C (pc' := 26) flRX11_78 dX11_redo_23 rfl (fun v5 => ?_)
    refine z_iald C (pc' := 27) dX11_redo_26 rfl (fun v6 => ?_)
    refine z_aload_n C (i := 0) (pc' := 28) dX11_redo_27 rfl rfl rfl ?_
    refine z_getfR C (pc' := 31) flRX11_19 dX11_redo_28 rfl (fun v7 => ?_)
    refine z_aload_n C (i := 0) (pc' := 32) dX11_redo_31 rfl rfl rfl ?_
    refine z_getf C (pc' := 35) flRX11_78 dX11_redo_32 rfl (fun v8 => ?_)
    refine z_iald C (pc' := 36) dX11_redo_35 rfl (fun v9 => ?_)
    refine z_iast C (pc' := 37) dX11_redo_36 rfl (fun u10 => ?_)
    refine z_aload_n C (i := 0) (pc' := 38) dX11_redo_37 rfl rfl rfl ?_
    refine z_dup C (pc' := 39) dX11_redo_38 rfl rfl ?_
    refine z_getf C (pc' := 42) flRX11_78 dX11_redo_39 rfl (fun v11 => ?_)
    refine z_iconst C (pc' := 43) dX11_redo_42 kc_1 rfl ?_
    refine z_iadd C (pc' := 44) dX11_redo_43 rfl ?_
    refine z_putf C (pc' := 47) flRX11_78 fn11_5 fb11_5 dX11_redo_44 rfl (fun u12 => ?_)
    refine z_aload_n C (i := 0) (pc' := 48) dX11_redo_47 rfl rfl rfl ?_
    refine z_getf C (pc' := 51) flRX11_82 dX11_redo_48 rfl (fun v13 => ?_)
    refine z_aload_n C (i := 0) (pc' := 52) dX11_redo_51 rfl rfl rfl ?_
    refine z_getf C (pc' := 55) flRX11_78 dX11_redo_52 rfl (fun v14 => ?_)
    refine z_isub C (pc' := 56) dX11_redo_55 rfl ?_
    exact z_ireturn C dX11_redo_56
  ·
    refine z_bipush C (pc' := 13) dX11_redo_11 kb_m5 rfl ?_
    exact z_ireturn C dX11_redo_13
def fX11_isSaying (x0 x1 : Int) (u0 : zMem) : zRs := zgf 11 6 x0 u0 (fun v1 => zcall (fX11_within x1 0 (zw32 (v1 - 1)) u0) (fun v2 u3 => zbl v2 (some (v2, u3))))
set_option maxRecDepth 100000 in
set_option maxHeartbeats 4000000 in
theorem rX11_isSaying (l : Launch) (w : zW) (x0 x1 : Int) (u0 : zMem) : zSpc l w 2 yX11_isSaying cX11_isSaying 2 (some .boolean) 1 [zR x0, zI x1] u0 (fX11_isSaying x0 x1 u0) := by
  refine zSpc_of (own := RX11) pnRX11 rfl (Nat.le_of_ble_eq_true rfl) (fun G p e R s m args below meth c C hini => ?_)
  unfold fX11_isSaying
  refine zlocs (lb := [(0, zR x0), (1, zI x1)]) ⟨rfl, rfl, trivial⟩ ?_
  refine z_iload_n C (i := 1) (pc' := 1) dX11_isSaying_0 rfl rfl rfl ?_
  refine z_i2l C (pc' := 2) dX11_isSaying_1 rfl ?_
  refine z_lconst C (pc' := 3) dX11_isSaying_2 kl_0 rfl ?_
  refine z_aload_n C (i := 0) (pc' := 4) dX11_isSaying_3 rfl rfl rfl ?_
  refine z_getf C (pc' := 7) flRX11_85 dX11_isSaying_4 rfl (fun v1 => ?_)
  refine z_iconst C (pc' := 8) dX11_isSaying_7 kc_1 rfl ?_
  refine z_isub C (pc' := 9) dX11_isSaying_8 rfl ?_
  refine z_i2l C (pc' := 10) dX11_isSaying_9 rfl ?_
  refine z_callS1 C (pc' := 13) lsRX11_88 lc_X11_within rfl dX11_isSaying_10 rfl (by decide) (rX11_within l w x1 0 (zw32 (v1 - 1)) u0) rfl (Nat.le_of_ble_eq_true rfl) (fun v2 u3 => ?_)
  exact z_zreturn C dX11_isSaying_13
def fX11_isOne (x0 x1 x2 x3 : Int) (u0 : zMem) : zRs := zcall (fX11_within x0 0 10 u0) (fun v1 u2 => zjn (fun (u3 : zMem) => zbl 0 (some (0, u3))) (fun k4 => if v1 = 0 then (k4 u2) else (zcall (fX11_within x1 0 3 u2) (fun v5 u6 => if v5 = 0 then (k4 u6) else (zcall (fX11_within x2 0 7 u6) (fun v7 u8 => if v7 = 0 then (k4 u8) else (zcall (fX11_within x3 1 30 u8) (fun v9 u10 => if v9 = 0 then (k4 u10) else (zbl 1 (some (1, u10)))))))))))
set_option maxRecDepth 100000 in
set_option maxHeartbeats 4000000 in
theorem rX11_isOne (l : Launch) (w : zW) (x0 x1 x2 x3 : Int) (u0 : zMem) : zSpc l w 2 yX11_isOne cX11_isOne 8 (some .boolean) 1 [zL x0, zL x1, zL x2, zL x3] u0 (fX11_isOne x0 x1 x2 x3 u0) := by
  refine zSpc_of (own := RX11) pnRX11 rfl (Nat.le_of_ble_eq_true rfl) (fun G p e R s m args below meth c C hini => ?_)
  unfold fX11_isOne
  refine zlocs (lb := [(0, zL x0), (2, zL x1), (4, zL x2), (6, zL x3)]) ⟨rfl, rfl, rfl, rfl, trivial⟩ ?_
  refine z_lload_n C (i := 0) (pc' := 1) dX11_isOne_0 rfl rfl rfl ?_
  refine z_lconst C (pc' := 2) dX11_isOne_1 kl_0 rfl ?_
  refine z_ldc2 C (pc' := 5) dX11_isOne_2 wlRX11_92 kj_10 rfl ?_
  refine z_callS1 C (pc' := 8) lsRX11_88 lc_X11_within rfl dX11_isOne_5 rfl (by decide) (rX11_within l w x0 0 10 u0) rfl (Nat.le_of_ble_eq_true rfl) (fun v1 u2 => ?_)
  refine zjoin (P := fun (f : zMem → zRs) => ∀ (u3 : zMem), zSim G p l e R s m args below meth c w 8 (znc u0) (zM w 1 (znc u0) below args s) 50 [] [] u3 (f u3)) (fun u3 => ?_) (fun k4 hk4 => ?_)
  ·
    refine z_iconst C (pc' := 51) dX11_isOne_50 kc_0 rfl ?_
    exact z_zreturn C dX11_isOne_51
  ·
    refine z_if_eq C (pc' := 50) (pf := 11) dX11_isOne_8 rfl rfl (fun _ => ?_) (fun _ => ?_)
    ·
      exact zlocs (lb := []) trivial (hk4 _)
    ·
      refine z_lload_n C (i := 2) (pc' := 12) dX11_isOne_11 rfl rfl rfl ?_
      refine z_lconst C (pc' := 13) dX11_isOne_12 kl_0 rfl ?_
      refine z_ldc2 C (pc' := 16) dX11_isOne_13 wlRX11_94 kj_3 rfl ?_
      refine z_callS1 C (pc' := 19) lsRX11_88 lc_X11_within rfl dX11_isOne_16 rfl (by decide) (rX11_within l w x1 0 3 u2) rfl (Nat.le_of_ble_eq_true rfl) (fun v5 u6 => ?_)
      refine z_if_eq C (pc' := 50) (pf := 22) dX11_isOne_19 rfl rfl (fun _ => ?_) (fun _ => ?_)
      ·
        exact zlocs (lb := []) trivial (hk4 _)
      ·
        refine z_lload C (pc' := 24) dX11_isOne_22 rfl rfl ?_
        refine z_lconst C (pc' := 25) dX11_isOne_24 kl_0 rfl ?_
        refine z_ldc2 C (pc' := 28) dX11_isOne_25 wlRX11_96 kj_7 rfl ?_
        refine z_callS1 C (pc' := 31) lsRX11_88 lc_X11_within rfl dX11_isOne_28 rfl (by decide) (rX11_within l w x2 0 7 u6) rfl (Nat.le_of_ble_eq_true rfl) (fun v7 u8 => ?_)
        refine z_if_eq C (pc' := 50) (pf := 34) dX11_isOne_31 rfl rfl (fun _ => ?_) (fun _ => ?_)
        ·
          exact zlocs (lb := []) trivial (hk4 _)
        ·
          refine z_lload C (pc' := 36) dX11_isOne_34 rfl rfl ?_
          refine z_lconst C (pc' := 37) dX11_isOne_36 kl_1 rfl ?_
          refine z_ldc2 C (pc' := 40) dX11_isOne_37 wlRX11_98 kj_30 rfl ?_
          refine z_callS1 C (pc' := 43) lsRX11_88 lc_X11_within rfl dX11_isOne_40 rfl (by decide) (rX11_within l w x3 1 30 u8) rfl (Nat.le_of_ble_eq_true rfl) (fun v9 u10 => ?_)
          refine z_if_eq C (pc' := 50) (pf := 46) dX11_isOne_43 rfl rfl (fun _ => ?_) (fun _ => ?_)
          ·
            exact zlocs (lb := []) trivial (hk4 _)
          ·
            refine z_iconst C (pc' := 47) dX11_isOne_46 kc_1 rfl ?_
            refine z_goto C (pc' := 51) dX11_isOne_47 rfl ?_
            exact z_zreturn C dX11_isOne_51
def fX11_adds (x0 x1 x2 x3 x4 : Int) (u0 : zMem) : zRs := zgf 11 0 x0 u0 (fun v1 => zgf 11 6 x0 u0 (fun v2 => zast 20 v1 v2 x1 u0 (fun u3 => zgf 11 0 x0 u3 (fun v4 => zgf 11 6 x0 u3 (fun v5 => zast 20 v4 (zw32 (16 + v5)) x2 u3 (fun u6 => zgf 11 0 x0 u6 (fun v7 => zgf 11 6 x0 u6 (fun v8 => zast 20 v7 (zw32 (32 + v8)) x3 u6 (fun u9 => zgf 11 0 x0 u9 (fun v10 => zgf 11 6 x0 u9 (fun v11 => zast 20 v10 (zw32 (48 + v11)) x4 u9 (fun u12 => zgf 11 6 x0 u12 (fun v13 => zpf 11 6 x0 (zw32 (v13 + 1)) u12 (fun u14 => some (0, u14)))))))))))))))
set_option maxRecDepth 100000 in
set_option maxHeartbeats 4000000 in
theorem rX11_adds (l : Launch) (w : zW) (x0 x1 x2 x3 x4 : Int) (u0 : zMem) : zSpc l w 1 yX11_adds cX11_adds 5 none 0 [zR x0, zI x1, zI x2, zI x3, zI x4] u0 (fX11_adds x0 x1 x2 x3 x4 u0) := by
  refine zSpc_of (own := RX11) pnRX11 rfl (Nat.le_of_ble_eq_true rfl) (fun G p e R s m args below meth c C hini => ?_)
  unfold fX11_adds
  refine zlocs (lb := [(0, zR x0), (1, zI x1), (2, zI x2), (3, zI x3), (4, zI x4)]) ⟨rfl, rfl, rfl, rfl, rfl, trivial⟩ ?_
  refine z_aload_n C (i := 0) (pc' := 1) dX11_adds_0 rfl rfl rfl ?_
  refine z_getfR C (pc' := 4) flRX11_9 dX11_adds_1 rfl (fun v1 => ?_)
  refine z_aload_n C (i := 0) (pc' := 5) dX11_adds_4 rfl rfl rfl ?_
  refine z_getf C (pc' := 8) flRX11_85 dX11_adds_5 rfl (fun v2 => ?_)
  refine z_iload_n C (i := 1) (pc' := 9) dX11_adds_8 rfl rfl rfl ?_
  refine z_iast C (pc' := 10) dX11_adds_9 rfl (fun u3 => ?_)
  refine z_aload_n C (i := 0) (pc' := 11) dX11_adds_10 rfl rfl rfl ?_
  refine z_getfR C (pc' := 14) flRX11_9 dX11_adds_11 rfl (fun v4 => ?_)
  refine z_bipush C (pc' := 16) dX11_adds_14 kb_16 rfl ?_
  refine z_aload_n C (i := 0) (pc' := 17) dX11_adds_16 rfl rfl rfl ?_
  refine z_getf C (pc' := 20) flRX11_85 dX11_adds_17 rfl (fun v5 => ?_)
  refine z_iadd C (pc' := 21) dX11_adds_20 rfl ?_
  refine z_iload_n C (i := 2) (pc' := 22) dX11_adds_21 rfl rfl rfl ?_
  refine z_iast C (pc' := 23) dX11_adds_22 rfl (fun u6 => ?_)
  refine z_aload_n C (i := 0) (pc' := 24) dX11_adds_23 rfl rfl rfl ?_
  refine z_getfR C (pc' := 27) flRX11_9 dX11_adds_24 rfl (fun v7 => ?_)
  refine z_bipush C (pc' := 29) dX11_adds_27 kb_32 rfl ?_
  refine z_aload_n C (i := 0) (pc' := 30) dX11_adds_29 rfl rfl rfl ?_
  refine z_getf C (pc' := 33) flRX11_85 dX11_adds_30 rfl (fun v8 => ?_)
  refine z_iadd C (pc' := 34) dX11_adds_33 rfl ?_
  refine z_iload_n C (i := 3) (pc' := 35) dX11_adds_34 rfl rfl rfl ?_
  refine z_iast C (pc' := 36) dX11_adds_35 rfl (fun u9 => ?_)
  refine z_aload_n C (i := 0) (pc' := 37) dX11_adds_36 rfl rfl rfl ?_
  refine z_getfR C (pc' := 40) flRX11_9 dX11_adds_37 rfl (fun v10 => ?_)
  refine z_bipush C (pc' := 42) dX11_adds_40 kb_48 rfl ?_
  refine z_aload_n C (i := 0) (pc' := 43) dX11_adds_42 rfl rfl rfl ?_
  refine z_getf C (pc' := 46) flRX11_85 dX11_adds_43 rfl (fun v11 => ?_)
  refine z_iadd C (pc' := 47) dX11_adds_46 rfl ?_
  refine z_iload C (pc' := 49) dX11_adds_47 rfl rfl ?_
  refine z_iast C (pc' := 50) dX11_adds_49 rfl (fun u12 => ?_)
  refine z_aload_n C (i := 0) (pc' := 51) dX11_adds_50 rfl rfl rfl ?_
  refine z_dup C (pc' := 52) dX11_adds_51 rfl rfl ?_
  refine z_getf C (pc' := 55) flRX11_85 dX11_adds_52 rfl (fun v13 => ?_)
  refine z_iconst C (pc' := 56) dX11_adds_55 kc_1 rfl ?_
  refine z_iadd C (pc' := 57) dX11_adds_56 rfl ?_
  refine z_putf C (pc' := 60) flRX11_85 fn11_6 fb11_6 dX11_adds_57 rfl (fun u14 => ?_)
  exact z_return C dX11_adds_60
def fX11_saying (x0 x1 x2 : Int) (u0 : zMem) : zRs := if x1 < 0 then (some ((-1), u0)) else (if x2 < 0 then (some ((-1), u0)) else (znz 10 (znz 10 (znz 100 (znz 100 (zcall (fX11_isOne (zw32 (Int.tdiv x1 10)) (Int.tmod x1 10) (zw32 (Int.tdiv x2 100)) (Int.tmod x2 100) u0) (fun v1 u2 => if v1 ≠ 0 then (zgf 11 6 x0 u2 (fun v3 => if v3 ≠ 16 then (znz 10 (znz 10 (znz 100 (znz 100 (zvc 11 x0 (fX11_adds x0 (zw32 (Int.tdiv x1 10)) (Int.tmod x1 10) (zw32 (Int.tdiv x2 100)) (Int.tmod x2 100) u2) (fun _ u4 => zgf 11 6 x0 u4 (fun v5 => some ((zw32 (v5 - 1)), u4)))))))) else (some ((-3), u2)))) else (some ((-1), u2)))))))))
set_option maxRecDepth 100000 in
set_option maxHeartbeats 4000000 in
theorem rX11_saying (l : Launch) (w : zW) (x0 x1 x2 : Int) (u0 : zMem) : zSpc l w 3 yX11_saying cX11_saying 3 (some .int) 1 [zR x0, zI x1, zI x2] u0 (fX11_saying x0 x1 x2 u0) := by
  refine zSpc_of (own := RX11) pnRX11 rfl (Nat.le_of_ble_eq_true rfl) (fun G p e R s m args below meth c C hini => ?_)
  unfold fX11_saying
  refine zlocs (lb := [(0, zR x0), (1, zI x1), (2, zI x2)]) ⟨rfl, rfl, rfl, trivial⟩ ?_
  refine z_iload_n C (i := 1) (pc' := 1) dX11_saying_0 rfl rfl rfl ?_
  refine z_if_lt C (pc' := 34) (pf := 4) dX11_saying_1 rfl rfl (fun _ => ?_) (fun _ => ?_)
  ·
    refine z_iconst C (pc' := 35) dX11_saying_34 kc_m1 rfl ?_
    exact z_ireturn C dX11_saying_35
  ·
    refine z_iload_n C (i := 2) (pc' := 5) dX11_saying_4 rfl rfl rfl ?_
    refine z_if_lt C (pc' := 34) (pf := 8) dX11_saying_5 rfl rfl (fun _ => ?_) (fun _ => ?_)
    ·
      refine z_iconst C (pc' := 35) dX11_saying_34 kc_m1 rfl ?_
      exact z_ireturn C dX11_saying_35
    ·
      refine z_iload_n C (i := 1) (pc' := 9) dX11_saying_8 rfl rfl rfl ?_
      refine z_bipush C (pc' := 11) dX11_saying_9 kb_10 rfl ?_
      refine z_idiv C (pc' := 12) dX11_saying_11 rfl (fun _ => ?_)
      refine z_i2l C (pc' := 13) dX11_saying_12 rfl ?_
      refine z_iload_n C (i := 1) (pc' := 14) dX11_saying_13 rfl rfl rfl ?_
      refine z_bipush C (pc' := 16) dX11_saying_14 kb_10 rfl ?_
      refine z_irem C (pc' := 17) dX11_saying_16 rfl (fun _ => ?_)
      refine z_i2l C (pc' := 18) dX11_saying_17 rfl ?_
      refine z_iload_n C (i := 2) (pc' := 19) dX11_saying_18 rfl rfl rfl ?_
      refine z_bipush C (pc' := 21) dX11_saying_19 kb_100 rfl ?_
      refine z_idiv C (pc' := 22) dX11_saying_21 rfl (fun _ => ?_)
      refine z_i2l C (pc' := 23) dX11_saying_22 rfl ?_
      refine z_iload_n C (i := 2) (pc' := 24) dX11_saying_23 rfl rfl rfl ?_
      refine z_bipush C (pc' := 26) dX11_saying_24 kb_100 rfl ?_
      refine z_irem C (pc' := 27) dX11_saying_26 rfl (fun _ => ?_)
      refine z_i2l C (pc' := 28) dX11_saying_27 rfl ?_
      refine z_callS1 C (pc' := 31) lsRX11_100 lc_X11_isOne rfl dX11_saying_28 rfl (by decide) (rX11_isOne l w (zw32 (Int.tdiv x1 10)) (Int.tmod x1 10) (zw32 (Int.tdiv x2 100)) (Int.tmod x2 100) u0) rfl (Nat.le_of_ble_eq_true rfl) (fun v1 u2 => ?_)
      refine z_if_ne C (pc' := 36) (pf := 34) dX11_saying_31 rfl rfl (fun _ => ?_) (fun _ => ?_)
      ·
        refine z_aload_n C (i := 0) (pc' := 37) dX11_saying_36 rfl rfl rfl ?_
        refine z_getf C (pc' := 40) flRX11_85 dX11_saying_37 rfl (fun v3 => ?_)
        refine z_bipush C (pc' := 42) dX11_saying_40 kb_16 rfl ?_
        refine z_icmp_ne C (pc' := 48) (pf := 45) dX11_saying_42 rfl rfl (fun _ => ?_) (fun _ => ?_)
        ·
          refine z_aload_n C (i := 0) (pc' := 49) dX11_saying_48 rfl rfl rfl ?_
          refine z_iload_n C (i := 1) (pc' := 50) dX11_saying_49 rfl rfl rfl ?_
          refine z_bipush C (pc' := 52) dX11_saying_50 kb_10 rfl ?_
          refine z_idiv C (pc' := 53) dX11_saying_52 rfl (fun _ => ?_)
          refine z_iload_n C (i := 1) (pc' := 54) dX11_saying_53 rfl rfl rfl ?_
          refine z_bipush C (pc' := 56) dX11_saying_54 kb_10 rfl ?_
          refine z_irem C (pc' := 57) dX11_saying_56 rfl (fun _ => ?_)
          refine z_iload_n C (i := 2) (pc' := 58) dX11_saying_57 rfl rfl rfl ?_
          refine z_bipush C (pc' := 60) dX11_saying_58 kb_100 rfl ?_
          refine z_idiv C (pc' := 61) dX11_saying_60 rfl (fun _ => ?_)
          refine z_iload_n C (i := 2) (pc' := 62) dX11_saying_61 rfl rfl rfl ?_
          refine z_bipush C (pc' := 64) dX11_saying_62 kb_100 rfl ?_
          refine z_irem C (pc' := 65) dX11_saying_64 rfl (fun _ => ?_)
          refine z_callV0 C (pc' := 68) lvRX11_104 lc_X11_adds rfl dX11_saying_65 rfl (by decide) (rX11_adds l w x0 (zw32 (Int.tdiv x1 10)) (Int.tmod x1 10) (zw32 (Int.tdiv x2 100)) (Int.tmod x2 100) u2) rfl (Nat.le_of_ble_eq_true rfl) (fun _ u4 => ?_)
          refine z_aload_n C (i := 0) (pc' := 69) dX11_saying_68 rfl rfl rfl ?_
          refine z_getf C (pc' := 72) flRX11_85 dX11_saying_69 rfl (fun v5 => ?_)
          refine z_iconst C (pc' := 73) dX11_saying_72 kc_1 rfl ?_
          refine z_isub C (pc' := 74) dX11_saying_73 rfl ?_
          exact z_ireturn C dX11_saying_74
        ·
          refine z_bipush C (pc' := 47) dX11_saying_45 kb_m3 rfl ?_
          exact z_ireturn C dX11_saying_47
      ·
        refine z_iconst C (pc' := 35) dX11_saying_34 kc_m1 rfl ?_
        exact z_ireturn C dX11_saying_35
def fX11_isShelf (x0 : Int) (u0 : zMem) : zRs := zcall (fX11_within x0 0 5 u0) (fun v1 u2 => zbl v1 (some (v1, u2)))
set_option maxRecDepth 100000 in
set_option maxHeartbeats 4000000 in
theorem rX11_isShelf (l : Launch) (w : zW) (x0 : Int) (u0 : zMem) : zSpc l w 2 yX11_isShelf cX11_isShelf 1 (some .boolean) 1 [zI x0] u0 (fX11_isShelf x0 u0) := by
  refine zSpc_of (own := RX11) pnRX11 rfl (Nat.le_of_ble_eq_true rfl) (fun G p e R s m args below meth c C hini => ?_)
  unfold fX11_isShelf
  refine zlocs (lb := [(0, zI x0)]) ⟨rfl, trivial⟩ ?_
  refine z_iload_n C (i := 0) (pc' := 1) dX11_isShelf_0 rfl rfl rfl ?_
  refine z_i2l C (pc' := 2) dX11_isShelf_1 rfl ?_
  refine z_lconst C (pc' := 3) dX11_isShelf_2 kl_0 rfl ?_
  refine z_ldc2 C (pc' := 6) dX11_isShelf_3 wlRX11_295 kj_5 rfl ?_
  refine z_callS1 C (pc' := 9) lsRX11_88 lc_X11_within rfl dX11_isShelf_6 rfl (by decide) (rX11_within l w x0 0 5 u0) rfl (Nat.le_of_ble_eq_true rfl) (fun v1 u2 => ?_)
  exact z_zreturn C dX11_isShelf_9
def fX11_sayings (x0 x1 x2 x3 : Int) (u0 : zMem) : zRs := zcall (fX11_isShelf x1 u0) (fun v1 u2 => if v1 = 0 then (some ((-1), u2)) else (zcall (fX11_within x3 1 15 u2) (fun v3 u4 => if v3 ≠ 0 then (zgf 11 33 x0 u4 (fun v5 => zald 20 v5 x1 u4 (fun v6 => zjn (fun (u7 : zMem) => zgf 11 33 x0 u7 (fun v9 => zald 20 v9 x1 u7 (fun v10 => zjn (fun (v11 : Int) (u12 : zMem) => zlp (fun _ _ _ => none) (fun k17 (v14 : Int) (v15 : Int) (u16 : zMem) => if v15 = 0 then (some (v14, u16)) else (if v14 ≥ x3 then (some (v14, u16)) else (zgf 11 34 x0 u16 (fun v18 => zald 20 v18 x1 u16 (fun v19 => zjn (fun (v20 : Int) (u21 : zMem) => zjn (fun (v23 : Int) (u24 : zMem) => zjn (fun (v26 : Int) (u27 : zMem) => k17 v26 v23 u27) (fun k28 => if v23 = 0 then (k28 v14 u24) else (zgf 11 35 x0 u24 (fun v29 => zald 21 v29 (zw32 ((zw32 ((zw32 (60 * x1)) + x2)) + (zw32 (4 * v14)))) u24 (fun v30 => zgf 11 35 x0 u24 (fun v31 => zald 21 v31 (zw32 ((zw32 ((zw32 ((zw32 (60 * x1)) + x2)) + (zw32 (4 * v14)))) + 1)) u24 (fun v32 => zgf 11 35 x0 u24 (fun v33 => zald 21 v33 (zw32 ((zw32 ((zw32 ((zw32 (60 * x1)) + x2)) + (zw32 (4 * v14)))) + 2)) u24 (fun v34 => zgf 11 35 x0 u24 (fun v35 => zald 21 v35 (zw32 ((zw32 ((zw32 ((zw32 (60 * x1)) + x2)) + (zw32 (4 * v14)))) + 3)) u24 (fun v36 => zvc 11 x0 (fX11_adds x0 (zw32 v30) (zw32 v32) (zw32 v34) (zw32 v36) u24) (fun _ u37 => k28 (zw32 (v14 + 1)) u37)))))))))))) (fun k25 => zjn (fun (u38 : zMem) => k25 0 u38) (fun k39 => if v20 = 0 then (k39 u21) else (zgf 11 35 x0 u21 (fun v40 => zald 21 v40 (zw32 ((zw32 ((zw32 (60 * x1)) + x2)) + (zw32 (4 * v14)))) u21 (fun v41 => zgf 11 35 x0 u21 (fun v42 => zald 21 v42 (zw32 ((zw32 ((zw32 ((zw32 (60 * x1)) + x2)) + (zw32 (4 * v14)))) + 1)) u21 (fun v43 => zgf 11 35 x0 u21 (fun v44 => zald 21 v44 (zw32 ((zw32 ((zw32 ((zw32 (60 * x1)) + x2)) + (zw32 (4 * v14)))) + 2)) u21 (fun v45 => zgf 11 35 x0 u21 (fun v46 => zald 21 v46 (zw32 ((zw32 ((zw32 ((zw32 (60 * x1)) + x2)) + (zw32 (4 * v14)))) + 3)) u21 (fun v47 => zcall (fX11_isOne v41 v43 v45 v47 u21) (fun v48 u49 => if v48 = 0 then (k39 u49) else (k25 1 u49)))))))))))))) (fun k22 => zjn (fun (u50 : zMem) => k22 0 u50) (fun k51 => if x2 > (zw32 ((zw32 (v19 - 4)) - (zw32 (4 * v14)))) then (k51 u16) else (zgf 11 6 x0 u16 (fun v52 => if v52 ≥ 16 then (k51 u16) else (k22 1 u16)))))))))) 1000000 0 v11 u12) (fun k13 => zjn (fun (u53 : zMem) => k13 0 u53) (fun k54 => if v10 ≠ 50 then (k54 u7) else (if x2 < 0 then (k54 u7) else (k13 1 u7))))))) (fun k8 => if v6 < 0 then (k8 u4) else (zgf 11 33 x0 u4 (fun v55 => zald 20 v55 x1 u4 (fun v56 => if v56 = 50 then (k8 u4) else (some ((-12), u4))))))))) else (some ((-1), u4)))))
set_option maxRecDepth 100000 in
set_option maxHeartbeats 4000000 in
theorem rX11_sayings (l : Launch) (w : zW) (x0 x1 x2 x3 : Int) (u0 : zMem) : zSpc l w 3 yX11_sayings cX11_sayings 7 (some .int) 1 [zR x0, zI x1, zI x2, zI x3] u0 (fX11_sayings x0 x1 x2 x3 u0) := by
  refine zSpc_of (own := RX11) pnRX11 rfl (Nat.le_of_ble_eq_true rfl) (fun G p e R s m args below meth c C hini => ?_)
  unfold fX11_sayings
  refine zlocs (lb := [(0, zR x0), (1, zI x1), (2, zI x2), (3, zI x3)]) ⟨rfl, rfl, rfl, rfl, trivial⟩ ?_
  refine z_iload_n C (i := 1) (pc' := 1) dX11_sayings_0 rfl rfl rfl ?_
  refine z_callS1 C (pc' := 4) lsRX11_108 lc_X11_isShelf rfl dX11_sayings_1 rfl (by decide) (rX11_isShelf l w x1 u0) rfl (Nat.le_of_ble_eq_true rfl) (fun v1 u2 => ?_)
  refine z_if_eq C (pc' := 19) (pf := 7) dX11_sayings_4 rfl rfl (fun _ => ?_) (fun _ => ?_)
  ·
    refine z_iconst C (pc' := 20) dX11_sayings_19 kc_m1 rfl ?_
    exact z_ireturn C dX11_sayings_20
  ·
    refine z_iload_n C (i := 3) (pc' := 8) dX11_sayings_7 rfl rfl rfl ?_
    refine z_i2l C (pc' := 9) dX11_sayings_8 rfl ?_
    refine z_lconst C (pc' := 10) dX11_sayings_9 kl_1 rfl ?_
    refine z_ldc2 C (pc' := 13) dX11_sayings_10 wlRX11_112 kj_15 rfl ?_
    refine z_callS1 C (pc' := 16) lsRX11_88 lc_X11_within rfl dX11_sayings_13 rfl (by decide) (rX11_within l w x3 1 15 u2) rfl (Nat.le_of_ble_eq_true rfl) (fun v3 u4 => ?_)
    refine z_if_ne C (pc' := 21) (pf := 19) dX11_sayings_16 rfl rfl (fun _ => ?_) (fun _ => ?_)
    ·
      refine z_aload_n C (i := 0) (pc' := 22) dX11_sayings_21 rfl rfl rfl ?_
      refine z_getfR C (pc' := 25) flRX11_65 dX11_sayings_22 rfl (fun v5 => ?_)
      refine z_iload_n C (i := 1) (pc' := 26) dX11_sayings_25 rfl rfl rfl ?_
      refine z_iald C (pc' := 27) dX11_sayings_26 rfl (fun v6 => ?_)
      refine zjoin (P := fun (f : zMem → zRs) => ∀ (u7 : zMem), zSim G p l e R s m args below meth c w 7 (znc u0) (zM w 1 (znc u0) below args s) 44 [(0, zR x0), (1, zI x1), (2, zI x2), (3, zI x3)] [] u7 (f u7)) (fun u7 => ?_) (fun k8 hk8 => ?_)
      ·
        refine z_iconst C (pc' := 45) dX11_sayings_44 kc_0 rfl ?_
        refine z_istore C (i := 4) (la' := [(4, zI 0), (0, zR x0), (1, zI x1), (2, zI x2), (3, zI x3)]) (pc' := 47) dX11_sayings_45 (by decide) rfl rfl ?_
        refine z_aload_n C (i := 0) (pc' := 48) dX11_sayings_47 rfl rfl rfl ?_
        refine z_getfR C (pc' := 51) flRX11_65 dX11_sayings_48 rfl (fun v9 => ?_)
        refine z_iload_n C (i := 1) (pc' := 52) dX11_sayings_51 rfl rfl rfl ?_
        refine z_iald C (pc' := 53) dX11_sayings_52 rfl (fun v10 => ?_)
        refine z_bipush C (pc' := 55) dX11_sayings_53 kb_50 rfl ?_
        refine zjoin (P := fun (f : Int → zMem → zRs) => ∀ (v11 : Int) (u12 : zMem), zSim G p l e R s m args below meth c w 7 (znc u0) (zM w 1 (znc u0) below args s) 67 [(0, zR x0), (1, zI x1), (2, zI x2), (3, zI x3), (4, zI 0)] [zI v11] u12 (f v11 u12)) (fun v11 u12 => ?_) (fun k13 hk13 => ?_)
        ·
          refine z_istore C (i := 5) (la' := [(5, zI v11), (0, zR x0), (1, zI x1), (2, zI x2), (3, zI x3), (4, zI 0)]) (pc' := 69) dX11_sayings_67 (by decide) rfl rfl ?_
          refine zlocs (lb := [(0, zR x0), (1, zI x1), (2, zI x2), (3, zI x3), (4, zI 0), (5, zI v11)]) ⟨rfl, rfl, rfl, rfl, rfl, rfl, trivial⟩ ?_
          refine zlp_ind (fun (f : Int → Int → zMem → zRs) => ∀ (v14 : Int) (v15 : Int) (u16 : zMem), zSim G p l e R s m args below meth c w 7 (znc u0) (zM w 1 (znc u0) below args s) 69 [(0, zR x0), (1, zI x1), (2, zI x2), (3, zI x3), (4, zI v14), (5, zI v15)] [] u16 (f v14 v15 u16)) (fun _ _ _ => znone) (fun k17 hk17 v14 v15 u16 => ?_) _ _ _ _
          refine z_iload C (pc' := 71) dX11_sayings_69 rfl rfl ?_
          refine z_if_eq C (pc' := 231) (pf := 74) dX11_sayings_71 rfl rfl (fun _ => ?_) (fun _ => ?_)
          ·
            refine z_iload C (pc' := 233) dX11_sayings_231 rfl rfl ?_
            exact z_ireturn C dX11_sayings_233
          ·
            refine z_iload C (pc' := 76) dX11_sayings_74 rfl rfl ?_
            refine z_iload_n C (i := 3) (pc' := 77) dX11_sayings_76 rfl rfl rfl ?_
            refine z_icmp_ge C (pc' := 231) (pf := 80) dX11_sayings_77 rfl rfl (fun _ => ?_) (fun _ => ?_)
            ·
              refine z_iload C (pc' := 233) dX11_sayings_231 rfl rfl ?_
              exact z_ireturn C dX11_sayings_233
            ·
              refine z_iload_n C (i := 2) (pc' := 81) dX11_sayings_80 rfl rfl rfl ?_
              refine z_aload_n C (i := 0) (pc' := 82) dX11_sayings_81 rfl rfl rfl ?_
              refine z_getfR C (pc' := 85) flRX11_68 dX11_sayings_82 rfl (fun v18 => ?_)
              refine z_iload_n C (i := 1) (pc' := 86) dX11_sayings_85 rfl rfl rfl ?_
              refine z_iald C (pc' := 87) dX11_sayings_86 rfl (fun v19 => ?_)
              refine z_iconst C (pc' := 88) dX11_sayings_87 kc_4 rfl ?_
              refine z_isub C (pc' := 89) dX11_sayings_88 rfl ?_
              refine z_iconst C (pc' := 90) dX11_sayings_89 kc_4 rfl ?_
              refine z_iload C (pc' := 92) dX11_sayings_90 rfl rfl ?_
              refine z_imul C (pc' := 93) dX11_sayings_92 rfl ?_
              refine z_isub C (pc' := 94) dX11_sayings_93 rfl ?_
              refine zjoin (P := fun (f : Int → zMem → zRs) => ∀ (v20 : Int) (u21 : zMem), zSim G p l e R s m args below meth c w 7 (znc u0) (zM w 1 (znc u0) below args s) 111 [(0, zR x0), (1, zI x1), (2, zI x2), (3, zI x3), (4, zI v14)] [zI v20] u21 (f v20 u21)) (fun v20 u21 => ?_) (fun k22 hk22 => ?_)
              ·
                refine z_istore C (i := 5) (la' := [(5, zI v20), (0, zR x0), (1, zI x1), (2, zI x2), (3, zI x3), (4, zI v14)]) (pc' := 113) dX11_sayings_111 (by decide) rfl rfl ?_
                refine z_bipush C (pc' := 115) dX11_sayings_113 kb_60 rfl ?_
                refine z_iload_n C (i := 1) (pc' := 116) dX11_sayings_115 rfl rfl rfl ?_
                refine z_imul C (pc' := 117) dX11_sayings_116 rfl ?_
                refine z_iload_n C (i := 2) (pc' := 118) dX11_sayings_117 rfl rfl rfl ?_
                refine z_iadd C (pc' := 119) dX11_sayings_118 rfl ?_
                refine z_iconst C (pc' := 120) dX11_sayings_119 kc_4 rfl ?_
                refine z_iload C (pc' := 122) dX11_sayings_120 rfl rfl ?_
                refine z_imul C (pc' := 123) dX11_sayings_122 rfl ?_
                refine z_iadd C (pc' := 124) dX11_sayings_123 rfl ?_
                refine z_istore C (i := 6) (la' := [(6, zI (zw32 ((zw32 ((zw32 (60 * x1)) + x2)) + (zw32 (4 * v14))))), (5, zI v20), (0, zR x0), (1, zI x1), (2, zI x2), (3, zI x3), (4, zI v14)]) (pc' := 126) dX11_sayings_124 (by decide) rfl rfl ?_
                refine z_iload C (pc' := 128) dX11_sayings_126 rfl rfl ?_
                refine zjoin (P := fun (f : Int → zMem → zRs) => ∀ (v23 : Int) (u24 : zMem), zSim G p l e R s m args below meth c w 7 (znc u0) (zM w 1 (znc u0) below args s) 176 [(0, zR x0), (1, zI x1), (2, zI x2), (3, zI x3), (4, zI v14), (6, zI (zw32 ((zw32 ((zw32 (60 * x1)) + x2)) + (zw32 (4 * v14)))))] [zI v23] u24 (f v23 u24)) (fun v23 u24 => ?_) (fun k25 hk25 => ?_)
                ·
                  refine z_istore C (i := 5) (la' := [(5, zI v23), (0, zR x0), (1, zI x1), (2, zI x2), (3, zI x3), (4, zI v14), (6, zI (zw32 ((zw32 ((zw32 (60 * x1)) + x2)) + (zw32 (4 * v14)))))]) (pc' := 178) dX11_sayings_176 (by decide) rfl rfl ?_
                  refine z_iload C (pc' := 180) dX11_sayings_178 rfl rfl ?_
                  refine zjoin (P := fun (f : Int → zMem → zRs) => ∀ (v26 : Int) (u27 : zMem), zSim G p l e R s m args below meth c w 7 (znc u0) (zM w 1 (znc u0) below args s) 228 [(0, zR x0), (1, zI x1), (2, zI x2), (3, zI x3), (4, zI v26), (5, zI v23)] [] u27 (f v26 u27)) (fun v26 u27 => ?_) (fun k28 hk28 => ?_)
                  ·
                    refine z_goto C (pc' := 69) dX11_sayings_228 rfl ?_
                    exact zlocs (lb := [(0, zR x0), (1, zI x1), (2, zI x2), (3, zI x3), (4, zI v26), (5, zI v23)]) ⟨rfl, rfl, rfl, rfl, rfl, rfl, trivial⟩ (hk17 _ _ _)
                  ·
                    refine z_if_eq C (pc' := 228) (pf := 183) dX11_sayings_180 rfl rfl (fun _ => ?_) (fun _ => ?_)
                    ·
                      exact zlocs (lb := [(0, zR x0), (1, zI x1), (2, zI x2), (3, zI x3), (4, zI v14), (5, zI v23)]) ⟨rfl, rfl, rfl, rfl, rfl, rfl, trivial⟩ (hk28 _ _)
                    ·
                      refine z_aload_n C (i := 0) (pc' := 184) dX11_sayings_183 rfl rfl rfl ?_
                      refine z_aload_n C (i := 0) (pc' := 185) dX11_sayings_184 rfl rfl rfl ?_
                      refine z_getfR C (pc' := 188) flRX11_71 dX11_sayings_185 rfl (fun v29 => ?_)
                      refine z_iload C (pc' := 190) dX11_sayings_188 rfl rfl ?_
                      refine z_lald C (pc' := 191) dX11_sayings_190 rfl (fun v30 => ?_)
                      refine z_l2i C (pc' := 192) dX11_sayings_191 rfl ?_
                      refine z_aload_n C (i := 0) (pc' := 193) dX11_sayings_192 rfl rfl rfl ?_
                      refine z_getfR C (pc' := 196) flRX11_71 dX11_sayings_193 rfl (fun v31 => ?_)
                      refine z_iload C (pc' := 198) dX11_sayings_196 rfl rfl ?_
                      refine z_iconst C (pc' := 199) dX11_sayings_198 kc_1 rfl ?_
                      refine z_iadd C (pc' := 200) dX11_sayings_199 rfl ?_
                      refine z_lald C (pc' := 201) dX11_sayings_200 rfl (fun v32 => ?_)
                      refine z_l2i C (pc' := 202) dX11_sayings_201 rfl ?_
                      refine z_aload_n C (i := 0) (pc' := 203) dX11_sayings_202 rfl rfl rfl ?_
                      refine z_getfR C (pc' := 206) flRX11_71 dX11_sayings_203 rfl (fun v33 => ?_)
                      refine z_iload C (pc' := 208) dX11_sayings_206 rfl rfl ?_
                      refine z_iconst C (pc' := 209) dX11_sayings_208 kc_2 rfl ?_
                      refine z_iadd C (pc' := 210) dX11_sayings_209 rfl ?_
                      refine z_lald C (pc' := 211) dX11_sayings_210 rfl (fun v34 => ?_)
                      refine z_l2i C (pc' := 212) dX11_sayings_211 rfl ?_
                      refine z_aload_n C (i := 0) (pc' := 213) dX11_sayings_212 rfl rfl rfl ?_
                      refine z_getfR C (pc' := 216) flRX11_71 dX11_sayings_213 rfl (fun v35 => ?_)
                      refine z_iload C (pc' := 218) dX11_sayings_216 rfl rfl ?_
                      refine z_iconst C (pc' := 219) dX11_sayings_218 kc_3 rfl ?_
                      refine z_iadd C (pc' := 220) dX11_sayings_219 rfl ?_
                      refine z_lald C (pc' := 221) dX11_sayings_220 rfl (fun v36 => ?_)
                      refine z_l2i C (pc' := 222) dX11_sayings_221 rfl ?_
                      refine z_callV0 C (pc' := 225) lvRX11_104 lc_X11_adds rfl dX11_sayings_222 rfl (by decide) (rX11_adds l w x0 (zw32 v30) (zw32 v32) (zw32 v34) (zw32 v36) u24) rfl (Nat.le_of_ble_eq_true rfl) (fun _ u37 => ?_)
                      refine z_iinc C (i := 4) (la' := [(4, zI (zw32 (v14 + 1))), (5, zI v23), (0, zR x0), (1, zI x1), (2, zI x2), (3, zI x3), (6, zI (zw32 ((zw32 ((zw32 (60 * x1)) + x2)) + (zw32 (4 * v14)))))]) (pc' := 228) dX11_sayings_225 rfl (by decide) rfl rfl ?_
                      exact zlocs (lb := [(0, zR x0), (1, zI x1), (2, zI x2), (3, zI x3), (4, zI (zw32 (v14 + 1))), (5, zI v23)]) ⟨rfl, rfl, rfl, rfl, rfl, rfl, trivial⟩ (hk28 _ _)
                ·
                  refine zjoin (P := fun (f : zMem → zRs) => ∀ (u38 : zMem), zSim G p l e R s m args below meth c w 7 (znc u0) (zM w 1 (znc u0) below args s) 175 [(0, zR x0), (1, zI x1), (2, zI x2), (3, zI x3), (4, zI v14), (6, zI (zw32 ((zw32 ((zw32 (60 * x1)) + x2)) + (zw32 (4 * v14)))))] [] u38 (f u38)) (fun u38 => ?_) (fun k39 hk39 => ?_)
                  ·
                    refine z_iconst C (pc' := 176) dX11_sayings_175 kc_0 rfl ?_
                    exact zlocs (lb := [(0, zR x0), (1, zI x1), (2, zI x2), (3, zI x3), (4, zI v14), (6, zI (zw32 ((zw32 ((zw32 (60 * x1)) + x2)) + (zw32 (4 * v14)))))]) ⟨rfl, rfl, rfl, rfl, rfl, rfl, trivial⟩ (hk25 _ _)
                  ·
                    refine z_if_eq C (pc' := 175) (pf := 131) dX11_sayings_128 rfl rfl (fun _ => ?_) (fun _ => ?_)
                    ·
                      exact zlocs (lb := [(0, zR x0), (1, zI x1), (2, zI x2), (3, zI x3), (4, zI v14), (6, zI (zw32 ((zw32 ((zw32 (60 * x1)) + x2)) + (zw32 (4 * v14)))))]) ⟨rfl, rfl, rfl, rfl, rfl, rfl, trivial⟩ (hk39 _)
                    ·
                      refine z_aload_n C (i := 0) (pc' := 132) dX11_sayings_131 rfl rfl rfl ?_
                      refine z_getfR C (pc' := 135) flRX11_71 dX11_sayings_132 rfl (fun v40 => ?_)
                      refine z_iload C (pc' := 137) dX11_sayings_135 rfl rfl ?_
                      refine z_lald C (pc' := 138) dX11_sayings_137 rfl (fun v41 => ?_)
                      refine z_aload_n C (i := 0) (pc' := 139) dX11_sayings_138 rfl rfl rfl ?_
                      refine z_getfR C (pc' := 142) flRX11_71 dX11_sayings_139 rfl (fun v42 => ?_)
                      refine z_iload C (pc' := 144) dX11_sayings_142 rfl rfl ?_
                      refine z_iconst C (pc' := 145) dX11_sayings_144 kc_1 rfl ?_
                      refine z_iadd C (pc' := 146) dX11_sayings_145 rfl ?_
                      refine z_lald C (pc' := 147) dX11_sayings_146 rfl (fun v43 => ?_)
                      refine z_aload_n C (i := 0) (pc' := 148) dX11_sayings_147 rfl rfl rfl ?_
                      refine z_getfR C (pc' := 151) flRX11_71 dX11_sayings_148 rfl (fun v44 => ?_)
                      refine z_iload C (pc' := 153) dX11_sayings_151 rfl rfl ?_
                      refine z_iconst C (pc' := 154) dX11_sayings_153 kc_2 rfl ?_
                      refine z_iadd C (pc' := 155) dX11_sayings_154 rfl ?_
                      refine z_lald C (pc' := 156) dX11_sayings_155 rfl (fun v45 => ?_)
                      refine z_aload_n C (i := 0) (pc' := 157) dX11_sayings_156 rfl rfl rfl ?_
                      refine z_getfR C (pc' := 160) flRX11_71 dX11_sayings_157 rfl (fun v46 => ?_)
                      refine z_iload C (pc' := 162) dX11_sayings_160 rfl rfl ?_
                      refine z_iconst C (pc' := 163) dX11_sayings_162 kc_3 rfl ?_
                      refine z_iadd C (pc' := 164) dX11_sayings_163 rfl ?_
                      refine z_lald C (pc' := 165) dX11_sayings_164 rfl (fun v47 => ?_)
                      refine z_callS1 C (pc' := 168) lsRX11_100 lc_X11_isOne rfl dX11_sayings_165 rfl (by decide) (rX11_isOne l w v41 v43 v45 v47 u21) rfl (Nat.le_of_ble_eq_true rfl) (fun v48 u49 => ?_)
                      refine z_if_eq C (pc' := 175) (pf := 171) dX11_sayings_168 rfl rfl (fun _ => ?_) (fun _ => ?_)
                      ·
                        exact zlocs (lb := [(0, zR x0), (1, zI x1), (2, zI x2), (3, zI x3), (4, zI v14), (6, zI (zw32 ((zw32 ((zw32 (60 * x1)) + x2)) + (zw32 (4 * v14)))))]) ⟨rfl, rfl, rfl, rfl, rfl, rfl, trivial⟩ (hk39 _)
                      ·
                        refine z_iconst C (pc' := 172) dX11_sayings_171 kc_1 rfl ?_
                        refine z_goto C (pc' := 176) dX11_sayings_172 rfl ?_
                        exact zlocs (lb := [(0, zR x0), (1, zI x1), (2, zI x2), (3, zI x3), (4, zI v14), (6, zI (zw32 ((zw32 ((zw32 (60 * x1)) + x2)) + (zw32 (4 * v14)))))]) ⟨rfl, rfl, rfl, rfl, rfl, rfl, trivial⟩ (hk25 _ _)
              ·
                refine zjoin (P := fun (f : zMem → zRs) => ∀ (u50 : zMem), zSim G p l e R s m args below meth c w 7 (znc u0) (zM w 1 (znc u0) below args s) 110 [(0, zR x0), (1, zI x1), (2, zI x2), (3, zI x3), (4, zI v14)] [] u50 (f u50)) (fun u50 => ?_) (fun k51 hk51 => ?_)
                ·
                  refine z_iconst C (pc' := 111) dX11_sayings_110 kc_0 rfl ?_
                  exact zlocs (lb := [(0, zR x0), (1, zI x1), (2, zI x2), (3, zI x3), (4, zI v14)]) ⟨rfl, rfl, rfl, rfl, rfl, trivial⟩ (hk22 _ _)
                ·
                  refine z_icmp_gt C (pc' := 110) (pf := 97) dX11_sayings_94 rfl rfl (fun _ => ?_) (fun _ => ?_)
                  ·
                    exact zlocs (lb := [(0, zR x0), (1, zI x1), (2, zI x2), (3, zI x3), (4, zI v14)]) ⟨rfl, rfl, rfl, rfl, rfl, trivial⟩ (hk51 _)
                  ·
                    refine z_aload_n C (i := 0) (pc' := 98) dX11_sayings_97 rfl rfl rfl ?_
                    refine z_getf C (pc' := 101) flRX11_85 dX11_sayings_98 rfl (fun v52 => ?_)
                    refine z_bipush C (pc' := 103) dX11_sayings_101 kb_16 rfl ?_
                    refine z_icmp_ge C (pc' := 110) (pf := 106) dX11_sayings_103 rfl rfl (fun _ => ?_) (fun _ => ?_)
                    ·
                      exact zlocs (lb := [(0, zR x0), (1, zI x1), (2, zI x2), (3, zI x3), (4, zI v14)]) ⟨rfl, rfl, rfl, rfl, rfl, trivial⟩ (hk51 _)
                    ·
                      refine z_iconst C (pc' := 107) dX11_sayings_106 kc_1 rfl ?_
                      refine z_goto C (pc' := 111) dX11_sayings_107 rfl ?_
                      exact zlocs (lb := [(0, zR x0), (1, zI x1), (2, zI x2), (3, zI x3), (4, zI v14)]) ⟨rfl, rfl, rfl, rfl, rfl, trivial⟩ (hk22 _ _)
        ·
          refine zjoin (P := fun (f : zMem → zRs) => ∀ (u53 : zMem), zSim G p l e R s m args below meth c w 7 (znc u0) (zM w 1 (znc u0) below args s) 66 [(0, zR x0), (1, zI x1), (2, zI x2), (3, zI x3), (4, zI 0)] [] u53 (f u53)) (fun u53 => ?_) (fun k54 hk54 => ?_)
          ·
            refine z_iconst C (pc' := 67) dX11_sayings_66 kc_0 rfl ?_
            exact zlocs (lb := [(0, zR x0), (1, zI x1), (2, zI x2), (3, zI x3), (4, zI 0)]) ⟨rfl, rfl, rfl, rfl, rfl, trivial⟩ (hk13 _ _)
          ·
            refine z_icmp_ne C (pc' := 66) (pf := 58) dX11_sayings_55 rfl rfl (fun _ => ?_) (fun _ => ?_)
            ·
              exact zlocs (lb := [(0, zR x0), (1, zI x1), (2, zI x2), (3, zI x3), (4, zI 0)]) ⟨rfl, rfl, rfl, rfl, rfl, trivial⟩ (hk54 _)
            ·
              refine z_iload_n C (i := 2) (pc' := 59) dX11_sayings_58 rfl rfl rfl ?_
              refine z_if_lt C (pc' := 66) (pf := 62) dX11_sayings_59 rfl rfl (fun _ => ?_) (fun _ => ?_)
              ·
                exact zlocs (lb := [(0, zR x0), (1, zI x1), (2, zI x2), (3, zI x3), (4, zI 0)]) ⟨rfl, rfl, rfl, rfl, rfl, trivial⟩ (hk54 _)
              ·
                refine z_iconst C (pc' := 63) dX11_sayings_62 kc_1 rfl ?_
                refine z_goto C (pc' := 67) dX11_sayings_63 rfl ?_
                exact zlocs (lb := [(0, zR x0), (1, zI x1), (2, zI x2), (3, zI x3), (4, zI 0)]) ⟨rfl, rfl, rfl, rfl, rfl, trivial⟩ (hk13 _ _)
      ·
        refine z_if_lt C (pc' := 44) (pf := 30) dX11_sayings_27 rfl rfl (fun _ => ?_) (fun _ => ?_)
        ·
          exact zlocs (lb := [(0, zR x0), (1, zI x1), (2, zI x2), (3, zI x3)]) ⟨rfl, rfl, rfl, rfl, trivial⟩ (hk8 _)
        ·
          refine z_aload_n C (i := 0) (pc' := 31) dX11_sayings_30 rfl rfl rfl ?_
          refine z_getfR C (pc' := 34) flRX11_65 dX11_sayings_31 rfl (fun v55 => ?_)
          refine z_iload_n C (i := 1) (pc' := 35) dX11_sayings_34 rfl rfl rfl ?_
          refine z_iald C (pc' := 36) dX11_sayings_35 rfl (fun v56 => ?_)
          refine z_bipush C (pc' := 38) dX11_sayings_36 kb_50 rfl ?_
          refine z_icmp_eq C (pc' := 44) (pf := 41) dX11_sayings_38 rfl rfl (fun _ => ?_) (fun _ => ?_)
          ·
            exact zlocs (lb := [(0, zR x0), (1, zI x1), (2, zI x2), (3, zI x3)]) ⟨rfl, rfl, rfl, rfl, trivial⟩ (hk8 _)
          ·
            refine z_bipush C (pc' := 43) dX11_sayings_41 kb_m12 rfl ?_
            exact z_ireturn C dX11_sayings_43
    ·
      refine z_iconst C (pc' := 20) dX11_sayings_19 kc_m1 rfl ?_
      exact z_ireturn C dX11_sayings_20
def fX11_mend (x0 x1 x2 x3 : Int) (u0 : zMem) : zRs := zvc 11 x0 (fX11_isSaying x0 x1 u0) (fun v1 u2 => if v1 = 0 then (some ((-1), u2)) else (zcall (fX11_within x2 0 3 u2) (fun v3 u4 => if v3 ≠ 0 then (zjn (fun (v5 : Int) (u6 : zMem) => if v5 = 0 then (some ((-1), u6)) else (zvc 11 x0 (fX11_becomes x0 (zw32 ((zw32 (16 * x2)) + x1)) x3 u6) (fun v8 u9 => some (v8, u9)))) (fun k7 => if x2 ≠ 3 then (zjn (fun (v10 : Int) (u11 : zMem) => zcall (fX11_within x3 0 v10 u11) (fun v13 u14 => k7 v13 u14)) (fun k12 => if x2 ≠ 0 then (if x2 ≠ 1 then (k12 7 u4) else (k12 3 u4)) else (k12 10 u4))) else (zcall (fX11_within x3 1 30 u4) (fun v15 u16 => k7 v15 u16)))) else (some ((-1), u4)))))
set_option maxRecDepth 100000 in
set_option maxHeartbeats 4000000 in
theorem rX11_mend (l : Launch) (w : zW) (x0 x1 x2 x3 : Int) (u0 : zMem) : zSpc l w 3 yX11_mend cX11_mend 5 (some .int) 1 [zR x0, zI x1, zI x2, zI x3] u0 (fX11_mend x0 x1 x2 x3 u0) := by
  refine zSpc_of (own := RX11) pnRX11 rfl (Nat.le_of_ble_eq_true rfl) (fun G p e R s m args below meth c C hini => ?_)
  unfold fX11_mend
  refine zlocs (lb := [(0, zR x0), (1, zI x1), (2, zI x2), (3, zI x3)]) ⟨rfl, rfl, rfl, rfl, trivial⟩ ?_
  refine z_aload_n C (i := 0) (pc' := 1) dX11_mend_0 rfl rfl rfl ?_
  refine z_iload_n C (i := 1) (pc' := 2) dX11_mend_1 rfl rfl rfl ?_
  refine z_callV1 C (pc' := 5) lvRX11_114 lc_X11_isSaying rfl dX11_mend_2 rfl (by decide) (rX11_isSaying l w x0 x1 u0) rfl (Nat.le_of_ble_eq_true rfl) (fun v1 u2 => ?_)
  refine z_if_eq C (pc' := 20) (pf := 8) dX11_mend_5 rfl rfl (fun _ => ?_) (fun _ => ?_)
  ·
    refine z_iconst C (pc' := 21) dX11_mend_20 kc_m1 rfl ?_
    exact z_ireturn C dX11_mend_21
  ·
    refine z_iload_n C (i := 2) (pc' := 9) dX11_mend_8 rfl rfl rfl ?_
    refine z_i2l C (pc' := 10) dX11_mend_9 rfl ?_
    refine z_lconst C (pc' := 11) dX11_mend_10 kl_0 rfl ?_
    refine z_ldc2 C (pc' := 14) dX11_mend_11 wlRX11_94 kj_3 rfl ?_
    refine z_callS1 C (pc' := 17) lsRX11_88 lc_X11_within rfl dX11_mend_14 rfl (by decide) (rX11_within l w x2 0 3 u2) rfl (Nat.le_of_ble_eq_true rfl) (fun v3 u4 => ?_)
    refine z_if_ne C (pc' := 22) (pf := 20) dX11_mend_17 rfl rfl (fun _ => ?_) (fun _ => ?_)
    ·
      refine z_iload_n C (i := 2) (pc' := 23) dX11_mend_22 rfl rfl rfl ?_
      refine z_iconst C (pc' := 24) dX11_mend_23 kc_3 rfl ?_
      refine zjoin (P := fun (f : Int → zMem → zRs) => ∀ (v5 : Int) (u6 : zMem), zSim G p l e R s m args below meth c w 5 (znc u0) (zM w 1 (znc u0) below args s) 69 [(0, zR x0), (1, zI x1), (2, zI x2), (3, zI x3)] [zI v5] u6 (f v5 u6)) (fun v5 u6 => ?_) (fun k7 hk7 => ?_)
      ·
        refine z_istore C (i := 4) (la' := [(4, zI v5), (0, zR x0), (1, zI x1), (2, zI x2), (3, zI x3)]) (pc' := 71) dX11_mend_69 (by decide) rfl rfl ?_
        refine z_iload C (pc' := 73) dX11_mend_71 rfl rfl ?_
        refine z_if_eq C (pc' := 90) (pf := 76) dX11_mend_73 rfl rfl (fun _ => ?_) (fun _ => ?_)
        ·
          refine z_iconst C (pc' := 91) dX11_mend_90 kc_m1 rfl ?_
          exact z_ireturn C dX11_mend_91
        ·
          refine z_aload_n C (i := 0) (pc' := 77) dX11_mend_76 rfl rfl rfl ?_
          refine z_bipush C (pc' := 79) dX11_mend_77 kb_16 rfl ?_
          refine z_iload_n C (i := 2) (pc' := 80) dX11_mend_79 rfl rfl rfl ?_
          refine z_imul C (pc' := 81) dX11_mend_80 rfl ?_
          refine z_iload_n C (i := 1) (pc' := 82) dX11_mend_81 rfl rfl rfl ?_
          refine z_iadd C (pc' := 83) dX11_mend_82 rfl ?_
          refine z_iload_n C (i := 3) (pc' := 84) dX11_mend_83 rfl rfl rfl ?_
          refine z_callV1 C (pc' := 87) lvRX11_117 lc_X11_becomes rfl dX11_mend_84 rfl (by decide) (rX11_becomes l w x0 (zw32 ((zw32 (16 * x2)) + x1)) x3 u6) rfl (Nat.le_of_ble_eq_true rfl) (fun v8 u9 => ?_)
          refine z_goto C (pc' := 91) dX11_mend_87 rfl ?_
          exact z_ireturn C dX11_mend_91
      ·
        refine z_icmp_ne C (pc' := 39) (pf := 27) dX11_mend_24 rfl rfl (fun _ => ?_) (fun _ => ?_)
        ·
          refine z_iload_n C (i := 3) (pc' := 40) dX11_mend_39 rfl rfl rfl ?_
          refine z_i2l C (pc' := 41) dX11_mend_40 rfl ?_
          refine z_lconst C (pc' := 42) dX11_mend_41 kl_0 rfl ?_
          refine z_iload_n C (i := 2) (pc' := 43) dX11_mend_42 rfl rfl rfl ?_
          refine zjoin (P := fun (f : Int → zMem → zRs) => ∀ (v10 : Int) (u11 : zMem), zSim G p l e R s m args below meth c w 5 (znc u0) (zM w 1 (znc u0) below args s) 66 [(0, zR x0), (1, zI x1), (2, zI x2), (3, zI x3)] [zL v10, zL 0, zL x3] u11 (f v10 u11)) (fun v10 u11 => ?_) (fun k12 hk12 => ?_)
          ·
            refine z_callS1 C (pc' := 69) lsRX11_88 lc_X11_within rfl dX11_mend_66 rfl (by decide) (rX11_within l w x3 0 v10 u11) rfl (Nat.le_of_ble_eq_true rfl) (fun v13 u14 => ?_)
            exact zlocs (lb := [(0, zR x0), (1, zI x1), (2, zI x2), (3, zI x3)]) ⟨rfl, rfl, rfl, rfl, trivial⟩ (hk7 _ _)
          ·
            refine z_if_ne C (pc' := 52) (pf := 46) dX11_mend_43 rfl rfl (fun _ => ?_) (fun _ => ?_)
            ·
              refine z_iload_n C (i := 2) (pc' := 53) dX11_mend_52 rfl rfl rfl ?_
              refine z_iconst C (pc' := 54) dX11_mend_53 kc_1 rfl ?_
              refine z_icmp_ne C (pc' := 63) (pf := 57) dX11_mend_54 rfl rfl (fun _ => ?_) (fun _ => ?_)
              ·
                refine z_ldc2 C (pc' := 66) dX11_mend_63 wlRX11_96 kj_7 rfl ?_
                exact zlocs (lb := [(0, zR x0), (1, zI x1), (2, zI x2), (3, zI x3)]) ⟨rfl, rfl, rfl, rfl, trivial⟩ (hk12 _ _)
              ·
                refine z_ldc2 C (pc' := 60) dX11_mend_57 wlRX11_94 kj_3 rfl ?_
                refine z_goto C (pc' := 66) dX11_mend_60 rfl ?_
                exact zlocs (lb := [(0, zR x0), (1, zI x1), (2, zI x2), (3, zI x3)]) ⟨rfl, rfl, rfl, rfl, trivial⟩ (hk12 _ _)
            ·
              refine z_ldc2 C (pc' := 49) dX11_mend_46 wlRX11_92 kj_10 rfl ?_
              refine z_goto C (pc' := 66) dX11_mend_49 rfl ?_
              exact zlocs (lb := [(0, zR x0), (1, zI x1), (2, zI x2), (3, zI x3)]) ⟨rfl, rfl, rfl, rfl, trivial⟩ (hk12 _ _)
        ·
          refine z_iload_n C (i := 3) (pc' := 28) dX11_mend_27 rfl rfl rfl ?_
          refine z_i2l C (pc' := 29) dX11_mend_28 rfl ?_
          refine z_lconst C (pc' := 30) dX11_mend_29 kl_1 rfl ?_
          refine z_ldc2 C (pc' := 33) dX11_mend_30 wlRX11_98 kj_30 rfl ?_
          refine z_callS1 C (pc' := 36) lsRX11_88 lc_X11_within rfl dX11_mend_33 rfl (by decide) (rX11_within l w x3 1 30 u4) rfl (Nat.le_of_ble_eq_true rfl) (fun v15 u16 => ?_)
          refine z_goto C (pc' := 69) dX11_mend_36 rfl ?_
          exact zlocs (lb := [(0, zR x0), (1, zI x1), (2, zI x2), (3, zI x3)]) ⟨rfl, rfl, rfl, rfl, trivial⟩ (hk7 _ _)
    ·
      refine z_iconst C (pc' := 21) dX11_mend_20 kc_m1 rfl ?_
      exact z_ireturn C dX11_mend_21
def fX11_minuteOf (x0 x1 : Int) (u0 : zMem) : zRs := zlp (fun _ _ _ => none) (fun k4 (v1 : Int) (v2 : Int) (u3 : zMem) => if v2 ≥ x1 then (some (v1, u3)) else (zgf 11 0 x0 u3 (fun v5 => zald 20 v5 (zw32 (48 + v2)) u3 (fun v6 => k4 (zw32 (v1 + v6)) (zw32 (v2 + 1)) u3)))) 1000000 0 0 u0
set_option maxRecDepth 100000 in
set_option maxHeartbeats 4000000 in
theorem rX11_minuteOf (l : Launch) (w : zW) (x0 x1 : Int) (u0 : zMem) : zSpc l w 1 yX11_minuteOf cX11_minuteOf 4 (some .int) 1 [zR x0, zI x1] u0 (fX11_minuteOf x0 x1 u0) := by
  refine zSpc_of (own := RX11) pnRX11 rfl (Nat.le_of_ble_eq_true rfl) (fun G p e R s m args below meth c C hini => ?_)
  unfold fX11_minuteOf
  refine zlocs (lb := [(0, zR x0), (1, zI x1)]) ⟨rfl, rfl, trivial⟩ ?_
  refine z_iconst C (pc' := 1) dX11_minuteOf_0 kc_0 rfl ?_
  refine z_istore_n C (i := 2) (la' := [(2, zI 0), (0, zR x0), (1, zI x1)]) (pc' := 2) dX11_minuteOf_1 rfl (by decide) rfl rfl ?_
  refine z_iconst C (pc' := 3) dX11_minuteOf_2 kc_0 rfl ?_
  refine z_istore_n C (i := 3) (la' := [(3, zI 0), (2, zI 0), (0, zR x0), (1, zI x1)]) (pc' := 4) dX11_minuteOf_3 rfl (by decide) rfl rfl ?_
  refine zlocs (lb := [(0, zR x0), (1, zI x1), (2, zI 0), (3, zI 0)]) ⟨rfl, rfl, rfl, rfl, trivial⟩ ?_
  refine zlp_ind (fun (f : Int → Int → zMem → zRs) => ∀ (v1 : Int) (v2 : Int) (u3 : zMem), zSim G p l e R s m args below meth c w 4 (znc u0) (zM w 1 (znc u0) below args s) 4 [(0, zR x0), (1, zI x1), (2, zI v1), (3, zI v2)] [] u3 (f v1 v2 u3)) (fun _ _ _ => znone) (fun k4 hk4 v1 v2 u3 => ?_) _ _ _ _
  refine z_iload_n C (i := 3) (pc' := 5) dX11_minuteOf_4 rfl rfl rfl ?_
  refine z_iload_n C (i := 1) (pc' := 6) dX11_minuteOf_5 rfl rfl rfl ?_
  refine z_icmp_ge C (pc' := 27) (pf := 9) dX11_minuteOf_6 rfl rfl (fun _ => ?_) (fun _ => ?_)
  ·
    refine z_iload_n C (i := 2) (pc' := 28) dX11_minuteOf_27 rfl rfl rfl ?_
    exact z_ireturn C dX11_minuteOf_28
  ·
    refine z_iload_n C (i := 2) (pc' := 10) dX11_minuteOf_9 rfl rfl rfl ?_
    refine z_aload_n C (i := 0) (pc' := 11) dX11_minuteOf_10 rfl rfl rfl ?_
    refine z_getfR C (pc' := 14) flRX11_9 dX11_minuteOf_11 rfl (fun v5 => ?_)
    refine z_bipush C (pc' := 16) dX11_minuteOf_14 kb_48 rfl ?_
    refine z_iload_n C (i := 3) (pc' := 17) dX11_minuteOf_16 rfl rfl rfl ?_
    refine z_iadd C (pc' := 18) dX11_minuteOf_17 rfl ?_
    refine z_iald C (pc' := 19) dX11_minuteOf_18 rfl (fun v6 => ?_)
    refine z_iadd C (pc' := 20) dX11_minuteOf_19 rfl ?_
    refine z_istore_n C (i := 2) (la' := [(2, zI (zw32 (v1 + v6))), (0, zR x0), (1, zI x1), (3, zI v2)]) (pc' := 21) dX11_minuteOf_20 rfl (by decide) rfl rfl ?_
    refine z_iinc C (i := 3) (la' := [(3, zI (zw32 (v2 + 1))), (2, zI (zw32 (v1 + v6))), (0, zR x0), (1, zI x1)]) (pc' := 24) dX11_minuteOf_21 rfl (by decide) rfl rfl ?_
    refine z_goto C (pc' := 4) dX11_minuteOf_24 rfl ?_
    exact zlocs (lb := [(0, zR x0), (1, zI x1), (2, zI (zw32 (v1 + v6))), (3, zI (zw32 (v2 + 1)))]) ⟨rfl, rfl, rfl, rfl, trivial⟩ (hk4 _ _ _)
def fX11_of (x0 x1 x2 : Int) (u0 : zMem) : zRs := zvc 11 x0 (fX11_isSaying x0 x1 u0) (fun v1 u2 => if v1 = 0 then (some ((-1), u2)) else (zcall (fX11_within x2 0 4 u2) (fun v3 u4 => if v3 ≠ 0 then (if x2 ≠ 4 then (zgf 11 0 x0 u4 (fun v5 => zald 20 v5 (zw32 ((zw32 (16 * x2)) + x1)) u4 (fun v6 => some (v6, u4)))) else (zvc 11 x0 (fX11_minuteOf x0 x1 u4) (fun v7 u8 => some (v7, u8)))) else (some ((-1), u4)))))
set_option maxRecDepth 100000 in
set_option maxHeartbeats 4000000 in
theorem rX11_of (l : Launch) (w : zW) (x0 x1 x2 : Int) (u0 : zMem) : zSpc l w 3 yX11_of cX11_of 3 (some .int) 1 [zR x0, zI x1, zI x2] u0 (fX11_of x0 x1 x2 u0) := by
  refine zSpc_of (own := RX11) pnRX11 rfl (Nat.le_of_ble_eq_true rfl) (fun G p e R s m args below meth c C hini => ?_)
  unfold fX11_of
  refine zlocs (lb := [(0, zR x0), (1, zI x1), (2, zI x2)]) ⟨rfl, rfl, rfl, trivial⟩ ?_
  refine z_aload_n C (i := 0) (pc' := 1) dX11_of_0 rfl rfl rfl ?_
  refine z_iload_n C (i := 1) (pc' := 2) dX11_of_1 rfl rfl rfl ?_
  refine z_callV1 C (pc' := 5) lvRX11_114 lc_X11_isSaying rfl dX11_of_2 rfl (by decide) (rX11_isSaying l w x0 x1 u0) rfl (Nat.le_of_ble_eq_true rfl) (fun v1 u2 => ?_)
  refine z_if_eq C (pc' := 20) (pf := 8) dX11_of_5 rfl rfl (fun _ => ?_) (fun _ => ?_)
  ·
    refine z_iconst C (pc' := 21) dX11_of_20 kc_m1 rfl ?_
    exact z_ireturn C dX11_of_21
  ·
    refine z_iload_n C (i := 2) (pc' := 9) dX11_of_8 rfl rfl rfl ?_
    refine z_i2l C (pc' := 10) dX11_of_9 rfl ?_
    refine z_lconst C (pc' := 11) dX11_of_10 kl_0 rfl ?_
    refine z_ldc2 C (pc' := 14) dX11_of_11 wlRX11_121 kj_4 rfl ?_
    refine z_callS1 C (pc' := 17) lsRX11_88 lc_X11_within rfl dX11_of_14 rfl (by decide) (rX11_within l w x2 0 4 u2) rfl (Nat.le_of_ble_eq_true rfl) (fun v3 u4 => ?_)
    refine z_if_ne C (pc' := 22) (pf := 20) dX11_of_17 rfl rfl (fun _ => ?_) (fun _ => ?_)
    ·
      refine z_iload_n C (i := 2) (pc' := 23) dX11_of_22 rfl rfl rfl ?_
      refine z_iconst C (pc' := 24) dX11_of_23 kc_4 rfl ?_
      refine z_icmp_ne C (pc' := 35) (pf := 27) dX11_of_24 rfl rfl (fun _ => ?_) (fun _ => ?_)
      ·
        refine z_aload_n C (i := 0) (pc' := 36) dX11_of_35 rfl rfl rfl ?_
        refine z_getfR C (pc' := 39) flRX11_9 dX11_of_36 rfl (fun v5 => ?_)
        refine z_bipush C (pc' := 41) dX11_of_39 kb_16 rfl ?_
        refine z_iload_n C (i := 2) (pc' := 42) dX11_of_41 rfl rfl rfl ?_
        refine z_imul C (pc' := 43) dX11_of_42 rfl ?_
        refine z_iload_n C (i := 1) (pc' := 44) dX11_of_43 rfl rfl rfl ?_
        refine z_iadd C (pc' := 45) dX11_of_44 rfl ?_
        refine z_iald C (pc' := 46) dX11_of_45 rfl (fun v6 => ?_)
        exact z_ireturn C dX11_of_46
      ·
        refine z_aload_n C (i := 0) (pc' := 28) dX11_of_27 rfl rfl rfl ?_
        refine z_iload_n C (i := 1) (pc' := 29) dX11_of_28 rfl rfl rfl ?_
        refine z_callV1 C (pc' := 32) lvRX11_123 lc_X11_minuteOf rfl dX11_of_29 rfl (by decide) (rX11_minuteOf l w x0 x1 u4) rfl (Nat.le_of_ble_eq_true rfl) (fun v7 u8 => ?_)
        refine z_goto C (pc' := 46) dX11_of_32 rfl ?_
        exact z_ireturn C dX11_of_46
    ·
      refine z_iconst C (pc' := 21) dX11_of_20 kc_m1 rfl ?_
      exact z_ireturn C dX11_of_21
def fX11_isWriter (x0 x1 : Int) (u0 : zMem) : zRs := zgf 11 9 x0 u0 (fun v1 => zcall (fX11_within x1 0 (zw32 (v1 - 1)) u0) (fun v2 u3 => zbl v2 (some (v2, u3))))
set_option maxRecDepth 100000 in
set_option maxHeartbeats 4000000 in
theorem rX11_isWriter (l : Launch) (w : zW) (x0 x1 : Int) (u0 : zMem) : zSpc l w 2 yX11_isWriter cX11_isWriter 2 (some .boolean) 1 [zR x0, zI x1] u0 (fX11_isWriter x0 x1 u0) := by
  refine zSpc_of (own := RX11) pnRX11 rfl (Nat.le_of_ble_eq_true rfl) (fun G p e R s m args below meth c C hini => ?_)
  unfold fX11_isWriter
  refine zlocs (lb := [(0, zR x0), (1, zI x1)]) ⟨rfl, rfl, trivial⟩ ?_
  refine z_iload_n C (i := 1) (pc' := 1) dX11_isWriter_0 rfl rfl rfl ?_
  refine z_i2l C (pc' := 2) dX11_isWriter_1 rfl ?_
  refine z_lconst C (pc' := 3) dX11_isWriter_2 kl_0 rfl ?_
  refine z_aload_n C (i := 0) (pc' := 4) dX11_isWriter_3 rfl rfl rfl ?_
  refine z_getf C (pc' := 7) flRX11_127 dX11_isWriter_4 rfl (fun v1 => ?_)
  refine z_iconst C (pc' := 8) dX11_isWriter_7 kc_1 rfl ?_
  refine z_isub C (pc' := 9) dX11_isWriter_8 rfl ?_
  refine z_i2l C (pc' := 10) dX11_isWriter_9 rfl ?_
  refine z_callS1 C (pc' := 13) lsRX11_88 lc_X11_within rfl dX11_isWriter_10 rfl (by decide) (rX11_within l w x1 0 (zw32 (v1 - 1)) u0) rfl (Nat.le_of_ble_eq_true rfl) (fun v2 u3 => ?_)
  exact z_zreturn C dX11_isWriter_13
def fX11_feed (x0 x1 : Int) (u0 : zMem) : zRs := zcall (fX11_within x1 0 255 u0) (fun v1 u2 => if v1 ≠ 0 then (zgf 11 8 x0 u2 (fun v3 => if v3 ≠ 120 then (zgf 11 7 x0 u2 (fun v4 => zgf 11 8 x0 u2 (fun v5 => zast 20 v4 v5 x1 u2 (fun u6 => zgf 11 8 x0 u6 (fun v7 => zpf 11 8 x0 (zw32 (v7 + 1)) u6 (fun u8 => zgf 11 8 x0 u8 (fun v9 => some (v9, u8)))))))) else (some ((-3), u2)))) else (some ((-1), u2)))
set_option maxRecDepth 100000 in
set_option maxHeartbeats 4000000 in
theorem rX11_feed (l : Launch) (w : zW) (x0 x1 : Int) (u0 : zMem) : zSpc l w 2 yX11_feed cX11_feed 2 (some .int) 1 [zR x0, zI x1] u0 (fX11_feed x0 x1 u0) := by
  refine zSpc_of (own := RX11) pnRX11 rfl (Nat.le_of_ble_eq_true rfl) (fun G p e R s m args below meth c C hini => ?_)
  unfold fX11_feed
  refine zlocs (lb := [(0, zR x0), (1, zI x1)]) ⟨rfl, rfl, trivial⟩ ?_
  refine z_iload_n C (i := 1) (pc' := 1) dX11_feed_0 rfl rfl rfl ?_
  refine z_i2l C (pc' := 2) dX11_feed_1 rfl ?_
  refine z_lconst C (pc' := 3) dX11_feed_2 kl_0 rfl ?_
  refine z_ldc2 C (pc' := 6) dX11_feed_3 wlRX11_130 kj_255 rfl ?_
  refine z_callS1 C (pc' := 9) lsRX11_88 lc_X11_within rfl dX11_feed_6 rfl (by decide) (rX11_within l w x1 0 255 u0) rfl (Nat.le_of_ble_eq_true rfl) (fun v1 u2 => ?_)
  refine z_if_ne C (pc' := 14) (pf := 12) dX11_feed_9 rfl rfl (fun _ => ?_) (fun _ => ?_)
  ·
    refine z_aload_n C (i := 0) (pc' := 15) dX11_feed_14 rfl rfl rfl ?_
    refine z_getf C (pc' := 18) flRX11_132 dX11_feed_15 rfl (fun v3 => ?_)
    refine z_bipush C (pc' := 20) dX11_feed_18 kb_120 rfl ?_
    refine z_icmp_ne C (pc' := 26) (pf := 23) dX11_feed_20 rfl rfl (fun _ => ?_) (fun _ => ?_)
    ·
      refine z_aload_n C (i := 0) (pc' := 27) dX11_feed_26 rfl rfl rfl ?_
      refine z_getfR C (pc' := 30) flRX11_22 dX11_feed_27 rfl (fun v4 => ?_)
      refine z_aload_n C (i := 0) (pc' := 31) dX11_feed_30 rfl rfl rfl ?_
      refine z_getf C (pc' := 34) flRX11_132 dX11_feed_31 rfl (fun v5 => ?_)
      refine z_iload_n C (i := 1) (pc' := 35) dX11_feed_34 rfl rfl rfl ?_
      refine z_iast C (pc' := 36) dX11_feed_35 rfl (fun u6 => ?_)
      refine z_aload_n C (i := 0) (pc' := 37) dX11_feed_36 rfl rfl rfl ?_
      refine z_dup C (pc' := 38) dX11_feed_37 rfl rfl ?_
      refine z_getf C (pc' := 41) flRX11_132 dX11_feed_38 rfl (fun v7 => ?_)
      refine z_iconst C (pc' := 42) dX11_feed_41 kc_1 rfl ?_
      refine z_iadd C (pc' := 43) dX11_feed_42 rfl ?_
      refine z_putf C (pc' := 46) flRX11_132 fn11_8 fb11_8 dX11_feed_43 rfl (fun u8 => ?_)
      refine z_aload_n C (i := 0) (pc' := 47) dX11_feed_46 rfl rfl rfl ?_
      refine z_getf C (pc' := 50) flRX11_132 dX11_feed_47 rfl (fun v9 => ?_)
      exact z_ireturn C dX11_feed_50
    ·
      refine z_bipush C (pc' := 25) dX11_feed_23 kb_m3 rfl ?_
      exact z_ireturn C dX11_feed_25
  ·
    refine z_iconst C (pc' := 13) dX11_feed_12 kc_m1 rfl ?_
    exact z_ireturn C dX11_feed_13
def fX11_byteAt (x0 : Int) (u0 : zMem) : zRs := zgf 11 15 x0 u0 (fun v1 => zgf 11 16 x0 u0 (fun v2 => if v1 ≥ v2 then (some (0, u0)) else (zgf 11 14 x0 u0 (fun v3 => if v3 ≥ 0 then (zgf 11 12 x0 u0 (fun v4 => zgf 11 14 x0 u0 (fun v5 => zgf 11 15 x0 u0 (fun v6 => zald 20 v4 (zw32 (v5 + v6)) u0 (fun v7 => some (v7, u0)))))) else (zgf 11 7 x0 u0 (fun v8 => zgf 11 15 x0 u0 (fun v9 => zald 20 v8 v9 u0 (fun v10 => some (v10, u0)))))))))
set_option maxRecDepth 100000 in
set_option maxHeartbeats 4000000 in
theorem rX11_byteAt (l : Launch) (w : zW) (x0 : Int) (u0 : zMem) : zSpc l w 1 yX11_byteAt cX11_byteAt 1 (some .int) 1 [zR x0] u0 (fX11_byteAt x0 u0) := by
  refine zSpc_of (own := RX11) pnRX11 rfl (Nat.le_of_ble_eq_true rfl) (fun G p e R s m args below meth c C hini => ?_)
  unfold fX11_byteAt
  refine zlocs (lb := [(0, zR x0)]) ⟨rfl, trivial⟩ ?_
  refine z_aload_n C (i := 0) (pc' := 1) dX11_byteAt_0 rfl rfl rfl ?_
  refine z_getf C (pc' := 4) flRX11_135 dX11_byteAt_1 rfl (fun v1 => ?_)
  refine z_aload_n C (i := 0) (pc' := 5) dX11_byteAt_4 rfl rfl rfl ?_
  refine z_getf C (pc' := 8) flRX11_138 dX11_byteAt_5 rfl (fun v2 => ?_)
  refine z_icmp_ge C (pc' := 47) (pf := 11) dX11_byteAt_8 rfl rfl (fun _ => ?_) (fun _ => ?_)
  ·
    refine z_iconst C (pc' := 48) dX11_byteAt_47 kc_0 rfl ?_
    exact z_ireturn C dX11_byteAt_48
  ·
    refine z_aload_n C (i := 0) (pc' := 12) dX11_byteAt_11 rfl rfl rfl ?_
    refine z_getf C (pc' := 15) flRX11_141 dX11_byteAt_12 rfl (fun v3 => ?_)
    refine z_if_ge C (pc' := 30) (pf := 18) dX11_byteAt_15 rfl rfl (fun _ => ?_) (fun _ => ?_)
    ·
      refine z_aload_n C (i := 0) (pc' := 31) dX11_byteAt_30 rfl rfl rfl ?_
      refine z_getfR C (pc' := 34) flRX11_31 dX11_byteAt_31 rfl (fun v4 => ?_)
      refine z_aload_n C (i := 0) (pc' := 35) dX11_byteAt_34 rfl rfl rfl ?_
      refine z_getf C (pc' := 38) flRX11_141 dX11_byteAt_35 rfl (fun v5 => ?_)
      refine z_aload_n C (i := 0) (pc' := 39) dX11_byteAt_38 rfl rfl rfl ?_
      refine z_getf C (pc' := 42) flRX11_135 dX11_byteAt_39 rfl (fun v6 => ?_)
      refine z_iadd C (pc' := 43) dX11_byteAt_42 rfl ?_
      refine z_iald C (pc' := 44) dX11_byteAt_43 rfl (fun v7 => ?_)
      refine z_goto C (pc' := 48) dX11_byteAt_44 rfl ?_
      exact z_ireturn C dX11_byteAt_48
    ·
      refine z_aload_n C (i := 0) (pc' := 19) dX11_byteAt_18 rfl rfl rfl ?_
      refine z_getfR C (pc' := 22) flRX11_22 dX11_byteAt_19 rfl (fun v8 => ?_)
      refine z_aload_n C (i := 0) (pc' := 23) dX11_byteAt_22 rfl rfl rfl ?_
      refine z_getf C (pc' := 26) flRX11_135 dX11_byteAt_23 rfl (fun v9 => ?_)
      refine z_iald C (pc' := 27) dX11_byteAt_26 rfl (fun v10 => ?_)
      refine z_goto C (pc' := 48) dX11_byteAt_27 rfl ?_
      exact z_ireturn C dX11_byteAt_48
def fX11_wrong (x0 : Int) (u0 : zMem) : zRs := zgf 11 17 x0 u0 (fun v1 => zjn (fun (v2 : Int) (u3 : zMem) => zpf 11 17 x0 v2 u3 (fun u5 => some (0, u5))) (fun k4 => if v1 ≥ 0 then (zgf 11 17 x0 u0 (fun v6 => k4 v6 u0)) else (zgf 11 15 x0 u0 (fun v7 => k4 v7 u0))))
set_option maxRecDepth 100000 in
set_option maxHeartbeats 4000000 in
theorem rX11_wrong (l : Launch) (w : zW) (x0 : Int) (u0 : zMem) : zSpc l w 1 yX11_wrong cX11_wrong 1 (some .int) 1 [zR x0] u0 (fX11_wrong x0 u0) := by
  refine zSpc_of (own := RX11) pnRX11 rfl (Nat.le_of_ble_eq_true rfl) (fun G p e R s m args below meth c C hini => ?_)
  unfold fX11_wrong
  refine zlocs (lb := [(0, zR x0)]) ⟨rfl, trivial⟩ ?_
  refine z_aload_n C (i := 0) (pc' := 1) dX11_wrong_0 rfl rfl rfl ?_
  refine z_aload_n C (i := 0) (pc' := 2) dX11_wrong_1 rfl rfl rfl ?_
  refine z_getf C (pc' := 5) flRX11_144 dX11_wrong_2 rfl (fun v1 => ?_)
  refine zjoin (P := fun (f : Int → zMem → zRs) => ∀ (v2 : Int) (u3 : zMem), zSim G p l e R s m args below meth c w 1 (znc u0) (zM w 1 (znc u0) below args s) 19 [] [zI v2, zR x0] u3 (f v2 u3)) (fun v2 u3 => ?_) (fun k4 hk4 => ?_)
  ·
    refine z_putf C (pc' := 22) flRX11_144 fn11_17 fb11_17 dX11_wrong_19 rfl (fun u5 => ?_)
    refine z_iconst C (pc' := 23) dX11_wrong_22 kc_0 rfl ?_
    exact z_ireturn C dX11_wrong_23
  ·
    refine z_if_ge C (pc' := 15) (pf := 8) dX11_wrong_5 rfl rfl (fun _ => ?_) (fun _ => ?_)
    ·
      refine z_aload_n C (i := 0) (pc' := 16) dX11_wrong_15 rfl rfl rfl ?_
      refine z_getf C (pc' := 19) flRX11_144 dX11_wrong_16 rfl (fun v6 => ?_)
      exact zlocs (lb := []) trivial (hk4 _ _)
    ·
      refine z_aload_n C (i := 0) (pc' := 9) dX11_wrong_8 rfl rfl rfl ?_
      refine z_getf C (pc' := 12) flRX11_135 dX11_wrong_9 rfl (fun v7 => ?_)
      refine z_goto C (pc' := 19) dX11_wrong_12 rfl ?_
      exact zlocs (lb := []) trivial (hk4 _ _)
def fX11_takes (x0 x1 : Int) (u0 : zMem) : zRs := zgf 11 17 x0 u0 (fun v1 => if v1 ≥ 0 then (zbl 0 (some (0, u0))) else (zvc 11 x0 (fX11_byteAt x0 u0) (fun v2 u3 => if v2 = x1 then (zgf 11 15 x0 u3 (fun v4 => zpf 11 15 x0 (zw32 (v4 + 1)) u3 (fun u5 => zbl 1 (some (1, u5))))) else (zbl 0 (some (0, u3))))))
set_option maxRecDepth 100000 in
set_option maxHeartbeats 4000000 in
theorem rX11_takes (l : Launch) (w : zW) (x0 x1 : Int) (u0 : zMem) : zSpc l w 2 yX11_takes cX11_takes 2 (some .boolean) 1 [zR x0, zI x1] u0 (fX11_takes x0 x1 u0) := by
  refine zSpc_of (own := RX11) pnRX11 rfl (Nat.le_of_ble_eq_true rfl) (fun G p e R s m args below meth c C hini => ?_)
  unfold fX11_takes
  refine zlocs (lb := [(0, zR x0), (1, zI x1)]) ⟨rfl, rfl, trivial⟩ ?_
  refine z_aload_n C (i := 0) (pc' := 1) dX11_takes_0 rfl rfl rfl ?_
  refine z_getf C (pc' := 4) flRX11_144 dX11_takes_1 rfl (fun v1 => ?_)
  refine z_if_ge C (pc' := 15) (pf := 7) dX11_takes_4 rfl rfl (fun _ => ?_) (fun _ => ?_)
  ·
    refine z_iconst C (pc' := 16) dX11_takes_15 kc_0 rfl ?_
    exact z_zreturn C dX11_takes_16
  ·
    refine z_aload_n C (i := 0) (pc' := 8) dX11_takes_7 rfl rfl rfl ?_
    refine z_callV1 C (pc' := 11) lvRX11_147 lc_X11_byteAt rfl dX11_takes_8 rfl (by decide) (rX11_byteAt l w x0 u0) rfl (Nat.le_of_ble_eq_true rfl) (fun v2 u3 => ?_)
    refine z_iload_n C (i := 1) (pc' := 12) dX11_takes_11 rfl rfl rfl ?_
    refine z_icmp_eq C (pc' := 17) (pf := 15) dX11_takes_12 rfl rfl (fun _ => ?_) (fun _ => ?_)
    ·
      refine z_aload_n C (i := 0) (pc' := 18) dX11_takes_17 rfl rfl rfl ?_
      refine z_dup C (pc' := 19) dX11_takes_18 rfl rfl ?_
      refine z_getf C (pc' := 22) flRX11_135 dX11_takes_19 rfl (fun v4 => ?_)
      refine z_iconst C (pc' := 23) dX11_takes_22 kc_1 rfl ?_
      refine z_iadd C (pc' := 24) dX11_takes_23 rfl ?_
      refine z_putf C (pc' := 27) flRX11_135 fn11_15 fb11_15 dX11_takes_24 rfl (fun u5 => ?_)
      refine z_iconst C (pc' := 28) dX11_takes_27 kc_1 rfl ?_
      exact z_zreturn C dX11_takes_28
    ·
      refine z_iconst C (pc' := 16) dX11_takes_15 kc_0 rfl ?_
      exact z_zreturn C dX11_takes_16
def fX11_nameOf (x0 : Int) (u0 : zMem) : zRs := if x0 = 105 then (some (4, u0)) else (if x0 = 106 then (some ((-1), u0)) else (if x0 = 107 then (some (1, u0)) else (if x0 = 108 then (some (3, u0)) else (if x0 = 109 then (some (5, u0)) else (if x0 = 110 then (some (7, u0)) else (if x0 = 111 then (some (2, u0)) else (if x0 = 112 then (some ((-1), u0)) else (if x0 = 113 then (some ((-1), u0)) else (if x0 = 114 then (some ((-1), u0)) else (if x0 = 115 then (some (6, u0)) else (if x0 = 116 then (some ((-1), u0)) else (if x0 = 117 then (some ((-1), u0)) else (if x0 = 118 then (some ((-1), u0)) else (if x0 = 119 then (some (0, u0)) else (some ((-1), u0))))))))))))))))
set_option maxRecDepth 100000 in
set_option maxHeartbeats 4000000 in
theorem rX11_nameOf (l : Launch) (w : zW) (x0 : Int) (u0 : zMem) : zSpc l w 1 yX11_nameOf cX11_nameOf 1 (some .int) 1 [zI x0] u0 (fX11_nameOf x0 u0) := by
  refine zSpc_of (own := RX11) pnRX11 rfl (Nat.le_of_ble_eq_true rfl) (fun G p e R s m args below meth c C hini => ?_)
  unfold fX11_nameOf
  refine zlocs (lb := [(0, zI x0)]) ⟨rfl, trivial⟩ ?_
  refine z_iload_n C (i := 0) (pc' := 1) dX11_nameOf_0 rfl rfl rfl ?_
  refine z_tcase C (pc' := 84) dX11_nameOf_1 105 (by decide) (by decide) rfl rfl (fun _ => ?_) (fun h1 => ?_)
  ·
    refine z_iconst C (pc' := 85) dX11_nameOf_84 kc_4 rfl ?_
    exact z_ireturn C dX11_nameOf_85
  ·
    refine z_tcase C (pc' := 94) dX11_nameOf_1 106 (by decide) (by decide) rfl rfl (fun _ => ?_) (fun h2 => ?_)
    ·
      refine z_iconst C (pc' := 95) dX11_nameOf_94 kc_m1 rfl ?_
      exact z_ireturn C dX11_nameOf_95
    ·
      refine z_tcase C (pc' := 78) dX11_nameOf_1 107 (by decide) (by decide) rfl rfl (fun _ => ?_) (fun h3 => ?_)
      ·
        refine z_iconst C (pc' := 79) dX11_nameOf_78 kc_1 rfl ?_
        exact z_ireturn C dX11_nameOf_79
      ·
        refine z_tcase C (pc' := 82) dX11_nameOf_1 108 (by decide) (by decide) rfl rfl (fun _ => ?_) (fun h4 => ?_)
        ·
          refine z_iconst C (pc' := 83) dX11_nameOf_82 kc_3 rfl ?_
          exact z_ireturn C dX11_nameOf_83
        ·
          refine z_tcase C (pc' := 86) dX11_nameOf_1 109 (by decide) (by decide) rfl rfl (fun _ => ?_) (fun h5 => ?_)
          ·
            refine z_iconst C (pc' := 87) dX11_nameOf_86 kc_5 rfl ?_
            exact z_ireturn C dX11_nameOf_87
          ·
            refine z_tcase C (pc' := 91) dX11_nameOf_1 110 (by decide) (by decide) rfl rfl (fun _ => ?_) (fun h6 => ?_)
            ·
              refine z_bipush C (pc' := 93) dX11_nameOf_91 kb_7 rfl ?_
              exact z_ireturn C dX11_nameOf_93
            ·
              refine z_tcase C (pc' := 80) dX11_nameOf_1 111 (by decide) (by decide) rfl rfl (fun _ => ?_) (fun h7 => ?_)
              ·
                refine z_iconst C (pc' := 81) dX11_nameOf_80 kc_2 rfl ?_
                exact z_ireturn C dX11_nameOf_81
              ·
                refine z_tcase C (pc' := 94) dX11_nameOf_1 112 (by decide) (by decide) rfl rfl (fun _ => ?_) (fun h8 => ?_)
                ·
                  refine z_iconst C (pc' := 95) dX11_nameOf_94 kc_m1 rfl ?_
                  exact z_ireturn C dX11_nameOf_95
                ·
                  refine z_tcase C (pc' := 94) dX11_nameOf_1 113 (by decide) (by decide) rfl rfl (fun _ => ?_) (fun h9 => ?_)
                  ·
                    refine z_iconst C (pc' := 95) dX11_nameOf_94 kc_m1 rfl ?_
                    exact z_ireturn C dX11_nameOf_95
                  ·
                    refine z_tcase C (pc' := 94) dX11_nameOf_1 114 (by decide) (by decide) rfl rfl (fun _ => ?_) (fun h10 => ?_)
                    ·
                      refine z_iconst C (pc' := 95) dX11_nameOf_94 kc_m1 rfl ?_
                      exact z_ireturn C dX11_nameOf_95
                    ·
                      refine z_tcase C (pc' := 88) dX11_nameOf_1 115 (by decide) (by decide) rfl rfl (fun _ => ?_) (fun h11 => ?_)
                      ·
                        refine z_bipush C (pc' := 90) dX11_nameOf_88 kb_6 rfl ?_
                        exact z_ireturn C dX11_nameOf_90
                      ·
                        refine z_tcase C (pc' := 94) dX11_nameOf_1 116 (by decide) (by decide) rfl rfl (fun _ => ?_) (fun h12 => ?_)
                        ·
                          refine z_iconst C (pc' := 95) dX11_nameOf_94 kc_m1 rfl ?_
                          exact z_ireturn C dX11_nameOf_95
                        ·
                          refine z_tcase C (pc' := 94) dX11_nameOf_1 117 (by decide) (by decide) rfl rfl (fun _ => ?_) (fun h13 => ?_)
                          ·
                            refine z_iconst C (pc' := 95) dX11_nameOf_94 kc_m1 rfl ?_
                            exact z_ireturn C dX11_nameOf_95
                          ·
                            refine z_tcase C (pc' := 94) dX11_nameOf_1 118 (by decide) (by decide) rfl rfl (fun _ => ?_) (fun h14 => ?_)
                            ·
                              refine z_iconst C (pc' := 95) dX11_nameOf_94 kc_m1 rfl ?_
                              exact z_ireturn C dX11_nameOf_95
                            ·
                              refine z_tcase C (pc' := 76) dX11_nameOf_1 119 (by decide) (by decide) rfl rfl (fun _ => ?_) (fun h15 => ?_)
                              ·
                                refine z_iconst C (pc' := 77) dX11_nameOf_76 kc_0 rfl ?_
                                exact z_ireturn C dX11_nameOf_77
                              ·
                                refine z_tdef C (pc' := 94) dX11_nameOf_1 (by omega) rfl ?_
                                refine z_iconst C (pc' := 95) dX11_nameOf_94 kc_m1 rfl ?_
                                exact z_ireturn C dX11_nameOf_95
def gX11_either_b0 (rec : (Int → zMem → zRs) × (Int → zMem → zRs) × (Int → zMem → zRs) × (Int → zMem → zRs) × (Int → zMem → zRs) × (Int → zMem → zRs)) : Int → zMem → zRs := fun (x0 : Int) (u0 : zMem) => zvc 11 x0 (rec.2.1 x0 u0) (fun v1 u2 => zlp (fun _ _ => none) (fun k5 (v3 : Int) (u4 : zMem) => zvc 11 x0 (fX11_takes x0 124 u4) (fun v6 u7 => if v6 = 0 then (some (v3, u7)) else (zvc 11 x0 (rec.2.1 x0 u7) (fun v8 u9 => zjn (fun (v10 : Int) (u11 : zMem) => k5 v10 u11) (fun k12 => zjn (fun (u13 : zMem) => k12 1 u13) (fun k14 => if v3 ≠ 0 then (k14 u9) else (if v8 = 0 then (k12 0 u9) else (k14 u9)))))))) 1000000 v1 u2)
def gX11_either_b1 (rec : (Int → zMem → zRs) × (Int → zMem → zRs) × (Int → zMem → zRs) × (Int → zMem → zRs) × (Int → zMem → zRs) × (Int → zMem → zRs)) : Int → zMem → zRs := fun (x0 : Int) (u0 : zMem) => zvc 11 x0 (rec.2.2.1 x0 u0) (fun v1 u2 => zlp (fun _ _ => none) (fun k5 (v3 : Int) (u4 : zMem) => zvc 11 x0 (fX11_takes x0 38 u4) (fun v6 u7 => if v6 = 0 then (some (v3, u7)) else (zvc 11 x0 (rec.2.2.1 x0 u7) (fun v8 u9 => zjn (fun (v10 : Int) (u11 : zMem) => k5 v10 u11) (fun k12 => zjn (fun (u13 : zMem) => k12 0 u13) (fun k14 => if v3 = 0 then (k14 u9) else (if v8 = 0 then (k14 u9) else (k12 1 u9)))))))) 1000000 v1 u2)
def gX11_either_b2 (rec : (Int → zMem → zRs) × (Int → zMem → zRs) × (Int → zMem → zRs) × (Int → zMem → zRs) × (Int → zMem → zRs) × (Int → zMem → zRs)) : Int → zMem → zRs := fun (x0 : Int) (u0 : zMem) => zvc 11 x0 (rec.2.2.2.1 x0 u0) (fun v1 u2 => zvc 11 x0 (fX11_byteAt x0 u2) (fun v3 u4 => zgf 11 17 x0 u4 (fun v5 => if v5 ≥ 0 then (some (v1, u4)) else (zjn (fun (u6 : zMem) => zgf 11 15 x0 u6 (fun v8 => zpf 11 15 x0 (zw32 (v8 + 1)) u6 (fun u9 => zvc 11 x0 (rec.2.2.2.1 x0 u9) (fun v10 u11 => zjn (fun (u12 : zMem) => some (0, u12)) (fun k13 => zjn (fun (u14 : zMem) => some (1, u14)) (fun k15 => if v3 ≠ 60 then (if v3 ≠ 61 then (if v1 ≤ v10 then (k13 u11) else (k15 u11)) else (if v1 ≠ v10 then (k13 u11) else (k15 u11))) else (if v1 ≥ v10 then (k13 u11) else (k15 u11)))))))) (fun k7 => if v3 = 60 then (k7 u4) else (if v3 = 61 then (k7 u4) else (if v3 = 62 then (k7 u4) else (some (v1, u4)))))))))
def gX11_either_b3 (rec : (Int → zMem → zRs) × (Int → zMem → zRs) × (Int → zMem → zRs) × (Int → zMem → zRs) × (Int → zMem → zRs) × (Int → zMem → zRs)) : Int → zMem → zRs := fun (x0 : Int) (u0 : zMem) => zvc 11 x0 (rec.2.2.2.2.1 x0 u0) (fun v1 u2 => zlp (fun _ _ => none) (fun k5 (v3 : Int) (u4 : zMem) => zgf 11 17 x0 u4 (fun v6 => if v6 ≥ 0 then (some (v3, u4)) else (zvc 11 x0 (fX11_byteAt x0 u4) (fun v7 u8 => zjn (fun (u9 : zMem) => zvc 11 x0 (fX11_byteAt x0 u9) (fun v11 u12 => zjn (fun (v13 : Int) (u14 : zMem) => zgf 11 15 x0 u14 (fun v16 => zpf 11 15 x0 (zw32 (v16 + 1)) u14 (fun u17 => zvc 11 x0 (rec.2.2.2.2.1 x0 u17) (fun v18 u19 => zjn (fun (v20 : Int) (u21 : zMem) => k5 v20 u21) (fun k22 => if v13 = 0 then (k22 (zw32 (v3 - v18)) u19) else (k22 (zw32 (v3 + v18)) u19)))))) (fun k15 => if v11 ≠ 43 then (k15 0 u12) else (k15 1 u12)))) (fun k10 => if v7 = 43 then (k10 u8) else (zvc 11 x0 (fX11_byteAt x0 u8) (fun v23 u24 => if v23 ≠ 45 then (some (v3, u24)) else (k10 u24)))))))) 1000000 v1 u2)
def gX11_either_b4 (rec : (Int → zMem → zRs) × (Int → zMem → zRs) × (Int → zMem → zRs) × (Int → zMem → zRs) × (Int → zMem → zRs) × (Int → zMem → zRs)) : Int → zMem → zRs := fun (x0 : Int) (u0 : zMem) => zvc 11 x0 (rec.2.2.2.2.2 x0 u0) (fun v1 u2 => zvc 11 x0 (fX11_byteAt x0 u2) (fun v3 u4 => zlp (fun _ _ _ => none) (fun k8 (v5 : Int) (v6 : Int) (u7 : zMem) => zgf 11 17 x0 u7 (fun v9 => if v9 ≥ 0 then (some (v5, u7)) else (zjn (fun (u10 : zMem) => zgf 11 15 x0 u10 (fun v12 => zpf 11 15 x0 (zw32 (v12 + 1)) u10 (fun u13 => zvc 11 x0 (rec.2.2.2.2.2 x0 u13) (fun v14 u15 => zjn (fun (v16 : Int) (u17 : zMem) => zvc 11 x0 (fX11_byteAt x0 u17) (fun v19 u20 => k8 v16 v19 u20)) (fun k18 => if v6 ≠ 42 then (if v14 ≠ 0 then (if v6 ≠ 47 then (znz v14 (k18 (Int.tmod v5 v14) u15)) else (znz v14 (k18 (zw32 (Int.tdiv v5 v14)) u15))) else (k18 0 u15)) else (k18 (zw32 (v5 * v14)) u15)))))) (fun k11 => if v6 = 42 then (k11 u7) else (if v6 = 47 then (k11 u7) else (if v6 ≠ 37 then (some (v5, u7)) else (k11 u7))))))) 1000000 v1 v3 u4))
def gX11_either_b5 (rec : (Int → zMem → zRs) × (Int → zMem → zRs) × (Int → zMem → zRs) × (Int → zMem → zRs) × (Int → zMem → zRs) × (Int → zMem → zRs)) : Int → zMem → zRs := fun (x0 : Int) (u0 : zMem) => zgf 11 17 x0 u0 (fun v1 => if v1 < 0 then (zvc 11 x0 (fX11_byteAt x0 u0) (fun v2 u3 => zjn (fun (u4 : zMem) => zgf 11 18 x0 u4 (fun v6 => if v6 ≠ 6 then (zgf 11 18 x0 u4 (fun v7 => zpf 11 18 x0 (zw32 (v7 + 1)) u4 (fun u8 => zgf 11 15 x0 u8 (fun v9 => zpf 11 15 x0 (zw32 (v9 + 1)) u8 (fun u10 => zjn (fun (v11 : Int) (u12 : zMem) => zjn (fun (u14 : zMem) => zgf 11 18 x0 u14 (fun v16 => zpf 11 18 x0 (zw32 (v16 - 1)) u14 (fun u17 => if v2 ≠ 40 then (if v2 ≠ 45 then (if v11 ≠ 0 then (some (0, u17)) else (some (1, u17))) else (some ((zw32 (-v11)), u17))) else (some (v11, u17))))) (fun k15 => if v2 ≠ 40 then (k15 u12) else (zvc 11 x0 (fX11_takes x0 41 u12) (fun v18 u19 => if v18 ≠ 0 then (k15 u19) else (zvc 11 x0 (fX11_wrong x0 u19) (fun v20 u21 => some (v20, u21))))))) (fun k13 => if v2 ≠ 40 then (zvc 11 x0 (rec.2.2.2.2.2 x0 u10) (fun v22 u23 => k13 v22 u23)) else (zvc 11 x0 (rec.1 x0 u10) (fun v24 u25 => k13 v24 u25)))))))) else (zvc 11 x0 (fX11_wrong x0 u4) (fun v26 u27 => some (v26, u27))))) (fun k5 => if v2 = 33 then (k5 u3) else (if v2 = 45 then (k5 u3) else (if v2 ≠ 40 then (zcall (fX11_nameOf v2 u3) (fun v28 u29 => if v28 < 0 then (zlp (fun _ _ _ => none) (fun k33 (v30 : Int) (v31 : Int) (u32 : zMem) => zjn (fun (u34 : zMem) => if v31 ≠ 0 then (some (v30, u34)) else (zvc 11 x0 (fX11_wrong x0 u34) (fun v36 u37 => some (v36, u37)))) (fun k35 => if v31 ≥ 4 then (k35 u32) else (zvc 11 x0 (fX11_byteAt x0 u32) (fun v38 u39 => if v38 < 48 then (k35 u39) else (zvc 11 x0 (fX11_byteAt x0 u39) (fun v40 u41 => if v40 > 57 then (k35 u41) else (zvc 11 x0 (fX11_byteAt x0 u41) (fun v42 u43 => zgf 11 15 x0 u43 (fun v44 => zpf 11 15 x0 (zw32 (v44 + 1)) u43 (fun u45 => k33 (zw32 ((zw32 ((zw32 (10 * v30)) + v42)) - 48)) (zw32 (v31 + 1)) u45)))))))))) 1000000 0 0 u29) else (zgf 11 15 x0 u29 (fun v46 => zpf 11 15 x0 (zw32 (v46 + 1)) u29 (fun u47 => zgf 11 19 x0 u47 (fun v48 => zald 20 v48 v28 u47 (fun v49 => some (v49, u47)))))))) else (k5 u3)))))) else (some (0, u0)))
def gX11_either (n : Nat) : (Int → zMem → zRs) × (Int → zMem → zRs) × (Int → zMem → zRs) × (Int → zMem → zRs) × (Int → zMem → zRs) × (Int → zMem → zRs) := zlp ((fun _ _ => none), (fun _ _ => none), (fun _ _ => none), (fun _ _ => none), (fun _ _ => none), (fun _ _ => none)) (fun rec => (gX11_either_b0 rec, gX11_either_b1 rec, gX11_either_b2 rec, gX11_either_b3 rec, gX11_either_b4 rec, gX11_either_b5 rec)) n
def fX11_either (x0 : Int) (u0 : zMem) : zRs := (gX11_either 200).1 x0 u0
def fX11_both (x0 : Int) (u0 : zMem) : zRs := (gX11_either 200).2.1 x0 u0
def fX11_compared (x0 : Int) (u0 : zMem) : zRs := (gX11_either 200).2.2.1 x0 u0
def fX11_sums (x0 : Int) (u0 : zMem) : zRs := (gX11_either 200).2.2.2.1 x0 u0
def fX11_product (x0 : Int) (u0 : zMem) : zRs := (gX11_either 200).2.2.2.2.1 x0 u0
def fX11_one (x0 : Int) (u0 : zMem) : zRs := (gX11_either 200).2.2.2.2.2 x0 u0
set_option maxRecDepth 100000 in
set_option maxHeartbeats 4000000 in
theorem gX11_either_r0 (l : Launch) (w : zW) (n : Nat) (rec : (Int → zMem → zRs) × (Int → zMem → zRs) × (Int → zMem → zRs) × (Int → zMem → zRs) × (Int → zMem → zRs) × (Int → zMem → zRs)) (ih : (∀ (x0 : Int) (u0 : zMem), zSpc l w (3 + n) yX11_either cX11_either 3 (some .int) 1 [zR x0] u0 (rec.1 x0 u0)) ∧ (∀ (x0 : Int) (u0 : zMem), zSpc l w (3 + n) yX11_both cX11_both 3 (some .int) 1 [zR x0] u0 (rec.2.1 x0 u0)) ∧ (∀ (x0 : Int) (u0 : zMem), zSpc l w (3 + n) yX11_compared cX11_compared 4 (some .int) 1 [zR x0] u0 (rec.2.2.1 x0 u0)) ∧ (∀ (x0 : Int) (u0 : zMem), zSpc l w (3 + n) yX11_sums cX11_sums 4 (some .int) 1 [zR x0] u0 (rec.2.2.2.1 x0 u0)) ∧ (∀ (x0 : Int) (u0 : zMem), zSpc l w (3 + n) yX11_product cX11_product 4 (some .int) 1 [zR x0] u0 (rec.2.2.2.2.1 x0 u0)) ∧ (∀ (x0 : Int) (u0 : zMem), zSpc l w (3 + n) yX11_one cX11_one 5 (some .int) 1 [zR x0] u0 (rec.2.2.2.2.2 x0 u0))) : ∀ (x0 : Int) (u0 : zMem), zSpc l w (3 + (n + 1)) yX11_either cX11_either 3 (some .int) 1 [zR x0] u0 (gX11_either_b0 rec x0 u0) := by
  intro x0 u0
  refine zSpc_of (own := RX11) pnRX11 rfl (Nat.le_of_ble_eq_true rfl) (fun G p e R s m args below meth c C hini => ?_)
  unfold gX11_either_b0
  refine zlocs (lb := [(0, zR x0)]) ⟨rfl, trivial⟩ ?_
  refine z_aload_n C (i := 0) (pc' := 1) dX11_either_0 rfl rfl rfl ?_
  refine z_callV1 C (pc' := 4) lvRX11_151 lc_X11_both rfl dX11_either_1 rfl (by omega) (ih.2.1 x0 u0) rfl (Nat.le_of_ble_eq_true rfl) (fun v1 u2 => ?_)
  refine z_istore_n C (i := 1) (la' := [(1, zI v1), (0, zR x0)]) (pc' := 5) dX11_either_4 rfl (by decide) rfl rfl ?_
  refine zlocs (lb := [(0, zR x0), (1, zI v1)]) ⟨rfl, rfl, trivial⟩ ?_
  refine zlp_ind (fun (f : Int → zMem → zRs) => ∀ (v3 : Int) (u4 : zMem), zSim G p l e R s m args below meth c w 3 (znc u0) (zM w 1 (znc u0) below args s) 5 [(0, zR x0), (1, zI v3)] [] u4 (f v3 u4)) (fun _ _ => znone) (fun k5 hk5 v3 u4 => ?_) _ _ _
  refine z_aload_n C (i := 0) (pc' := 6) dX11_either_5 rfl rfl rfl ?_
  refine z_bipush C (pc' := 8) dX11_either_6 kb_124 rfl ?_
  refine z_callV1 C (pc' := 11) lvRX11_154 lc_X11_takes rfl dX11_either_8 rfl (by omega) (rX11_takes l w x0 124 u4) rfl (Nat.le_of_ble_eq_true rfl) (fun v6 u7 => ?_)
  refine z_if_eq C (pc' := 36) (pf := 14) dX11_either_11 rfl rfl (fun _ => ?_) (fun _ => ?_)
  ·
    refine z_iload_n C (i := 1) (pc' := 37) dX11_either_36 rfl rfl rfl ?_
    exact z_ireturn C dX11_either_37
  ·
    refine z_aload_n C (i := 0) (pc' := 15) dX11_either_14 rfl rfl rfl ?_
    refine z_callV1 C (pc' := 18) lvRX11_151 lc_X11_both rfl dX11_either_15 rfl (by omega) (ih.2.1 x0 u7) rfl (Nat.le_of_ble_eq_true rfl) (fun v8 u9 => ?_)
    refine z_istore_n C (i := 2) (la' := [(2, zI v8), (0, zR x0), (1, zI v3)]) (pc' := 19) dX11_either_18 rfl (by decide) rfl rfl ?_
    refine z_iload_n C (i := 1) (pc' := 20) dX11_either_19 rfl rfl rfl ?_
    refine zjoin (P := fun (f : Int → zMem → zRs) => ∀ (v10 : Int) (u11 : zMem), zSim G p l e R s m args below meth c w 3 (znc u0) (zM w 1 (znc u0) below args s) 32 [(0, zR x0)] [zI v10] u11 (f v10 u11)) (fun v10 u11 => ?_) (fun k12 hk12 => ?_)
    ·
      refine z_istore_n C (i := 1) (la' := [(1, zI v10), (0, zR x0)]) (pc' := 33) dX11_either_32 rfl (by decide) rfl rfl ?_
      refine z_goto C (pc' := 5) dX11_either_33 rfl ?_
      exact zlocs (lb := [(0, zR x0), (1, zI v10)]) ⟨rfl, rfl, trivial⟩ (hk5 _ _)
    ·
      refine zjoin (P := fun (f : zMem → zRs) => ∀ (u13 : zMem), zSim G p l e R s m args below meth c w 3 (znc u0) (zM w 1 (znc u0) below args s) 27 [(0, zR x0)] [] u13 (f u13)) (fun u13 => ?_) (fun k14 hk14 => ?_)
      ·
        refine z_iconst C (pc' := 28) dX11_either_27 kc_1 rfl ?_
        refine z_goto C (pc' := 32) dX11_either_28 rfl ?_
        exact zlocs (lb := [(0, zR x0)]) ⟨rfl, trivial⟩ (hk12 _ _)
      ·
        refine z_if_ne C (pc' := 27) (pf := 23) dX11_either_20 rfl rfl (fun _ => ?_) (fun _ => ?_)
        ·
          exact zlocs (lb := [(0, zR x0)]) ⟨rfl, trivial⟩ (hk14 _)
        ·
          refine z_iload_n C (i := 2) (pc' := 24) dX11_either_23 rfl rfl rfl ?_
          refine z_if_eq C (pc' := 31) (pf := 27) dX11_either_24 rfl rfl (fun _ => ?_) (fun _ => ?_)
          ·
            refine z_iconst C (pc' := 32) dX11_either_31 kc_0 rfl ?_
            exact zlocs (lb := [(0, zR x0)]) ⟨rfl, trivial⟩ (hk12 _ _)
          ·
            exact zlocs (lb := [(0, zR x0)]) ⟨rfl, trivial⟩ (hk14 _)
set_option maxRecDepth 100000 in
set_option maxHeartbeats 4000000 in
theorem gX11_either_r1 (l : Launch) (w : zW) (n : Nat) (rec : (Int → zMem → zRs) × (Int → zMem → zRs) × (Int → zMem → zRs) × (Int → zMem → zRs) × (Int → zMem → zRs) × (Int → zMem → zRs)) (ih : (∀ (x0 : Int) (u0 : zMem), zSpc l w (3 + n) yX11_either cX11_either 3 (some .int) 1 [zR x0] u0 (rec.1 x0 u0)) ∧ (∀ (x0 : Int) (u0 : zMem), zSpc l w (3 + n) yX11_both cX11_both 3 (some .int) 1 [zR x0] u0 (rec.2.1 x0 u0)) ∧ (∀ (x0 : Int) (u0 : zMem), zSpc l w (3 + n) yX11_compared cX11_compared 4 (some .int) 1 [zR x0] u0 (rec.2.2.1 x0 u0)) ∧ (∀ (x0 : Int) (u0 : zMem), zSpc l w (3 + n) yX11_sums cX11_sums 4 (some .int) 1 [zR x0] u0 (rec.2.2.2.1 x0 u0)) ∧ (∀ (x0 : Int) (u0 : zMem), zSpc l w (3 + n) yX11_product cX11_product 4 (some .int) 1 [zR x0] u0 (rec.2.2.2.2.1 x0 u0)) ∧ (∀ (x0 : Int) (u0 : zMem), zSpc l w (3 + n) yX11_one cX11_one 5 (some .int) 1 [zR x0] u0 (rec.2.2.2.2.2 x0 u0))) : ∀ (x0 : Int) (u0 : zMem), zSpc l w (3 + (n + 1)) yX11_both cX11_both 3 (some .int) 1 [zR x0] u0 (gX11_either_b1 rec x0 u0) := by
  intro x0 u0
  refine zSpc_of (own := RX11) pnRX11 rfl (Nat.le_of_ble_eq_true rfl) (fun G p e R s m args below meth c C hini => ?_)
  unfold gX11_either_b1
  refine zlocs (lb := [(0, zR x0)]) ⟨rfl, trivial⟩ ?_
  refine z_aload_n C (i := 0) (pc' := 1) dX11_both_0 rfl rfl rfl ?_
  refine z_callV1 C (pc' := 4) lvRX11_157 lc_X11_compared rfl dX11_both_1 rfl (by omega) (ih.2.2.1 x0 u0) rfl (Nat.le_of_ble_eq_true rfl) (fun v1 u2 => ?_)
  refine z_istore_n C (i := 1) (la' := [(1, zI v1), (0, zR x0)]) (pc' := 5) dX11_both_4 rfl (by decide) rfl rfl ?_
  refine zlocs (lb := [(0, zR x0), (1, zI v1)]) ⟨rfl, rfl, trivial⟩ ?_
  refine zlp_ind (fun (f : Int → zMem → zRs) => ∀ (v3 : Int) (u4 : zMem), zSim G p l e R s m args below meth c w 3 (znc u0) (zM w 1 (znc u0) below args s) 5 [(0, zR x0), (1, zI v3)] [] u4 (f v3 u4)) (fun _ _ => znone) (fun k5 hk5 v3 u4 => ?_) _ _ _
  refine z_aload_n C (i := 0) (pc' := 6) dX11_both_5 rfl rfl rfl ?_
  refine z_bipush C (pc' := 8) dX11_both_6 kb_38 rfl ?_
  refine z_callV1 C (pc' := 11) lvRX11_154 lc_X11_takes rfl dX11_both_8 rfl (by omega) (rX11_takes l w x0 38 u4) rfl (Nat.le_of_ble_eq_true rfl) (fun v6 u7 => ?_)
  refine z_if_eq C (pc' := 36) (pf := 14) dX11_both_11 rfl rfl (fun _ => ?_) (fun _ => ?_)
  ·
    refine z_iload_n C (i := 1) (pc' := 37) dX11_both_36 rfl rfl rfl ?_
    exact z_ireturn C dX11_both_37
  ·
    refine z_aload_n C (i := 0) (pc' := 15) dX11_both_14 rfl rfl rfl ?_
    refine z_callV1 C (pc' := 18) lvRX11_157 lc_X11_compared rfl dX11_both_15 rfl (by omega) (ih.2.2.1 x0 u7) rfl (Nat.le_of_ble_eq_true rfl) (fun v8 u9 => ?_)
    refine z_istore_n C (i := 2) (la' := [(2, zI v8), (0, zR x0), (1, zI v3)]) (pc' := 19) dX11_both_18 rfl (by decide) rfl rfl ?_
    refine z_iload_n C (i := 1) (pc' := 20) dX11_both_19 rfl rfl rfl ?_
    refine zjoin (P := fun (f : Int → zMem → zRs) => ∀ (v10 : Int) (u11 : zMem), zSim G p l e R s m args below meth c w 3 (znc u0) (zM w 1 (znc u0) below args s) 32 [(0, zR x0)] [zI v10] u11 (f v10 u11)) (fun v10 u11 => ?_) (fun k12 hk12 => ?_)
    ·
      refine z_istore_n C (i := 1) (la' := [(1, zI v10), (0, zR x0)]) (pc' := 33) dX11_both_32 rfl (by decide) rfl rfl ?_
      refine z_goto C (pc' := 5) dX11_both_33 rfl ?_
      exact zlocs (lb := [(0, zR x0), (1, zI v10)]) ⟨rfl, rfl, trivial⟩ (hk5 _ _)
    ·
      refine zjoin (P := fun (f : zMem → zRs) => ∀ (u13 : zMem), zSim G p l e R s m args below meth c w 3 (znc u0) (zM w 1 (znc u0) below args s) 31 [(0, zR x0)] [] u13 (f u13)) (fun u13 => ?_) (fun k14 hk14 => ?_)
      ·
        refine z_iconst C (pc' := 32) dX11_both_31 kc_0 rfl ?_
        exact zlocs (lb := [(0, zR x0)]) ⟨rfl, trivial⟩ (hk12 _ _)
      ·
        refine z_if_eq C (pc' := 31) (pf := 23) dX11_both_20 rfl rfl (fun _ => ?_) (fun _ => ?_)
        ·
          exact zlocs (lb := [(0, zR x0)]) ⟨rfl, trivial⟩ (hk14 _)
        ·
          refine z_iload_n C (i := 2) (pc' := 24) dX11_both_23 rfl rfl rfl ?_
          refine z_if_eq C (pc' := 31) (pf := 27) dX11_both_24 rfl rfl (fun _ => ?_) (fun _ => ?_)
          ·
            exact zlocs (lb := [(0, zR x0)]) ⟨rfl, trivial⟩ (hk14 _)
          ·
            refine z_iconst C (pc' := 28) dX11_both_27 kc_1 rfl ?_
            refine z_goto C (pc' := 32) dX11_both_28 rfl ?_
            exact zlocs (lb := [(0, zR x0)]) ⟨rfl, trivial⟩ (hk12 _ _)
set_option maxRecDepth 100000 in
set_option maxHeartbeats 4000000 in
theorem gX11_either_r2 (l : Launch) (w : zW) (n : Nat) (rec : (Int → zMem → zRs) × (Int → zMem → zRs) × (Int → zMem → zRs) × (Int → zMem → zRs) × (Int → zMem → zRs) × (Int → zMem → zRs)) (ih : (∀ (x0 : Int) (u0 : zMem), zSpc l w (3 + n) yX11_either cX11_either 3 (some .int) 1 [zR x0] u0 (rec.1 x0 u0)) ∧ (∀ (x0 : Int) (u0 : zMem), zSpc l w (3 + n) yX11_both cX11_both 3 (some .int) 1 [zR x0] u0 (rec.2.1 x0 u0)) ∧ (∀ (x0 : Int) (u0 : zMem), zSpc l w (3 + n) yX11_compared cX11_compared 4 (some .int) 1 [zR x0] u0 (rec.2.2.1 x0 u0)) ∧ (∀ (x0 : Int) (u0 : zMem), zSpc l w (3 + n) yX11_sums cX11_sums 4 (some .int) 1 [zR x0] u0 (rec.2.2.2.1 x0 u0)) ∧ (∀ (x0 : Int) (u0 : zMem), zSpc l w (3 + n) yX11_product cX11_product 4 (some .int) 1 [zR x0] u0 (rec.2.2.2.2.1 x0 u0)) ∧ (∀ (x0 : Int) (u0 : zMem), zSpc l w (3 + n) yX11_one cX11_one 5 (some .int) 1 [zR x0] u0 (rec.2.2.2.2.2 x0 u0))) : ∀ (x0 : Int) (u0 : zMem), zSpc l w (3 + (n + 1)) yX11_compared cX11_compared 4 (some .int) 1 [zR x0] u0 (gX11_either_b2 rec x0 u0) := by
  intro x0 u0
  refine zSpc_of (own := RX11) pnRX11 rfl (Nat.le_of_ble_eq_true rfl) (fun G p e R s m args below meth c C hini => ?_)
  unfold gX11_either_b2
  refine zlocs (lb := [(0, zR x0)]) ⟨rfl, trivial⟩ ?_
  refine z_aload_n C (i := 0) (pc' := 1) dX11_compared_0 rfl rfl rfl ?_
  refine z_callV1 C (pc' := 4) lvRX11_160 lc_X11_sums rfl dX11_compared_1 rfl (by omega) (ih.2.2.2.1 x0 u0) rfl (Nat.le_of_ble_eq_true rfl) (fun v1 u2 => ?_)
  refine z_istore_n C (i := 1) (la' := [(1, zI v1), (0, zR x0)]) (pc' := 5) dX11_compared_4 rfl (by decide) rfl rfl ?_
  refine z_aload_n C (i := 0) (pc' := 6) dX11_compared_5 rfl rfl rfl ?_
  refine z_callV1 C (pc' := 9) lvRX11_147 lc_X11_byteAt rfl dX11_compared_6 rfl (by omega) (rX11_byteAt l w x0 u2) rfl (Nat.le_of_ble_eq_true rfl) (fun v3 u4 => ?_)
  refine z_istore_n C (i := 2) (la' := [(2, zI v3), (1, zI v1), (0, zR x0)]) (pc' := 10) dX11_compared_9 rfl (by decide) rfl rfl ?_
  refine z_aload_n C (i := 0) (pc' := 11) dX11_compared_10 rfl rfl rfl ?_
  refine z_getf C (pc' := 14) flRX11_144 dX11_compared_11 rfl (fun v5 => ?_)
  refine z_if_ge C (pc' := 35) (pf := 17) dX11_compared_14 rfl rfl (fun _ => ?_) (fun _ => ?_)
  ·
    refine z_iload_n C (i := 1) (pc' := 36) dX11_compared_35 rfl rfl rfl ?_
    exact z_ireturn C dX11_compared_36
  ·
    refine z_iload_n C (i := 2) (pc' := 18) dX11_compared_17 rfl rfl rfl ?_
    refine z_bipush C (pc' := 20) dX11_compared_18 kb_60 rfl ?_
    refine zjoin (P := fun (f : zMem → zRs) => ∀ (u6 : zMem), zSim G p l e R s m args below meth c w 4 (znc u0) (zM w 1 (znc u0) below args s) 37 [(0, zR x0), (1, zI v1), (2, zI v3)] [] u6 (f u6)) (fun u6 => ?_) (fun k7 hk7 => ?_)
    ·
      refine z_aload_n C (i := 0) (pc' := 38) dX11_compared_37 rfl rfl rfl ?_
      refine z_dup C (pc' := 39) dX11_compared_38 rfl rfl ?_
      refine z_getf C (pc' := 42) flRX11_135 dX11_compared_39 rfl (fun v8 => ?_)
      refine z_iconst C (pc' := 43) dX11_compared_42 kc_1 rfl ?_
      refine z_iadd C (pc' := 44) dX11_compared_43 rfl ?_
      refine z_putf C (pc' := 47) flRX11_135 fn11_15 fb11_15 dX11_compared_44 rfl (fun u9 => ?_)
      refine z_aload_n C (i := 0) (pc' := 48) dX11_compared_47 rfl rfl rfl ?_
      refine z_callV1 C (pc' := 51) lvRX11_160 lc_X11_sums rfl dX11_compared_48 rfl (by omega) (ih.2.2.2.1 x0 u9) rfl (Nat.le_of_ble_eq_true rfl) (fun v10 u11 => ?_)
      refine z_istore_n C (i := 3) (la' := [(3, zI v10), (0, zR x0), (1, zI v1), (2, zI v3)]) (pc' := 52) dX11_compared_51 rfl (by decide) rfl rfl ?_
      refine z_iload_n C (i := 2) (pc' := 53) dX11_compared_52 rfl rfl rfl ?_
      refine z_bipush C (pc' := 55) dX11_compared_53 kb_60 rfl ?_
      refine zjoin (P := fun (f : zMem → zRs) => ∀ (u12 : zMem), zSim G p l e R s m args below meth c w 4 (znc u0) (zM w 1 (znc u0) below args s) 89 [] [] u12 (f u12)) (fun u12 => ?_) (fun k13 hk13 => ?_)
      ·
        refine z_iconst C (pc' := 90) dX11_compared_89 kc_0 rfl ?_
        exact z_ireturn C dX11_compared_90
      ·
        refine zjoin (P := fun (f : zMem → zRs) => ∀ (u14 : zMem), zSim G p l e R s m args below meth c w 4 (znc u0) (zM w 1 (znc u0) below args s) 85 [] [] u14 (f u14)) (fun u14 => ?_) (fun k15 hk15 => ?_)
        ·
          refine z_iconst C (pc' := 86) dX11_compared_85 kc_1 rfl ?_
          refine z_goto C (pc' := 90) dX11_compared_86 rfl ?_
          exact z_ireturn C dX11_compared_90
        ·
          refine z_icmp_ne C (pc' := 66) (pf := 58) dX11_compared_55 rfl rfl (fun _ => ?_) (fun _ => ?_)
          ·
            refine z_iload_n C (i := 2) (pc' := 67) dX11_compared_66 rfl rfl rfl ?_
            refine z_bipush C (pc' := 69) dX11_compared_67 kb_61 rfl ?_
            refine z_icmp_ne C (pc' := 80) (pf := 72) dX11_compared_69 rfl rfl (fun _ => ?_) (fun _ => ?_)
            ·
              refine z_iload_n C (i := 1) (pc' := 81) dX11_compared_80 rfl rfl rfl ?_
              refine z_iload_n C (i := 3) (pc' := 82) dX11_compared_81 rfl rfl rfl ?_
              refine z_icmp_le C (pc' := 89) (pf := 85) dX11_compared_82 rfl rfl (fun _ => ?_) (fun _ => ?_)
              ·
                exact zlocs (lb := []) trivial (hk13 _)
              ·
                exact zlocs (lb := []) trivial (hk15 _)
            ·
              refine z_iload_n C (i := 1) (pc' := 73) dX11_compared_72 rfl rfl rfl ?_
              refine z_iload_n C (i := 3) (pc' := 74) dX11_compared_73 rfl rfl rfl ?_
              refine z_icmp_ne C (pc' := 89) (pf := 77) dX11_compared_74 rfl rfl (fun _ => ?_) (fun _ => ?_)
              ·
                exact zlocs (lb := []) trivial (hk13 _)
              ·
                refine z_goto C (pc' := 85) dX11_compared_77 rfl ?_
                exact zlocs (lb := []) trivial (hk15 _)
          ·
            refine z_iload_n C (i := 1) (pc' := 59) dX11_compared_58 rfl rfl rfl ?_
            refine z_iload_n C (i := 3) (pc' := 60) dX11_compared_59 rfl rfl rfl ?_
            refine z_icmp_ge C (pc' := 89) (pf := 63) dX11_compared_60 rfl rfl (fun _ => ?_) (fun _ => ?_)
            ·
              exact zlocs (lb := []) trivial (hk13 _)
            ·
              refine z_goto C (pc' := 85) dX11_compared_63 rfl ?_
              exact zlocs (lb := []) trivial (hk15 _)
    ·
      refine z_icmp_eq C (pc' := 37) (pf := 23) dX11_compared_20 rfl rfl (fun _ => ?_) (fun _ => ?_)
      ·
        exact zlocs (lb := [(0, zR x0), (1, zI v1), (2, zI v3)]) ⟨rfl, rfl, rfl, trivial⟩ (hk7 _)
      ·
        refine z_iload_n C (i := 2) (pc' := 24) dX11_compared_23 rfl rfl rfl ?_
        refine z_bipush C (pc' := 26) dX11_compared_24 kb_61 rfl ?_
        refine z_icmp_eq C (pc' := 37) (pf := 29) dX11_compared_26 rfl rfl (fun _ => ?_) (fun _ => ?_)
        ·
          exact zlocs (lb := [(0, zR x0), (1, zI v1), (2, zI v3)]) ⟨rfl, rfl, rfl, trivial⟩ (hk7 _)
        ·
          refine z_iload_n C (i := 2) (pc' := 30) dX11_compared_29 rfl rfl rfl ?_
          refine z_bipush C (pc' := 32) dX11_compared_30 kb_62 rfl ?_
          refine z_icmp_eq C (pc' := 37) (pf := 35) dX11_compared_32 rfl rfl (fun _ => ?_) (fun _ => ?_)
          ·
            exact zlocs (lb := [(0, zR x0), (1, zI v1), (2, zI v3)]) ⟨rfl, rfl, rfl, trivial⟩ (hk7 _)
          ·
            refine z_iload_n C (i := 1) (pc' := 36) dX11_compared_35 rfl rfl rfl ?_
            exact z_ireturn C dX11_compared_36
set_option maxRecDepth 100000 in
set_option maxHeartbeats 4000000 in
theorem gX11_either_r3 (l : Launch) (w : zW) (n : Nat) (rec : (Int → zMem → zRs) × (Int → zMem → zRs) × (Int → zMem → zRs) × (Int → zMem → zRs) × (Int → zMem → zRs) × (Int → zMem → zRs)) (ih : (∀ (x0 : Int) (u0 : zMem), zSpc l w (3 + n) yX11_either cX11_either 3 (some .int) 1 [zR x0] u0 (rec.1 x0 u0)) ∧ (∀ (x0 : Int) (u0 : zMem), zSpc l w (3 + n) yX11_both cX11_both 3 (some .int) 1 [zR x0] u0 (rec.2.1 x0 u0)) ∧ (∀ (x0 : Int) (u0 : zMem), zSpc l w (3 + n) yX11_compared cX11_compared 4 (some .int) 1 [zR x0] u0 (rec.2.2.1 x0 u0)) ∧ (∀ (x0 : Int) (u0 : zMem), zSpc l w (3 + n) yX11_sums cX11_sums 4 (some .int) 1 [zR x0] u0 (rec.2.2.2.1 x0 u0)) ∧ (∀ (x0 : Int) (u0 : zMem), zSpc l w (3 + n) yX11_product cX11_product 4 (some .int) 1 [zR x0] u0 (rec.2.2.2.2.1 x0 u0)) ∧ (∀ (x0 : Int) (u0 : zMem), zSpc l w (3 + n) yX11_one cX11_one 5 (some .int) 1 [zR x0] u0 (rec.2.2.2.2.2 x0 u0))) : ∀ (x0 : Int) (u0 : zMem), zSpc l w (3 + (n + 1)) yX11_sums cX11_sums 4 (some .int) 1 [zR x0] u0 (gX11_either_b3 rec x0 u0) := by
  intro x0 u0
  refine zSpc_of (own := RX11) pnRX11 rfl (Nat.le_of_ble_eq_true rfl) (fun G p e R s m args below meth c C hini => ?_)
  unfold gX11_either_b3
  refine zlocs (lb := [(0, zR x0)]) ⟨rfl, trivial⟩ ?_
  refine z_aload_n C (i := 0) (pc' := 1) dX11_sums_0 rfl rfl rfl ?_
  refine z_callV1 C (pc' := 4) lvRX11_163 lc_X11_product rfl dX11_sums_1 rfl (by omega) (ih.2.2.2.2.1 x0 u0) rfl (Nat.le_of_ble_eq_true rfl) (fun v1 u2 => ?_)
  refine z_istore_n C (i := 1) (la' := [(1, zI v1), (0, zR x0)]) (pc' := 5) dX11_sums_4 rfl (by decide) rfl rfl ?_
  refine zlocs (lb := [(0, zR x0), (1, zI v1)]) ⟨rfl, rfl, trivial⟩ ?_
  refine zlp_ind (fun (f : Int → zMem → zRs) => ∀ (v3 : Int) (u4 : zMem), zSim G p l e R s m args below meth c w 4 (znc u0) (zM w 1 (znc u0) below args s) 5 [(0, zR x0), (1, zI v3)] [] u4 (f v3 u4)) (fun _ _ => znone) (fun k5 hk5 v3 u4 => ?_) _ _ _
  refine z_aload_n C (i := 0) (pc' := 6) dX11_sums_5 rfl rfl rfl ?_
  refine z_getf C (pc' := 9) flRX11_144 dX11_sums_6 rfl (fun v6 => ?_)
  refine z_if_ge C (pc' := 77) (pf := 12) dX11_sums_9 rfl rfl (fun _ => ?_) (fun _ => ?_)
  ·
    refine z_iload_n C (i := 1) (pc' := 78) dX11_sums_77 rfl rfl rfl ?_
    exact z_ireturn C dX11_sums_78
  ·
    refine z_aload_n C (i := 0) (pc' := 13) dX11_sums_12 rfl rfl rfl ?_
    refine z_callV1 C (pc' := 16) lvRX11_147 lc_X11_byteAt rfl dX11_sums_13 rfl (by omega) (rX11_byteAt l w x0 u4) rfl (Nat.le_of_ble_eq_true rfl) (fun v7 u8 => ?_)
    refine z_bipush C (pc' := 18) dX11_sums_16 kb_43 rfl ?_
    refine zjoin (P := fun (f : zMem → zRs) => ∀ (u9 : zMem), zSim G p l e R s m args below meth c w 4 (znc u0) (zM w 1 (znc u0) below args s) 30 [(0, zR x0), (1, zI v3)] [] u9 (f u9)) (fun u9 => ?_) (fun k10 hk10 => ?_)
    ·
      refine z_aload_n C (i := 0) (pc' := 31) dX11_sums_30 rfl rfl rfl ?_
      refine z_callV1 C (pc' := 34) lvRX11_147 lc_X11_byteAt rfl dX11_sums_31 rfl (by omega) (rX11_byteAt l w x0 u9) rfl (Nat.le_of_ble_eq_true rfl) (fun v11 u12 => ?_)
      refine z_bipush C (pc' := 36) dX11_sums_34 kb_43 rfl ?_
      refine zjoin (P := fun (f : Int → zMem → zRs) => ∀ (v13 : Int) (u14 : zMem), zSim G p l e R s m args below meth c w 4 (znc u0) (zM w 1 (znc u0) below args s) 44 [(0, zR x0), (1, zI v3)] [zI v13] u14 (f v13 u14)) (fun v13 u14 => ?_) (fun k15 hk15 => ?_)
      ·
        refine z_istore_n C (i := 2) (la' := [(2, zI v13), (0, zR x0), (1, zI v3)]) (pc' := 45) dX11_sums_44 rfl (by decide) rfl rfl ?_
        refine z_aload_n C (i := 0) (pc' := 46) dX11_sums_45 rfl rfl rfl ?_
        refine z_dup C (pc' := 47) dX11_sums_46 rfl rfl ?_
        refine z_getf C (pc' := 50) flRX11_135 dX11_sums_47 rfl (fun v16 => ?_)
        refine z_iconst C (pc' := 51) dX11_sums_50 kc_1 rfl ?_
        refine z_iadd C (pc' := 52) dX11_sums_51 rfl ?_
        refine z_putf C (pc' := 55) flRX11_135 fn11_15 fb11_15 dX11_sums_52 rfl (fun u17 => ?_)
        refine z_aload_n C (i := 0) (pc' := 56) dX11_sums_55 rfl rfl rfl ?_
        refine z_callV1 C (pc' := 59) lvRX11_163 lc_X11_product rfl dX11_sums_56 rfl (by omega) (ih.2.2.2.2.1 x0 u17) rfl (Nat.le_of_ble_eq_true rfl) (fun v18 u19 => ?_)
        refine z_istore_n C (i := 3) (la' := [(3, zI v18), (2, zI v13), (0, zR x0), (1, zI v3)]) (pc' := 60) dX11_sums_59 rfl (by decide) rfl rfl ?_
        refine z_iload_n C (i := 2) (pc' := 61) dX11_sums_60 rfl rfl rfl ?_
        refine zjoin (P := fun (f : Int → zMem → zRs) => ∀ (v20 : Int) (u21 : zMem), zSim G p l e R s m args below meth c w 4 (znc u0) (zM w 1 (znc u0) below args s) 73 [(0, zR x0)] [zI v20] u21 (f v20 u21)) (fun v20 u21 => ?_) (fun k22 hk22 => ?_)
        ·
          refine z_istore_n C (i := 1) (la' := [(1, zI v20), (0, zR x0)]) (pc' := 74) dX11_sums_73 rfl (by decide) rfl rfl ?_
          refine z_goto C (pc' := 5) dX11_sums_74 rfl ?_
          exact zlocs (lb := [(0, zR x0), (1, zI v20)]) ⟨rfl, rfl, trivial⟩ (hk5 _ _)
        ·
          refine z_if_eq C (pc' := 70) (pf := 64) dX11_sums_61 rfl rfl (fun _ => ?_) (fun _ => ?_)
          ·
            refine z_iload_n C (i := 1) (pc' := 71) dX11_sums_70 rfl rfl rfl ?_
            refine z_iload_n C (i := 3) (pc' := 72) dX11_sums_71 rfl rfl rfl ?_
            refine z_isub C (pc' := 73) dX11_sums_72 rfl ?_
            exact zlocs (lb := [(0, zR x0)]) ⟨rfl, trivial⟩ (hk22 _ _)
          ·
            refine z_iload_n C (i := 1) (pc' := 65) dX11_sums_64 rfl rfl rfl ?_
            refine z_iload_n C (i := 3) (pc' := 66) dX11_sums_65 rfl rfl rfl ?_
            refine z_iadd C (pc' := 67) dX11_sums_66 rfl ?_
            refine z_goto C (pc' := 73) dX11_sums_67 rfl ?_
            exact zlocs (lb := [(0, zR x0)]) ⟨rfl, trivial⟩ (hk22 _ _)
      ·
        refine z_icmp_ne C (pc' := 43) (pf := 39) dX11_sums_36 rfl rfl (fun _ => ?_) (fun _ => ?_)
        ·
          refine z_iconst C (pc' := 44) dX11_sums_43 kc_0 rfl ?_
          exact zlocs (lb := [(0, zR x0), (1, zI v3)]) ⟨rfl, rfl, trivial⟩ (hk15 _ _)
        ·
          refine z_iconst C (pc' := 40) dX11_sums_39 kc_1 rfl ?_
          refine z_goto C (pc' := 44) dX11_sums_40 rfl ?_
          exact zlocs (lb := [(0, zR x0), (1, zI v3)]) ⟨rfl, rfl, trivial⟩ (hk15 _ _)
    ·
      refine z_icmp_eq C (pc' := 30) (pf := 21) dX11_sums_18 rfl rfl (fun _ => ?_) (fun _ => ?_)
      ·
        exact zlocs (lb := [(0, zR x0), (1, zI v3)]) ⟨rfl, rfl, trivial⟩ (hk10 _)
      ·
        refine z_aload_n C (i := 0) (pc' := 22) dX11_sums_21 rfl rfl rfl ?_
        refine z_callV1 C (pc' := 25) lvRX11_147 lc_X11_byteAt rfl dX11_sums_22 rfl (by omega) (rX11_byteAt l w x0 u8) rfl (Nat.le_of_ble_eq_true rfl) (fun v23 u24 => ?_)
        refine z_bipush C (pc' := 27) dX11_sums_25 kb_45 rfl ?_
        refine z_icmp_ne C (pc' := 77) (pf := 30) dX11_sums_27 rfl rfl (fun _ => ?_) (fun _ => ?_)
        ·
          refine z_iload_n C (i := 1) (pc' := 78) dX11_sums_77 rfl rfl rfl ?_
          exact z_ireturn C dX11_sums_78
        ·
          exact zlocs (lb := [(0, zR x0), (1, zI v3)]) ⟨rfl, rfl, trivial⟩ (hk10 _)
set_option maxRecDepth 100000 in
set_option maxHeartbeats 4000000 in
theorem gX11_either_r4 (l : Launch) (w : zW) (n : Nat) (rec : (Int → zMem → zRs) × (Int → zMem → zRs) × (Int → zMem → zRs) × (Int → zMem → zRs) × (Int → zMem → zRs) × (Int → zMem → zRs)) (ih : (∀ (x0 : Int) (u0 : zMem), zSpc l w (3 + n) yX11_either cX11_either 3 (some .int) 1 [zR x0] u0 (rec.1 x0 u0)) ∧ (∀ (x0 : Int) (u0 : zMem), zSpc l w (3 + n) yX11_both cX11_both 3 (some .int) 1 [zR x0] u0 (rec.2.1 x0 u0)) ∧ (∀ (x0 : Int) (u0 : zMem), zSpc l w (3 + n) yX11_compared cX11_compared 4 (some .int) 1 [zR x0] u0 (rec.2.2.1 x0 u0)) ∧ (∀ (x0 : Int) (u0 : zMem), zSpc l w (3 + n) yX11_sums cX11_sums 4 (some .int) 1 [zR x0] u0 (rec.2.2.2.1 x0 u0)) ∧ (∀ (x0 : Int) (u0 : zMem), zSpc l w (3 + n) yX11_product cX11_product 4 (some .int) 1 [zR x0] u0 (rec.2.2.2.2.1 x0 u0)) ∧ (∀ (x0 : Int) (u0 : zMem), zSpc l w (3 + n) yX11_one cX11_one 5 (some .int) 1 [zR x0] u0 (rec.2.2.2.2.2 x0 u0))) : ∀ (x0 : Int) (u0 : zMem), zSpc l w (3 + (n + 1)) yX11_product cX11_product 4 (some .int) 1 [zR x0] u0 (gX11_either_b4 rec x0 u0) := by
  intro x0 u0
  refine zSpc_of (own := RX11) pnRX11 rfl (Nat.le_of_ble_eq_true rfl) (fun G p e R s m args below meth c C hini => ?_)
  unfold gX11_either_b4
  refine zlocs (lb := [(0, zR x0)]) ⟨rfl, trivial⟩ ?_
  refine z_aload_n C (i := 0) (pc' := 1) dX11_product_0 rfl rfl rfl ?_
  refine z_callV1 C (pc' := 4) lvRX11_166 lc_X11_one rfl dX11_product_1 rfl (by omega) (ih.2.2.2.2.2 x0 u0) rfl (Nat.le_of_ble_eq_true rfl) (fun v1 u2 => ?_)
  refine z_istore_n C (i := 1) (la' := [(1, zI v1), (0, zR x0)]) (pc' := 5) dX11_product_4 rfl (by decide) rfl rfl ?_
  refine z_aload_n C (i := 0) (pc' := 6) dX11_product_5 rfl rfl rfl ?_
  refine z_callV1 C (pc' := 9) lvRX11_147 lc_X11_byteAt rfl dX11_product_6 rfl (by omega) (rX11_byteAt l w x0 u2) rfl (Nat.le_of_ble_eq_true rfl) (fun v3 u4 => ?_)
  refine z_istore_n C (i := 2) (la' := [(2, zI v3), (1, zI v1), (0, zR x0)]) (pc' := 10) dX11_product_9 rfl (by decide) rfl rfl ?_
  refine zlocs (lb := [(0, zR x0), (1, zI v1), (2, zI v3)]) ⟨rfl, rfl, rfl, trivial⟩ ?_
  refine zlp_ind (fun (f : Int → Int → zMem → zRs) => ∀ (v5 : Int) (v6 : Int) (u7 : zMem), zSim G p l e R s m args below meth c w 4 (znc u0) (zM w 1 (znc u0) below args s) 10 [(0, zR x0), (1, zI v5), (2, zI v6)] [] u7 (f v5 v6 u7)) (fun _ _ _ => znone) (fun k8 hk8 v5 v6 u7 => ?_) _ _ _ _
  refine z_aload_n C (i := 0) (pc' := 11) dX11_product_10 rfl rfl rfl ?_
  refine z_getf C (pc' := 14) flRX11_144 dX11_product_11 rfl (fun v9 => ?_)
  refine z_if_ge C (pc' := 94) (pf := 17) dX11_product_14 rfl rfl (fun _ => ?_) (fun _ => ?_)
  ·
    refine z_iload_n C (i := 1) (pc' := 95) dX11_product_94 rfl rfl rfl ?_
    exact z_ireturn C dX11_product_95
  ·
    refine z_iload_n C (i := 2) (pc' := 18) dX11_product_17 rfl rfl rfl ?_
    refine z_bipush C (pc' := 20) dX11_product_18 kb_42 rfl ?_
    refine zjoin (P := fun (f : zMem → zRs) => ∀ (u10 : zMem), zSim G p l e R s m args below meth c w 4 (znc u0) (zM w 1 (znc u0) below args s) 35 [(0, zR x0), (1, zI v5), (2, zI v6)] [] u10 (f u10)) (fun u10 => ?_) (fun k11 hk11 => ?_)
    ·
      refine z_aload_n C (i := 0) (pc' := 36) dX11_product_35 rfl rfl rfl ?_
      refine z_dup C (pc' := 37) dX11_product_36 rfl rfl ?_
      refine z_getf C (pc' := 40) flRX11_135 dX11_product_37 rfl (fun v12 => ?_)
      refine z_iconst C (pc' := 41) dX11_product_40 kc_1 rfl ?_
      refine z_iadd C (pc' := 42) dX11_product_41 rfl ?_
      refine z_putf C (pc' := 45) flRX11_135 fn11_15 fb11_15 dX11_product_42 rfl (fun u13 => ?_)
      refine z_aload_n C (i := 0) (pc' := 46) dX11_product_45 rfl rfl rfl ?_
      refine z_callV1 C (pc' := 49) lvRX11_166 lc_X11_one rfl dX11_product_46 rfl (by omega) (ih.2.2.2.2.2 x0 u13) rfl (Nat.le_of_ble_eq_true rfl) (fun v14 u15 => ?_)
      refine z_istore_n C (i := 3) (la' := [(3, zI v14), (0, zR x0), (1, zI v5), (2, zI v6)]) (pc' := 50) dX11_product_49 rfl (by decide) rfl rfl ?_
      refine z_iload_n C (i := 2) (pc' := 51) dX11_product_50 rfl rfl rfl ?_
      refine z_bipush C (pc' := 53) dX11_product_51 kb_42 rfl ?_
      refine zjoin (P := fun (f : Int → zMem → zRs) => ∀ (v16 : Int) (u17 : zMem), zSim G p l e R s m args below meth c w 4 (znc u0) (zM w 1 (znc u0) below args s) 85 [(0, zR x0)] [zI v16] u17 (f v16 u17)) (fun v16 u17 => ?_) (fun k18 hk18 => ?_)
      ·
        refine z_istore_n C (i := 1) (la' := [(1, zI v16), (0, zR x0)]) (pc' := 86) dX11_product_85 rfl (by decide) rfl rfl ?_
        refine z_aload_n C (i := 0) (pc' := 87) dX11_product_86 rfl rfl rfl ?_
        refine z_callV1 C (pc' := 90) lvRX11_147 lc_X11_byteAt rfl dX11_product_87 rfl (by omega) (rX11_byteAt l w x0 u17) rfl (Nat.le_of_ble_eq_true rfl) (fun v19 u20 => ?_)
        refine z_istore_n C (i := 2) (la' := [(2, zI v19), (1, zI v16), (0, zR x0)]) (pc' := 91) dX11_product_90 rfl (by decide) rfl rfl ?_
        refine z_goto C (pc' := 10) dX11_product_91 rfl ?_
        exact zlocs (lb := [(0, zR x0), (1, zI v16), (2, zI v19)]) ⟨rfl, rfl, rfl, trivial⟩ (hk8 _ _ _)
      ·
        refine z_icmp_ne C (pc' := 62) (pf := 56) dX11_product_53 rfl rfl (fun _ => ?_) (fun _ => ?_)
        ·
          refine z_iload_n C (i := 3) (pc' := 63) dX11_product_62 rfl rfl rfl ?_
          refine z_if_ne C (pc' := 70) (pf := 66) dX11_product_63 rfl rfl (fun _ => ?_) (fun _ => ?_)
          ·
            refine z_iload_n C (i := 2) (pc' := 71) dX11_product_70 rfl rfl rfl ?_
            refine z_bipush C (pc' := 73) dX11_product_71 kb_47 rfl ?_
            refine z_icmp_ne C (pc' := 82) (pf := 76) dX11_product_73 rfl rfl (fun _ => ?_) (fun _ => ?_)
            ·
              refine z_iload_n C (i := 1) (pc' := 83) dX11_product_82 rfl rfl rfl ?_
              refine z_iload_n C (i := 3) (pc' := 84) dX11_product_83 rfl rfl rfl ?_
              refine z_irem C (pc' := 85) dX11_product_84 rfl (fun _ => ?_)
              exact zlocs (lb := [(0, zR x0)]) ⟨rfl, trivial⟩ (hk18 _ _)
            ·
              refine z_iload_n C (i := 1) (pc' := 77) dX11_product_76 rfl rfl rfl ?_
              refine z_iload_n C (i := 3) (pc' := 78) dX11_product_77 rfl rfl rfl ?_
              refine z_idiv C (pc' := 79) dX11_product_78 rfl (fun _ => ?_)
              refine z_goto C (pc' := 85) dX11_product_79 rfl ?_
              exact zlocs (lb := [(0, zR x0)]) ⟨rfl, trivial⟩ (hk18 _ _)
          ·
            refine z_iconst C (pc' := 67) dX11_product_66 kc_0 rfl ?_
            refine z_goto C (pc' := 85) dX11_product_67 rfl ?_
            exact zlocs (lb := [(0, zR x0)]) ⟨rfl, trivial⟩ (hk18 _ _)
        ·
          refine z_iload_n C (i := 1) (pc' := 57) dX11_product_56 rfl rfl rfl ?_
          refine z_iload_n C (i := 3) (pc' := 58) dX11_product_57 rfl rfl rfl ?_
          refine z_imul C (pc' := 59) dX11_product_58 rfl ?_
          refine z_goto C (pc' := 85) dX11_product_59 rfl ?_
          exact zlocs (lb := [(0, zR x0)]) ⟨rfl, trivial⟩ (hk18 _ _)
    ·
      refine z_icmp_eq C (pc' := 35) (pf := 23) dX11_product_20 rfl rfl (fun _ => ?_) (fun _ => ?_)
      ·
        exact zlocs (lb := [(0, zR x0), (1, zI v5), (2, zI v6)]) ⟨rfl, rfl, rfl, trivial⟩ (hk11 _)
      ·
        refine z_iload_n C (i := 2) (pc' := 24) dX11_product_23 rfl rfl rfl ?_
        refine z_bipush C (pc' := 26) dX11_product_24 kb_47 rfl ?_
        refine z_icmp_eq C (pc' := 35) (pf := 29) dX11_product_26 rfl rfl (fun _ => ?_) (fun _ => ?_)
        ·
          exact zlocs (lb := [(0, zR x0), (1, zI v5), (2, zI v6)]) ⟨rfl, rfl, rfl, trivial⟩ (hk11 _)
        ·
          refine z_iload_n C (i := 2) (pc' := 30) dX11_product_29 rfl rfl rfl ?_
          refine z_bipush C (pc' := 32) dX11_product_30 kb_37 rfl ?_
          refine z_icmp_ne C (pc' := 94) (pf := 35) dX11_product_32 rfl rfl (fun _ => ?_) (fun _ => ?_)
          ·
            refine z_iload_n C (i := 1) (pc' := 95) dX11_product_94 rfl rfl rfl ?_
            exact z_ireturn C dX11_product_95
          ·
            exact zlocs (lb := [(0, zR x0), (1, zI v5), (2, zI v6)]) ⟨rfl, rfl, rfl, trivial⟩ (hk11 _)
set_option maxRecDepth 100000 in
set_option maxHeartbeats 4000000 in
theorem gX11_either_r5 (l : Launch) (w : zW) (n : Nat) (rec : (Int → zMem → zRs) × (Int → zMem → zRs) × (Int → zMem → zRs) × (Int → zMem → zRs) × (Int → zMem → zRs) × (Int → zMem → zRs)) (ih : (∀ (x0 : Int) (u0 : zMem), zSpc l w (3 + n) yX11_either cX11_either 3 (some .int) 1 [zR x0] u0 (rec.1 x0 u0)) ∧ (∀ (x0 : Int) (u0 : zMem), zSpc l w (3 + n) yX11_both cX11_both 3 (some .int) 1 [zR x0] u0 (rec.2.1 x0 u0)) ∧ (∀ (x0 : Int) (u0 : zMem), zSpc l w (3 + n) yX11_compared cX11_compared 4 (some .int) 1 [zR x0] u0 (rec.2.2.1 x0 u0)) ∧ (∀ (x0 : Int) (u0 : zMem), zSpc l w (3 + n) yX11_sums cX11_sums 4 (some .int) 1 [zR x0] u0 (rec.2.2.2.1 x0 u0)) ∧ (∀ (x0 : Int) (u0 : zMem), zSpc l w (3 + n) yX11_product cX11_product 4 (some .int) 1 [zR x0] u0 (rec.2.2.2.2.1 x0 u0)) ∧ (∀ (x0 : Int) (u0 : zMem), zSpc l w (3 + n) yX11_one cX11_one 5 (some .int) 1 [zR x0] u0 (rec.2.2.2.2.2 x0 u0))) : ∀ (x0 : Int) (u0 : zMem), zSpc l w (3 + (n + 1)) yX11_one cX11_one 5 (some .int) 1 [zR x0] u0 (gX11_either_b5 rec x0 u0) := by
  intro x0 u0
  refine zSpc_of (own := RX11) pnRX11 rfl (Nat.le_of_ble_eq_true rfl) (fun G p e R s m args below meth c C hini => ?_)
  unfold gX11_either_b5
  refine zlocs (lb := [(0, zR x0)]) ⟨rfl, trivial⟩ ?_
  refine z_aload_n C (i := 0) (pc' := 1) dX11_one_0 rfl rfl rfl ?_
  refine z_getf C (pc' := 4) flRX11_144 dX11_one_1 rfl (fun v1 => ?_)
  refine z_if_lt C (pc' := 9) (pf := 7) dX11_one_4 rfl rfl (fun _ => ?_) (fun _ => ?_)
  ·
    refine z_aload_n C (i := 0) (pc' := 10) dX11_one_9 rfl rfl rfl ?_
    refine z_callV1 C (pc' := 13) lvRX11_147 lc_X11_byteAt rfl dX11_one_10 rfl (by omega) (rX11_byteAt l w x0 u0) rfl (Nat.le_of_ble_eq_true rfl) (fun v2 u3 => ?_)
    refine z_istore_n C (i := 1) (la' := [(1, zI v2), (0, zR x0)]) (pc' := 14) dX11_one_13 rfl (by decide) rfl rfl ?_
    refine z_iload_n C (i := 1) (pc' := 15) dX11_one_14 rfl rfl rfl ?_
    refine z_bipush C (pc' := 17) dX11_one_15 kb_33 rfl ?_
    refine zjoin (P := fun (f : zMem → zRs) => ∀ (u4 : zMem), zSim G p l e R s m args below meth c w 5 (znc u0) (zM w 1 (znc u0) below args s) 32 [(0, zR x0), (1, zI v2)] [] u4 (f u4)) (fun u4 => ?_) (fun k5 hk5 => ?_)
    ·
      refine z_aload_n C (i := 0) (pc' := 33) dX11_one_32 rfl rfl rfl ?_
      refine z_getf C (pc' := 36) flRX11_169 dX11_one_33 rfl (fun v6 => ?_)
      refine z_bipush C (pc' := 38) dX11_one_36 kb_6 rfl ?_
      refine z_icmp_ne C (pc' := 46) (pf := 41) dX11_one_38 rfl rfl (fun _ => ?_) (fun _ => ?_)
      ·
        refine z_aload_n C (i := 0) (pc' := 47) dX11_one_46 rfl rfl rfl ?_
        refine z_dup C (pc' := 48) dX11_one_47 rfl rfl ?_
        refine z_getf C (pc' := 51) flRX11_169 dX11_one_48 rfl (fun v7 => ?_)
        refine z_iconst C (pc' := 52) dX11_one_51 kc_1 rfl ?_
        refine z_iadd C (pc' := 53) dX11_one_52 rfl ?_
        refine z_putf C (pc' := 56) flRX11_169 fn11_18 fb11_18 dX11_one_53 rfl (fun u8 => ?_)
        refine z_aload_n C (i := 0) (pc' := 57) dX11_one_56 rfl rfl rfl ?_
        refine z_dup C (pc' := 58) dX11_one_57 rfl rfl ?_
        refine z_getf C (pc' := 61) flRX11_135 dX11_one_58 rfl (fun v9 => ?_)
        refine z_iconst C (pc' := 62) dX11_one_61 kc_1 rfl ?_
        refine z_iadd C (pc' := 63) dX11_one_62 rfl ?_
        refine z_putf C (pc' := 66) flRX11_135 fn11_15 fb11_15 dX11_one_63 rfl (fun u10 => ?_)
        refine z_iload_n C (i := 1) (pc' := 67) dX11_one_66 rfl rfl rfl ?_
        refine z_bipush C (pc' := 69) dX11_one_67 kb_40 rfl ?_
        refine zjoin (P := fun (f : Int → zMem → zRs) => ∀ (v11 : Int) (u12 : zMem), zSim G p l e R s m args below meth c w 5 (znc u0) (zM w 1 (znc u0) below args s) 83 [(0, zR x0), (1, zI v2)] [zI v11] u12 (f v11 u12)) (fun v11 u12 => ?_) (fun k13 hk13 => ?_)
        ·
          refine z_istore_n C (i := 2) (la' := [(2, zI v11), (0, zR x0), (1, zI v2)]) (pc' := 84) dX11_one_83 rfl (by decide) rfl rfl ?_
          refine z_iload_n C (i := 1) (pc' := 85) dX11_one_84 rfl rfl rfl ?_
          refine z_bipush C (pc' := 87) dX11_one_85 kb_40 rfl ?_
          refine zjoin (P := fun (f : zMem → zRs) => ∀ (u14 : zMem), zSim G p l e R s m args below meth c w 5 (znc u0) (zM w 1 (znc u0) below args s) 104 [(0, zR x0), (1, zI v2), (2, zI v11)] [] u14 (f u14)) (fun u14 => ?_) (fun k15 hk15 => ?_)
          ·
            refine z_aload_n C (i := 0) (pc' := 105) dX11_one_104 rfl rfl rfl ?_
            refine z_dup C (pc' := 106) dX11_one_105 rfl rfl ?_
            refine z_getf C (pc' := 109) flRX11_169 dX11_one_106 rfl (fun v16 => ?_)
            refine z_iconst C (pc' := 110) dX11_one_109 kc_1 rfl ?_
            refine z_isub C (pc' := 111) dX11_one_110 rfl ?_
            refine z_putf C (pc' := 114) flRX11_169 fn11_18 fb11_18 dX11_one_111 rfl (fun u17 => ?_)
            refine z_iload_n C (i := 1) (pc' := 115) dX11_one_114 rfl rfl rfl ?_
            refine z_bipush C (pc' := 117) dX11_one_115 kb_40 rfl ?_
            refine z_icmp_ne C (pc' := 124) (pf := 120) dX11_one_117 rfl rfl (fun _ => ?_) (fun _ => ?_)
            ·
              refine z_iload_n C (i := 1) (pc' := 125) dX11_one_124 rfl rfl rfl ?_
              refine z_bipush C (pc' := 127) dX11_one_125 kb_45 rfl ?_
              refine z_icmp_ne C (pc' := 135) (pf := 130) dX11_one_127 rfl rfl (fun _ => ?_) (fun _ => ?_)
              ·
                refine z_iload_n C (i := 2) (pc' := 136) dX11_one_135 rfl rfl rfl ?_
                refine z_if_ne C (pc' := 143) (pf := 139) dX11_one_136 rfl rfl (fun _ => ?_) (fun _ => ?_)
                ·
                  refine z_iconst C (pc' := 144) dX11_one_143 kc_0 rfl ?_
                  exact z_ireturn C dX11_one_144
                ·
                  refine z_iconst C (pc' := 140) dX11_one_139 kc_1 rfl ?_
                  refine z_goto C (pc' := 144) dX11_one_140 rfl ?_
                  exact z_ireturn C dX11_one_144
              ·
                refine z_iload_n C (i := 2) (pc' := 131) dX11_one_130 rfl rfl rfl ?_
                refine z_ineg C (pc' := 132) dX11_one_131 rfl ?_
                refine z_goto C (pc' := 144) dX11_one_132 rfl ?_
                exact z_ireturn C dX11_one_144
            ·
              refine z_iload_n C (i := 2) (pc' := 121) dX11_one_120 rfl rfl rfl ?_
              refine z_goto C (pc' := 144) dX11_one_121 rfl ?_
              exact z_ireturn C dX11_one_144
          ·
            refine z_icmp_ne C (pc' := 104) (pf := 90) dX11_one_87 rfl rfl (fun _ => ?_) (fun _ => ?_)
            ·
              exact zlocs (lb := [(0, zR x0), (1, zI v2), (2, zI v11)]) ⟨rfl, rfl, rfl, trivial⟩ (hk15 _)
            ·
              refine z_aload_n C (i := 0) (pc' := 91) dX11_one_90 rfl rfl rfl ?_
              refine z_bipush C (pc' := 93) dX11_one_91 kb_41 rfl ?_
              refine z_callV1 C (pc' := 96) lvRX11_154 lc_X11_takes rfl dX11_one_93 rfl (by omega) (rX11_takes l w x0 41 u12) rfl (Nat.le_of_ble_eq_true rfl) (fun v18 u19 => ?_)
              refine z_if_ne C (pc' := 104) (pf := 99) dX11_one_96 rfl rfl (fun _ => ?_) (fun _ => ?_)
              ·
                exact zlocs (lb := [(0, zR x0), (1, zI v2), (2, zI v11)]) ⟨rfl, rfl, rfl, trivial⟩ (hk15 _)
              ·
                refine z_aload_n C (i := 0) (pc' := 100) dX11_one_99 rfl rfl rfl ?_
                refine z_callV1 C (pc' := 103) lvRX11_172 lc_X11_wrong rfl dX11_one_100 rfl (by omega) (rX11_wrong l w x0 u19) rfl (Nat.le_of_ble_eq_true rfl) (fun v20 u21 => ?_)
                exact z_ireturn C dX11_one_103
        ·
          refine z_icmp_ne C (pc' := 79) (pf := 72) dX11_one_69 rfl rfl (fun _ => ?_) (fun _ => ?_)
          ·
            refine z_aload_n C (i := 0) (pc' := 80) dX11_one_79 rfl rfl rfl ?_
            refine z_callV1 C (pc' := 83) lvRX11_166 lc_X11_one rfl dX11_one_80 rfl (by omega) (ih.2.2.2.2.2 x0 u10) rfl (Nat.le_of_ble_eq_true rfl) (fun v22 u23 => ?_)
            exact zlocs (lb := [(0, zR x0), (1, zI v2)]) ⟨rfl, rfl, trivial⟩ (hk13 _ _)
          ·
            refine z_aload_n C (i := 0) (pc' := 73) dX11_one_72 rfl rfl rfl ?_
            refine z_callV1 C (pc' := 76) lvRX11_175 lc_X11_either rfl dX11_one_73 rfl (by omega) (ih.1 x0 u10) rfl (Nat.le_of_ble_eq_true rfl) (fun v24 u25 => ?_)
            refine z_goto C (pc' := 83) dX11_one_76 rfl ?_
            exact zlocs (lb := [(0, zR x0), (1, zI v2)]) ⟨rfl, rfl, trivial⟩ (hk13 _ _)
      ·
        refine z_aload_n C (i := 0) (pc' := 42) dX11_one_41 rfl rfl rfl ?_
        refine z_callV1 C (pc' := 45) lvRX11_172 lc_X11_wrong rfl dX11_one_42 rfl (by omega) (rX11_wrong l w x0 u4) rfl (Nat.le_of_ble_eq_true rfl) (fun v26 u27 => ?_)
        exact z_ireturn C dX11_one_45
    ·
      refine z_icmp_eq C (pc' := 32) (pf := 20) dX11_one_17 rfl rfl (fun _ => ?_) (fun _ => ?_)
      ·
        exact zlocs (lb := [(0, zR x0), (1, zI v2)]) ⟨rfl, rfl, trivial⟩ (hk5 _)
      ·
        refine z_iload_n C (i := 1) (pc' := 21) dX11_one_20 rfl rfl rfl ?_
        refine z_bipush C (pc' := 23) dX11_one_21 kb_45 rfl ?_
        refine z_icmp_eq C (pc' := 32) (pf := 26) dX11_one_23 rfl rfl (fun _ => ?_) (fun _ => ?_)
        ·
          exact zlocs (lb := [(0, zR x0), (1, zI v2)]) ⟨rfl, rfl, trivial⟩ (hk5 _)
        ·
          refine z_iload_n C (i := 1) (pc' := 27) dX11_one_26 rfl rfl rfl ?_
          refine z_bipush C (pc' := 29) dX11_one_27 kb_40 rfl ?_
          refine z_icmp_ne C (pc' := 145) (pf := 32) dX11_one_29 rfl rfl (fun _ => ?_) (fun _ => ?_)
          ·
            refine z_iload_n C (i := 1) (pc' := 146) dX11_one_145 rfl rfl rfl ?_
            refine z_callS1 C (pc' := 149) lsRX11_178 lc_X11_nameOf rfl dX11_one_146 rfl (by omega) (rX11_nameOf l w v2 u3) rfl (Nat.le_of_ble_eq_true rfl) (fun v28 u29 => ?_)
            refine z_istore_n C (i := 2) (la' := [(2, zI v28), (1, zI v2), (0, zR x0)]) (pc' := 150) dX11_one_149 rfl (by decide) rfl rfl ?_
            refine z_iload_n C (i := 2) (pc' := 151) dX11_one_150 rfl rfl rfl ?_
            refine z_if_lt C (pc' := 171) (pf := 154) dX11_one_151 rfl rfl (fun _ => ?_) (fun _ => ?_)
            ·
              refine z_iconst C (pc' := 172) dX11_one_171 kc_0 rfl ?_
              refine z_istore_n C (i := 3) (la' := [(3, zI 0), (2, zI v28), (1, zI v2), (0, zR x0)]) (pc' := 173) dX11_one_172 rfl (by decide) rfl rfl ?_
              refine z_iconst C (pc' := 174) dX11_one_173 kc_0 rfl ?_
              refine z_istore C (i := 4) (la' := [(4, zI 0), (3, zI 0), (2, zI v28), (1, zI v2), (0, zR x0)]) (pc' := 176) dX11_one_174 (by decide) rfl rfl ?_
              refine zlocs (lb := [(0, zR x0), (3, zI 0), (4, zI 0)]) ⟨rfl, rfl, rfl, trivial⟩ ?_
              refine zlp_ind (fun (f : Int → Int → zMem → zRs) => ∀ (v30 : Int) (v31 : Int) (u32 : zMem), zSim G p l e R s m args below meth c w 5 (znc u0) (zM w 1 (znc u0) below args s) 176 [(0, zR x0), (3, zI v30), (4, zI v31)] [] u32 (f v30 v31 u32)) (fun _ _ _ => znone) (fun k33 hk33 v30 v31 u32 => ?_) _ _ _ _
              refine z_iload C (pc' := 178) dX11_one_176 rfl rfl ?_
              refine z_iconst C (pc' := 179) dX11_one_178 kc_4 rfl ?_
              refine zjoin (P := fun (f : zMem → zRs) => ∀ (u34 : zMem), zSim G p l e R s m args below meth c w 5 (znc u0) (zM w 1 (znc u0) below args s) 229 [(0, zR x0), (3, zI v30), (4, zI v31)] [] u34 (f u34)) (fun u34 => ?_) (fun k35 hk35 => ?_)
              ·
                refine z_iload C (pc' := 231) dX11_one_229 rfl rfl ?_
                refine z_if_ne C (pc' := 241) (pf := 234) dX11_one_231 rfl rfl (fun _ => ?_) (fun _ => ?_)
                ·
                  refine z_iload_n C (i := 3) (pc' := 242) dX11_one_241 rfl rfl rfl ?_
                  exact z_ireturn C dX11_one_242
                ·
                  refine z_aload_n C (i := 0) (pc' := 235) dX11_one_234 rfl rfl rfl ?_
                  refine z_callV1 C (pc' := 238) lvRX11_172 lc_X11_wrong rfl dX11_one_235 rfl (by omega) (rX11_wrong l w x0 u34) rfl (Nat.le_of_ble_eq_true rfl) (fun v36 u37 => ?_)
                  refine z_goto C (pc' := 242) dX11_one_238 rfl ?_
                  exact z_ireturn C dX11_one_242
              ·
                refine z_icmp_ge C (pc' := 229) (pf := 182) dX11_one_179 rfl rfl (fun _ => ?_) (fun _ => ?_)
                ·
                  exact zlocs (lb := [(0, zR x0), (3, zI v30), (4, zI v31)]) ⟨rfl, rfl, rfl, trivial⟩ (hk35 _)
                ·
                  refine z_aload_n C (i := 0) (pc' := 183) dX11_one_182 rfl rfl rfl ?_
                  refine z_callV1 C (pc' := 186) lvRX11_147 lc_X11_byteAt rfl dX11_one_183 rfl (by omega) (rX11_byteAt l w x0 u32) rfl (Nat.le_of_ble_eq_true rfl) (fun v38 u39 => ?_)
                  refine z_bipush C (pc' := 188) dX11_one_186 kb_48 rfl ?_
                  refine z_icmp_lt C (pc' := 229) (pf := 191) dX11_one_188 rfl rfl (fun _ => ?_) (fun _ => ?_)
                  ·
                    exact zlocs (lb := [(0, zR x0), (3, zI v30), (4, zI v31)]) ⟨rfl, rfl, rfl, trivial⟩ (hk35 _)
                  ·
                    refine z_aload_n C (i := 0) (pc' := 192) dX11_one_191 rfl rfl rfl ?_
                    refine z_callV1 C (pc' := 195) lvRX11_147 lc_X11_byteAt rfl dX11_one_192 rfl (by omega) (rX11_byteAt l w x0 u39) rfl (Nat.le_of_ble_eq_true rfl) (fun v40 u41 => ?_)
                    refine z_bipush C (pc' := 197) dX11_one_195 kb_57 rfl ?_
                    refine z_icmp_gt C (pc' := 229) (pf := 200) dX11_one_197 rfl rfl (fun _ => ?_) (fun _ => ?_)
                    ·
                      exact zlocs (lb := [(0, zR x0), (3, zI v30), (4, zI v31)]) ⟨rfl, rfl, rfl, trivial⟩ (hk35 _)
                    ·
                      refine z_bipush C (pc' := 202) dX11_one_200 kb_10 rfl ?_
                      refine z_iload_n C (i := 3) (pc' := 203) dX11_one_202 rfl rfl rfl ?_
                      refine z_imul C (pc' := 204) dX11_one_203 rfl ?_
                      refine z_aload_n C (i := 0) (pc' := 205) dX11_one_204 rfl rfl rfl ?_
                      refine z_callV1 C (pc' := 208) lvRX11_147 lc_X11_byteAt rfl dX11_one_205 rfl (by omega) (rX11_byteAt l w x0 u41) rfl (Nat.le_of_ble_eq_true rfl) (fun v42 u43 => ?_)
                      refine z_iadd C (pc' := 209) dX11_one_208 rfl ?_
                      refine z_bipush C (pc' := 211) dX11_one_209 kb_48 rfl ?_
                      refine z_isub C (pc' := 212) dX11_one_211 rfl ?_
                      refine z_istore_n C (i := 3) (la' := [(3, zI (zw32 ((zw32 ((zw32 (10 * v30)) + v42)) - 48))), (0, zR x0), (4, zI v31)]) (pc' := 213) dX11_one_212 rfl (by decide) rfl rfl ?_
                      refine z_iinc C (i := 4) (la' := [(4, zI (zw32 (v31 + 1))), (3, zI (zw32 ((zw32 ((zw32 (10 * v30)) + v42)) - 48))), (0, zR x0)]) (pc' := 216) dX11_one_213 rfl (by decide) rfl rfl ?_
                      refine z_aload_n C (i := 0) (pc' := 217) dX11_one_216 rfl rfl rfl ?_
                      refine z_dup C (pc' := 218) dX11_one_217 rfl rfl ?_
                      refine z_getf C (pc' := 221) flRX11_135 dX11_one_218 rfl (fun v44 => ?_)
                      refine z_iconst C (pc' := 222) dX11_one_221 kc_1 rfl ?_
                      refine z_iadd C (pc' := 223) dX11_one_222 rfl ?_
                      refine z_putf C (pc' := 226) flRX11_135 fn11_15 fb11_15 dX11_one_223 rfl (fun u45 => ?_)
                      refine z_goto C (pc' := 176) dX11_one_226 rfl ?_
                      exact zlocs (lb := [(0, zR x0), (3, zI (zw32 ((zw32 ((zw32 (10 * v30)) + v42)) - 48))), (4, zI (zw32 (v31 + 1)))]) ⟨rfl, rfl, rfl, trivial⟩ (hk33 _ _ _)
            ·
              refine z_aload_n C (i := 0) (pc' := 155) dX11_one_154 rfl rfl rfl ?_
              refine z_dup C (pc' := 156) dX11_one_155 rfl rfl ?_
              refine z_getf C (pc' := 159) flRX11_135 dX11_one_156 rfl (fun v46 => ?_)
              refine z_iconst C (pc' := 160) dX11_one_159 kc_1 rfl ?_
              refine z_iadd C (pc' := 161) dX11_one_160 rfl ?_
              refine z_putf C (pc' := 164) flRX11_135 fn11_15 fb11_15 dX11_one_161 rfl (fun u47 => ?_)
              refine z_aload_n C (i := 0) (pc' := 165) dX11_one_164 rfl rfl rfl ?_
              refine z_getfR C (pc' := 168) flRX11_37 dX11_one_165 rfl (fun v48 => ?_)
              refine z_iload_n C (i := 2) (pc' := 169) dX11_one_168 rfl rfl rfl ?_
              refine z_iald C (pc' := 170) dX11_one_169 rfl (fun v49 => ?_)
              exact z_ireturn C dX11_one_170
          ·
            exact zlocs (lb := [(0, zR x0), (1, zI v2)]) ⟨rfl, rfl, trivial⟩ (hk5 _)
  ·
    refine z_iconst C (pc' := 8) dX11_one_7 kc_0 rfl ?_
    exact z_ireturn C dX11_one_8
theorem gX11_either_all (l : Launch) (w : zW) : ∀ n : Nat, (∀ (x0 : Int) (u0 : zMem), zSpc l w (3 + n) yX11_either cX11_either 3 (some .int) 1 [zR x0] u0 ((gX11_either n).1 x0 u0)) ∧ (∀ (x0 : Int) (u0 : zMem), zSpc l w (3 + n) yX11_both cX11_both 3 (some .int) 1 [zR x0] u0 ((gX11_either n).2.1 x0 u0)) ∧ (∀ (x0 : Int) (u0 : zMem), zSpc l w (3 + n) yX11_compared cX11_compared 4 (some .int) 1 [zR x0] u0 ((gX11_either n).2.2.1 x0 u0)) ∧ (∀ (x0 : Int) (u0 : zMem), zSpc l w (3 + n) yX11_sums cX11_sums 4 (some .int) 1 [zR x0] u0 ((gX11_either n).2.2.2.1 x0 u0)) ∧ (∀ (x0 : Int) (u0 : zMem), zSpc l w (3 + n) yX11_product cX11_product 4 (some .int) 1 [zR x0] u0 ((gX11_either n).2.2.2.2.1 x0 u0)) ∧ (∀ (x0 : Int) (u0 : zMem), zSpc l w (3 + n) yX11_one cX11_one 5 (some .int) 1 [zR x0] u0 ((gX11_either n).2.2.2.2.2 x0 u0))
  | 0 => ⟨fun _ _ => zSpc_none, fun _ _ => zSpc_none, fun _ _ => zSpc_none, fun _ _ => zSpc_none, fun _ _ => zSpc_none, fun _ _ => zSpc_none⟩
  | n + 1 => ⟨gX11_either_r0 l w n (gX11_either n) (gX11_either_all l w n), gX11_either_r1 l w n (gX11_either n) (gX11_either_all l w n), gX11_either_r2 l w n (gX11_either n) (gX11_either_all l w n), gX11_either_r3 l w n (gX11_either n) (gX11_either_all l w n), gX11_either_r4 l w n (gX11_either n) (gX11_either_all l w n), gX11_either_r5 l w n (gX11_either n) (gX11_either_all l w n)⟩
theorem rX11_either (l : Launch) (w : zW) (x0 : Int) (u0 : zMem) : zSpc l w 203 yX11_either cX11_either 3 (some .int) 1 [zR x0] u0 (fX11_either x0 u0) := (gX11_either_all l w 200).1 x0 u0
theorem rX11_both (l : Launch) (w : zW) (x0 : Int) (u0 : zMem) : zSpc l w 203 yX11_both cX11_both 3 (some .int) 1 [zR x0] u0 (fX11_both x0 u0) := (gX11_either_all l w 200).2.1 x0 u0
theorem rX11_compared (l : Launch) (w : zW) (x0 : Int) (u0 : zMem) : zSpc l w 203 yX11_compared cX11_compared 4 (some .int) 1 [zR x0] u0 (fX11_compared x0 u0) := (gX11_either_all l w 200).2.2.1 x0 u0
theorem rX11_sums (l : Launch) (w : zW) (x0 : Int) (u0 : zMem) : zSpc l w 203 yX11_sums cX11_sums 4 (some .int) 1 [zR x0] u0 (fX11_sums x0 u0) := (gX11_either_all l w 200).2.2.2.1 x0 u0
theorem rX11_product (l : Launch) (w : zW) (x0 : Int) (u0 : zMem) : zSpc l w 203 yX11_product cX11_product 4 (some .int) 1 [zR x0] u0 (fX11_product x0 u0) := (gX11_either_all l w 200).2.2.2.2.1 x0 u0
theorem rX11_one (l : Launch) (w : zW) (x0 : Int) (u0 : zMem) : zSpc l w 203 yX11_one cX11_one 5 (some .int) 1 [zR x0] u0 (fX11_one x0 u0) := (gX11_either_all l w 200).2.2.2.2.2 x0 u0
def fX11_workOut (x0 x1 x2 : Int) (u0 : zMem) : zRs := zpf 11 14 x0 x1 u0 (fun u1 => zpf 11 15 x0 0 u1 (fun u2 => zpf 11 16 x0 x2 u2 (fun u3 => zpf 11 17 x0 (-1) u3 (fun u4 => zpf 11 18 x0 0 u4 (fun u5 => zlp (fun _ _ _ _ => none) (fun k10 (v6 : Int) (v7 : Int) (v8 : Int) (u9 : zMem) => if v8 = 0 then (zgf 11 17 x0 u9 (fun v11 => if v11 ≥ 0 then (some (v7, u9)) else (zgf 11 15 x0 u9 (fun v12 => zgf 11 16 x0 u9 (fun v13 => if v12 ≥ v13 then (some (v7, u9)) else (zvc 11 x0 (fX11_wrong x0 u9) (fun v14 u15 => some (v14, u15)))))))) else (zvc 11 x0 (fX11_either x0 u9) (fun v16 u17 => zvc 11 x0 (fX11_takes x0 63 u17) (fun v18 u19 => zjn (fun (v20 : Int) (v21 : Int) (u22 : zMem) => zgf 11 17 x0 u22 (fun v24 => zjn (fun (v25 : Int) (v26 : Int) (u27 : zMem) => zvc 11 x0 (fX11_takes x0 59 u27) (fun v29 u30 => k10 v25 v26 v29 u30)) (fun k28 => if v24 ≥ 0 then (k28 v6 v7 u22) else (if v21 = 0 then (k28 v6 v7 u22) else (if v6 ≠ 0 then (k28 v6 v7 u22) else (k28 1 v20 u22)))))) (fun k23 => if v18 = 0 then (k23 v16 1 u19) else (zjn (fun (v31 : Int) (u32 : zMem) => zvc 11 x0 (fX11_either x0 u32) (fun v34 u35 => k23 v34 v31 u35)) (fun k33 => if v16 = 0 then (k33 0 u19) else (k33 1 u19)))))))) 1000000 0 0 1 u5)))))
set_option maxRecDepth 100000 in
set_option maxHeartbeats 4000000 in
theorem rX11_workOut (l : Launch) (w : zW) (x0 x1 x2 : Int) (u0 : zMem) : zSpc l w 204 yX11_workOut cX11_workOut 8 (some .int) 1 [zR x0, zI x1, zI x2] u0 (fX11_workOut x0 x1 x2 u0) := by
  refine zSpc_of (own := RX11) pnRX11 rfl (Nat.le_of_ble_eq_true rfl) (fun G p e R s m args below meth c C hini => ?_)
  unfold fX11_workOut
  refine zlocs (lb := [(0, zR x0), (1, zI x1), (2, zI x2)]) ⟨rfl, rfl, rfl, trivial⟩ ?_
  refine z_aload_n C (i := 0) (pc' := 1) dX11_workOut_0 rfl rfl rfl ?_
  refine z_iload_n C (i := 1) (pc' := 2) dX11_workOut_1 rfl rfl rfl ?_
  refine z_putf C (pc' := 5) flRX11_141 fn11_14 fb11_14 dX11_workOut_2 rfl (fun u1 => ?_)
  refine z_aload_n C (i := 0) (pc' := 6) dX11_workOut_5 rfl rfl rfl ?_
  refine z_iconst C (pc' := 7) dX11_workOut_6 kc_0 rfl ?_
  refine z_putf C (pc' := 10) flRX11_135 fn11_15 fb11_15 dX11_workOut_7 rfl (fun u2 => ?_)
  refine z_aload_n C (i := 0) (pc' := 11) dX11_workOut_10 rfl rfl rfl ?_
  refine z_iload_n C (i := 2) (pc' := 12) dX11_workOut_11 rfl rfl rfl ?_
  refine z_putf C (pc' := 15) flRX11_138 fn11_16 fb11_16 dX11_workOut_12 rfl (fun u3 => ?_)
  refine z_aload_n C (i := 0) (pc' := 16) dX11_workOut_15 rfl rfl rfl ?_
  refine z_iconst C (pc' := 17) dX11_workOut_16 kc_m1 rfl ?_
  refine z_putf C (pc' := 20) flRX11_144 fn11_17 fb11_17 dX11_workOut_17 rfl (fun u4 => ?_)
  refine z_aload_n C (i := 0) (pc' := 21) dX11_workOut_20 rfl rfl rfl ?_
  refine z_iconst C (pc' := 22) dX11_workOut_21 kc_0 rfl ?_
  refine z_putf C (pc' := 25) flRX11_169 fn11_18 fb11_18 dX11_workOut_22 rfl (fun u5 => ?_)
  refine z_iconst C (pc' := 26) dX11_workOut_25 kc_0 rfl ?_
  refine z_istore_n C (i := 3) (la' := [(3, zI 0), (0, zR x0), (1, zI x1), (2, zI x2)]) (pc' := 27) dX11_workOut_26 rfl (by decide) rfl rfl ?_
  refine z_iconst C (pc' := 28) dX11_workOut_27 kc_0 rfl ?_
  refine z_istore C (i := 4) (la' := [(4, zI 0), (3, zI 0), (0, zR x0), (1, zI x1), (2, zI x2)]) (pc' := 30) dX11_workOut_28 (by decide) rfl rfl ?_
  refine z_iconst C (pc' := 31) dX11_workOut_30 kc_1 rfl ?_
  refine z_istore C (i := 5) (la' := [(5, zI 1), (4, zI 0), (3, zI 0), (0, zR x0), (1, zI x1), (2, zI x2)]) (pc' := 33) dX11_workOut_31 (by decide) rfl rfl ?_
  refine zlocs (lb := [(0, zR x0), (3, zI 0), (4, zI 0), (5, zI 1)]) ⟨rfl, rfl, rfl, rfl, trivial⟩ ?_
  refine zlp_ind (fun (f : Int → Int → Int → zMem → zRs) => ∀ (v6 : Int) (v7 : Int) (v8 : Int) (u9 : zMem), zSim G p l e R s m args below meth c w 8 (znc u0) (zM w 1 (znc u0) below args s) 33 [(0, zR x0), (3, zI v6), (4, zI v7), (5, zI v8)] [] u9 (f v6 v7 v8 u9)) (fun _ _ _ _ => znone) (fun k10 hk10 v6 v7 v8 u9 => ?_) _ _ _ _ _
  refine z_iload C (pc' := 35) dX11_workOut_33 rfl rfl ?_
  refine z_if_eq C (pc' := 107) (pf := 38) dX11_workOut_35 rfl rfl (fun _ => ?_) (fun _ => ?_)
  ·
    refine z_aload_n C (i := 0) (pc' := 108) dX11_workOut_107 rfl rfl rfl ?_
    refine z_getf C (pc' := 111) flRX11_144 dX11_workOut_108 rfl (fun v11 => ?_)
    refine z_if_ge C (pc' := 130) (pf := 114) dX11_workOut_111 rfl rfl (fun _ => ?_) (fun _ => ?_)
    ·
      refine z_iload C (pc' := 132) dX11_workOut_130 rfl rfl ?_
      exact z_ireturn C dX11_workOut_132
    ·
      refine z_aload_n C (i := 0) (pc' := 115) dX11_workOut_114 rfl rfl rfl ?_
      refine z_getf C (pc' := 118) flRX11_135 dX11_workOut_115 rfl (fun v12 => ?_)
      refine z_aload_n C (i := 0) (pc' := 119) dX11_workOut_118 rfl rfl rfl ?_
      refine z_getf C (pc' := 122) flRX11_138 dX11_workOut_119 rfl (fun v13 => ?_)
      refine z_icmp_ge C (pc' := 130) (pf := 125) dX11_workOut_122 rfl rfl (fun _ => ?_) (fun _ => ?_)
      ·
        refine z_iload C (pc' := 132) dX11_workOut_130 rfl rfl ?_
        exact z_ireturn C dX11_workOut_132
      ·
        refine z_aload_n C (i := 0) (pc' := 126) dX11_workOut_125 rfl rfl rfl ?_
        refine z_callV1 C (pc' := 129) lvRX11_172 lc_X11_wrong rfl dX11_workOut_126 rfl (by decide) (rX11_wrong l w x0 u9) rfl (Nat.le_of_ble_eq_true rfl) (fun v14 u15 => ?_)
        exact z_ireturn C dX11_workOut_129
  ·
    refine z_aload_n C (i := 0) (pc' := 39) dX11_workOut_38 rfl rfl rfl ?_
    refine z_callV1 C (pc' := 42) lvRX11_175 lc_X11_either rfl dX11_workOut_39 rfl (by decide) (rX11_either l w x0 u9) rfl (Nat.le_of_ble_eq_true rfl) (fun v16 u17 => ?_)
    refine z_istore C (i := 6) (la' := [(6, zI v16), (0, zR x0), (3, zI v6), (4, zI v7), (5, zI v8)]) (pc' := 44) dX11_workOut_42 (by decide) rfl rfl ?_
    refine z_iconst C (pc' := 45) dX11_workOut_44 kc_1 rfl ?_
    refine z_istore C (i := 7) (la' := [(7, zI 1), (6, zI v16), (0, zR x0), (3, zI v6), (4, zI v7), (5, zI v8)]) (pc' := 47) dX11_workOut_45 (by decide) rfl rfl ?_
    refine z_aload_n C (i := 0) (pc' := 48) dX11_workOut_47 rfl rfl rfl ?_
    refine z_bipush C (pc' := 50) dX11_workOut_48 kb_63 rfl ?_
    refine z_callV1 C (pc' := 53) lvRX11_154 lc_X11_takes rfl dX11_workOut_50 rfl (by decide) (rX11_takes l w x0 63 u17) rfl (Nat.le_of_ble_eq_true rfl) (fun v18 u19 => ?_)
    refine zjoin (P := fun (f : Int → Int → zMem → zRs) => ∀ (v20 : Int) (v21 : Int) (u22 : zMem), zSim G p l e R s m args below meth c w 8 (znc u0) (zM w 1 (znc u0) below args s) 74 [(0, zR x0), (3, zI v6), (4, zI v7), (6, zI v20), (7, zI v21)] [] u22 (f v20 v21 u22)) (fun v20 v21 u22 => ?_) (fun k23 hk23 => ?_)
    ·
      refine z_aload_n C (i := 0) (pc' := 75) dX11_workOut_74 rfl rfl rfl ?_
      refine z_getf C (pc' := 78) flRX11_144 dX11_workOut_75 rfl (fun v24 => ?_)
      refine zjoin (P := fun (f : Int → Int → zMem → zRs) => ∀ (v25 : Int) (v26 : Int) (u27 : zMem), zSim G p l e R s m args below meth c w 8 (znc u0) (zM w 1 (znc u0) below args s) 96 [(0, zR x0), (3, zI v25), (4, zI v26)] [] u27 (f v25 v26 u27)) (fun v25 v26 u27 => ?_) (fun k28 hk28 => ?_)
      ·
        refine z_aload_n C (i := 0) (pc' := 97) dX11_workOut_96 rfl rfl rfl ?_
        refine z_bipush C (pc' := 99) dX11_workOut_97 kb_59 rfl ?_
        refine z_callV1 C (pc' := 102) lvRX11_154 lc_X11_takes rfl dX11_workOut_99 rfl (by decide) (rX11_takes l w x0 59 u27) rfl (Nat.le_of_ble_eq_true rfl) (fun v29 u30 => ?_)
        refine z_istore C (i := 5) (la' := [(5, zI v29), (0, zR x0), (3, zI v25), (4, zI v26)]) (pc' := 104) dX11_workOut_102 (by decide) rfl rfl ?_
        refine z_goto C (pc' := 33) dX11_workOut_104 rfl ?_
        exact zlocs (lb := [(0, zR x0), (3, zI v25), (4, zI v26), (5, zI v29)]) ⟨rfl, rfl, rfl, rfl, trivial⟩ (hk10 _ _ _ _)
      ·
        refine z_if_ge C (pc' := 96) (pf := 81) dX11_workOut_78 rfl rfl (fun _ => ?_) (fun _ => ?_)
        ·
          exact zlocs (lb := [(0, zR x0), (3, zI v6), (4, zI v7)]) ⟨rfl, rfl, rfl, trivial⟩ (hk28 _ _ _)
        ·
          refine z_iload C (pc' := 83) dX11_workOut_81 rfl rfl ?_
          refine z_if_eq C (pc' := 96) (pf := 86) dX11_workOut_83 rfl rfl (fun _ => ?_) (fun _ => ?_)
          ·
            exact zlocs (lb := [(0, zR x0), (3, zI v6), (4, zI v7)]) ⟨rfl, rfl, rfl, trivial⟩ (hk28 _ _ _)
          ·
            refine z_iload_n C (i := 3) (pc' := 87) dX11_workOut_86 rfl rfl rfl ?_
            refine z_if_ne C (pc' := 96) (pf := 90) dX11_workOut_87 rfl rfl (fun _ => ?_) (fun _ => ?_)
            ·
              exact zlocs (lb := [(0, zR x0), (3, zI v6), (4, zI v7)]) ⟨rfl, rfl, rfl, trivial⟩ (hk28 _ _ _)
            ·
              refine z_iconst C (pc' := 91) dX11_workOut_90 kc_1 rfl ?_
              refine z_istore_n C (i := 3) (la' := [(3, zI 1), (0, zR x0), (4, zI v7), (6, zI v20), (7, zI v21)]) (pc' := 92) dX11_workOut_91 rfl (by decide) rfl rfl ?_
              refine z_iload C (pc' := 94) dX11_workOut_92 rfl rfl ?_
              refine z_istore C (i := 4) (la' := [(4, zI v20), (3, zI 1), (0, zR x0), (6, zI v20), (7, zI v21)]) (pc' := 96) dX11_workOut_94 (by decide) rfl rfl ?_
              exact zlocs (lb := [(0, zR x0), (3, zI 1), (4, zI v20)]) ⟨rfl, rfl, rfl, trivial⟩ (hk28 _ _ _)
    ·
      refine z_if_eq C (pc' := 74) (pf := 56) dX11_workOut_53 rfl rfl (fun _ => ?_) (fun _ => ?_)
      ·
        exact zlocs (lb := [(0, zR x0), (3, zI v6), (4, zI v7), (6, zI v16), (7, zI 1)]) ⟨rfl, rfl, rfl, rfl, rfl, trivial⟩ (hk23 _ _ _)
      ·
        refine z_iload C (pc' := 58) dX11_workOut_56 rfl rfl ?_
        refine zjoin (P := fun (f : Int → zMem → zRs) => ∀ (v31 : Int) (u32 : zMem), zSim G p l e R s m args below meth c w 8 (znc u0) (zM w 1 (znc u0) below args s) 66 [(0, zR x0), (3, zI v6), (4, zI v7)] [zI v31] u32 (f v31 u32)) (fun v31 u32 => ?_) (fun k33 hk33 => ?_)
        ·
          refine z_istore C (i := 7) (la' := [(7, zI v31), (0, zR x0), (3, zI v6), (4, zI v7)]) (pc' := 68) dX11_workOut_66 (by decide) rfl rfl ?_
          refine z_aload_n C (i := 0) (pc' := 69) dX11_workOut_68 rfl rfl rfl ?_
          refine z_callV1 C (pc' := 72) lvRX11_175 lc_X11_either rfl dX11_workOut_69 rfl (by decide) (rX11_either l w x0 u32) rfl (Nat.le_of_ble_eq_true rfl) (fun v34 u35 => ?_)
          refine z_istore C (i := 6) (la' := [(6, zI v34), (7, zI v31), (0, zR x0), (3, zI v6), (4, zI v7)]) (pc' := 74) dX11_workOut_72 (by decide) rfl rfl ?_
          exact zlocs (lb := [(0, zR x0), (3, zI v6), (4, zI v7), (6, zI v34), (7, zI v31)]) ⟨rfl, rfl, rfl, rfl, rfl, trivial⟩ (hk23 _ _ _)
        ·
          refine z_if_eq C (pc' := 65) (pf := 61) dX11_workOut_58 rfl rfl (fun _ => ?_) (fun _ => ?_)
          ·
            refine z_iconst C (pc' := 66) dX11_workOut_65 kc_0 rfl ?_
            exact zlocs (lb := [(0, zR x0), (3, zI v6), (4, zI v7)]) ⟨rfl, rfl, rfl, trivial⟩ (hk33 _ _)
          ·
            refine z_iconst C (pc' := 62) dX11_workOut_61 kc_1 rfl ?_
            refine z_goto C (pc' := 66) dX11_workOut_62 rfl ?_
            exact zlocs (lb := [(0, zR x0), (3, zI v6), (4, zI v7)]) ⟨rfl, rfl, rfl, trivial⟩ (hk33 _ _)
def fX11_writer (x0 x1 x2 : Int) (u0 : zMem) : zRs := zcall (fX11_within x1 0 10 u0) (fun v1 u2 => if v1 = 0 then (some ((-1), u2)) else (zcall (fX11_within x2 0 7 u2) (fun v3 u4 => if v3 ≠ 0 then (zgf 11 9 x0 u4 (fun v5 => if v5 ≠ 4 then (zgf 11 8 x0 u4 (fun v6 => zvc 11 x0 (fX11_workOut x0 (-1) v6 u4) (fun v7 u8 => zgf 11 8 x0 u8 (fun v9 => zpf 11 8 x0 0 u8 (fun u10 => zgf 11 17 x0 u10 (fun v11 => if v11 < 0 then (zlp (fun _ _ => none) (fun k14 (v12 : Int) (u13 : zMem) => if v12 ≥ v9 then (zgf 11 13 x0 u13 (fun v15 => zgf 11 9 x0 u13 (fun v16 => zast 20 v15 v16 v9 u13 (fun u17 => zgf 11 10 x0 u17 (fun v18 => zgf 11 9 x0 u17 (fun v19 => zast 20 v18 v19 x1 u17 (fun u20 => zgf 11 11 x0 u20 (fun v21 => zgf 11 9 x0 u20 (fun v22 => zast 20 v21 v22 x2 u20 (fun u23 => zgf 11 9 x0 u23 (fun v24 => zpf 11 9 x0 (zw32 (v24 + 1)) u23 (fun u25 => zgf 11 9 x0 u25 (fun v26 => some ((zw32 (v26 - 1)), u25)))))))))))))) else (zgf 11 12 x0 u13 (fun v27 => zgf 11 9 x0 u13 (fun v28 => zgf 11 7 x0 u13 (fun v29 => zald 20 v29 v12 u13 (fun v30 => zast 20 v27 (zw32 ((zw32 (120 * v28)) + v12)) v30 u13 (fun u31 => k14 (zw32 (v12 + 1)) u31))))))) 1000000 0 u10) else (zgf 11 17 x0 u10 (fun v32 => some ((zw32 ((-100) - v32)), u10))))))))) else (some ((-3), u4)))) else (some ((-1), u4)))))
set_option maxRecDepth 100000 in
set_option maxHeartbeats 4000000 in
theorem rX11_writer (l : Launch) (w : zW) (x0 x1 x2 : Int) (u0 : zMem) : zSpc l w 205 yX11_writer cX11_writer 6 (some .int) 1 [zR x0, zI x1, zI x2] u0 (fX11_writer x0 x1 x2 u0) := by
  refine zSpc_of (own := RX11) pnRX11 rfl (Nat.le_of_ble_eq_true rfl) (fun G p e R s m args below meth c C hini => ?_)
  unfold fX11_writer
  refine zlocs (lb := [(0, zR x0), (1, zI x1), (2, zI x2)]) ⟨rfl, rfl, rfl, trivial⟩ ?_
  refine z_iload_n C (i := 1) (pc' := 1) dX11_writer_0 rfl rfl rfl ?_
  refine z_i2l C (pc' := 2) dX11_writer_1 rfl ?_
  refine z_lconst C (pc' := 3) dX11_writer_2 kl_0 rfl ?_
  refine z_ldc2 C (pc' := 6) dX11_writer_3 wlRX11_92 kj_10 rfl ?_
  refine z_callS1 C (pc' := 9) lsRX11_88 lc_X11_within rfl dX11_writer_6 rfl (by decide) (rX11_within l w x1 0 10 u0) rfl (Nat.le_of_ble_eq_true rfl) (fun v1 u2 => ?_)
  refine z_if_eq C (pc' := 24) (pf := 12) dX11_writer_9 rfl rfl (fun _ => ?_) (fun _ => ?_)
  ·
    refine z_iconst C (pc' := 25) dX11_writer_24 kc_m1 rfl ?_
    exact z_ireturn C dX11_writer_25
  ·
    refine z_iload_n C (i := 2) (pc' := 13) dX11_writer_12 rfl rfl rfl ?_
    refine z_i2l C (pc' := 14) dX11_writer_13 rfl ?_
    refine z_lconst C (pc' := 15) dX11_writer_14 kl_0 rfl ?_
    refine z_ldc2 C (pc' := 18) dX11_writer_15 wlRX11_96 kj_7 rfl ?_
    refine z_callS1 C (pc' := 21) lsRX11_88 lc_X11_within rfl dX11_writer_18 rfl (by decide) (rX11_within l w x2 0 7 u2) rfl (Nat.le_of_ble_eq_true rfl) (fun v3 u4 => ?_)
    refine z_if_ne C (pc' := 26) (pf := 24) dX11_writer_21 rfl rfl (fun _ => ?_) (fun _ => ?_)
    ·
      refine z_aload_n C (i := 0) (pc' := 27) dX11_writer_26 rfl rfl rfl ?_
      refine z_getf C (pc' := 30) flRX11_127 dX11_writer_27 rfl (fun v5 => ?_)
      refine z_iconst C (pc' := 31) dX11_writer_30 kc_4 rfl ?_
      refine z_icmp_ne C (pc' := 37) (pf := 34) dX11_writer_31 rfl rfl (fun _ => ?_) (fun _ => ?_)
      ·
        refine z_aload_n C (i := 0) (pc' := 38) dX11_writer_37 rfl rfl rfl ?_
        refine z_iconst C (pc' := 39) dX11_writer_38 kc_m1 rfl ?_
        refine z_aload_n C (i := 0) (pc' := 40) dX11_writer_39 rfl rfl rfl ?_
        refine z_getf C (pc' := 43) flRX11_132 dX11_writer_40 rfl (fun v6 => ?_)
        refine z_callV1 C (pc' := 46) lvRX11_181 lc_X11_workOut rfl dX11_writer_43 rfl (by decide) (rX11_workOut l w x0 (-1) v6 u4) rfl (Nat.le_of_ble_eq_true rfl) (fun v7 u8 => ?_)
        refine z_istore_n C (i := 3) (la' := [(3, zI v7), (0, zR x0), (1, zI x1), (2, zI x2)]) (pc' := 47) dX11_writer_46 rfl (by decide) rfl rfl ?_
        refine z_aload_n C (i := 0) (pc' := 48) dX11_writer_47 rfl rfl rfl ?_
        refine z_getf C (pc' := 51) flRX11_132 dX11_writer_48 rfl (fun v9 => ?_)
        refine z_istore C (i := 4) (la' := [(4, zI v9), (3, zI v7), (0, zR x0), (1, zI x1), (2, zI x2)]) (pc' := 53) dX11_writer_51 (by decide) rfl rfl ?_
        refine z_aload_n C (i := 0) (pc' := 54) dX11_writer_53 rfl rfl rfl ?_
        refine z_iconst C (pc' := 55) dX11_writer_54 kc_0 rfl ?_
        refine z_putf C (pc' := 58) flRX11_132 fn11_8 fb11_8 dX11_writer_55 rfl (fun u10 => ?_)
        refine z_aload_n C (i := 0) (pc' := 59) dX11_writer_58 rfl rfl rfl ?_
        refine z_getf C (pc' := 62) flRX11_144 dX11_writer_59 rfl (fun v11 => ?_)
        refine z_if_lt C (pc' := 73) (pf := 65) dX11_writer_62 rfl rfl (fun _ => ?_) (fun _ => ?_)
        ·
          refine z_iconst C (pc' := 74) dX11_writer_73 kc_0 rfl ?_
          refine z_istore C (i := 5) (la' := [(5, zI 0), (4, zI v9), (3, zI v7), (0, zR x0), (1, zI x1), (2, zI x2)]) (pc' := 76) dX11_writer_74 (by decide) rfl rfl ?_
          refine zlocs (lb := [(0, zR x0), (1, zI x1), (2, zI x2), (4, zI v9), (5, zI 0)]) ⟨rfl, rfl, rfl, rfl, rfl, trivial⟩ ?_
          refine zlp_ind (fun (f : Int → zMem → zRs) => ∀ (v12 : Int) (u13 : zMem), zSim G p l e R s m args below meth c w 6 (znc u0) (zM w 1 (znc u0) below args s) 76 [(0, zR x0), (1, zI x1), (2, zI x2), (4, zI v9), (5, zI v12)] [] u13 (f v12 u13)) (fun _ _ => znone) (fun k14 hk14 v12 u13 => ?_) _ _ _
          refine z_iload C (pc' := 78) dX11_writer_76 rfl rfl ?_
          refine z_iload C (pc' := 80) dX11_writer_78 rfl rfl ?_
          refine z_icmp_ge C (pc' := 111) (pf := 83) dX11_writer_80 rfl rfl (fun _ => ?_) (fun _ => ?_)
          ·
            refine z_aload_n C (i := 0) (pc' := 112) dX11_writer_111 rfl rfl rfl ?_
            refine z_getfR C (pc' := 115) flRX11_34 dX11_writer_112 rfl (fun v15 => ?_)
            refine z_aload_n C (i := 0) (pc' := 116) dX11_writer_115 rfl rfl rfl ?_
            refine z_getf C (pc' := 119) flRX11_127 dX11_writer_116 rfl (fun v16 => ?_)
            refine z_iload C (pc' := 121) dX11_writer_119 rfl rfl ?_
            refine z_iast C (pc' := 122) dX11_writer_121 rfl (fun u17 => ?_)
            refine z_aload_n C (i := 0) (pc' := 123) dX11_writer_122 rfl rfl rfl ?_
            refine z_getfR C (pc' := 126) flRX11_25 dX11_writer_123 rfl (fun v18 => ?_)
            refine z_aload_n C (i := 0) (pc' := 127) dX11_writer_126 rfl rfl rfl ?_
            refine z_getf C (pc' := 130) flRX11_127 dX11_writer_127 rfl (fun v19 => ?_)
            refine z_iload_n C (i := 1) (pc' := 131) dX11_writer_130 rfl rfl rfl ?_
            refine z_iast C (pc' := 132) dX11_writer_131 rfl (fun u20 => ?_)
            refine z_aload_n C (i := 0) (pc' := 133) dX11_writer_132 rfl rfl rfl ?_
            refine z_getfR C (pc' := 136) flRX11_28 dX11_writer_133 rfl (fun v21 => ?_)
            refine z_aload_n C (i := 0) (pc' := 137) dX11_writer_136 rfl rfl rfl ?_
            refine z_getf C (pc' := 140) flRX11_127 dX11_writer_137 rfl (fun v22 => ?_)
            refine z_iload_n C (i := 2) (pc' := 141) dX11_writer_140 rfl rfl rfl ?_
            refine z_iast C (pc' := 142) dX11_writer_141 rfl (fun u23 => ?_)
            refine z_aload_n C (i := 0) (pc' := 143) dX11_writer_142 rfl rfl rfl ?_
            refine z_dup C (pc' := 144) dX11_writer_143 rfl rfl ?_
            refine z_getf C (pc' := 147) flRX11_127 dX11_writer_144 rfl (fun v24 => ?_)
            refine z_iconst C (pc' := 148) dX11_writer_147 kc_1 rfl ?_
            refine z_iadd C (pc' := 149) dX11_writer_148 rfl ?_
            refine z_putf C (pc' := 152) flRX11_127 fn11_9 fb11_9 dX11_writer_149 rfl (fun u25 => ?_)
            refine z_aload_n C (i := 0) (pc' := 153) dX11_writer_152 rfl rfl rfl ?_
            refine z_getf C (pc' := 156) flRX11_127 dX11_writer_153 rfl (fun v26 => ?_)
            refine z_iconst C (pc' := 157) dX11_writer_156 kc_1 rfl ?_
            refine z_isub C (pc' := 158) dX11_writer_157 rfl ?_
            exact z_ireturn C dX11_writer_158
          ·
            refine z_aload_n C (i := 0) (pc' := 84) dX11_writer_83 rfl rfl rfl ?_
            refine z_getfR C (pc' := 87) flRX11_31 dX11_writer_84 rfl (fun v27 => ?_)
            refine z_bipush C (pc' := 89) dX11_writer_87 kb_120 rfl ?_
            refine z_aload_n C (i := 0) (pc' := 90) dX11_writer_89 rfl rfl rfl ?_
            refine z_getf C (pc' := 93) flRX11_127 dX11_writer_90 rfl (fun v28 => ?_)
            refine z_imul C (pc' := 94) dX11_writer_93 rfl ?_
            refine z_iload C (pc' := 96) dX11_writer_94 rfl rfl ?_
            refine z_iadd C (pc' := 97) dX11_writer_96 rfl ?_
            refine z_aload_n C (i := 0) (pc' := 98) dX11_writer_97 rfl rfl rfl ?_
            refine z_getfR C (pc' := 101) flRX11_22 dX11_writer_98 rfl (fun v29 => ?_)
            refine z_iload C (pc' := 103) dX11_writer_101 rfl rfl ?_
            refine z_iald C (pc' := 104) dX11_writer_103 rfl (fun v30 => ?_)
            refine z_iast C (pc' := 105) dX11_writer_104 rfl (fun u31 => ?_)
            refine z_iinc C (i := 5) (la' := [(5, zI (zw32 (v12 + 1))), (0, zR x0), (1, zI x1), (2, zI x2), (4, zI v9)]) (pc' := 108) dX11_writer_105 rfl (by decide) rfl rfl ?_
            refine z_goto C (pc' := 76) dX11_writer_108 rfl ?_
            exact zlocs (lb := [(0, zR x0), (1, zI x1), (2, zI x2), (4, zI v9), (5, zI (zw32 (v12 + 1)))]) ⟨rfl, rfl, rfl, rfl, rfl, trivial⟩ (hk14 _ _)
        ·
          refine z_bipush C (pc' := 67) dX11_writer_65 kb_m100 rfl ?_
          refine z_aload_n C (i := 0) (pc' := 68) dX11_writer_67 rfl rfl rfl ?_
          refine z_getf C (pc' := 71) flRX11_144 dX11_writer_68 rfl (fun v32 => ?_)
          refine z_isub C (pc' := 72) dX11_writer_71 rfl ?_
          exact z_ireturn C dX11_writer_72
      ·
        refine z_bipush C (pc' := 36) dX11_writer_34 kb_m3 rfl ?_
        exact z_ireturn C dX11_writer_36
    ·
      refine z_iconst C (pc' := 25) dX11_writer_24 kc_m1 rfl ?_
      exact z_ireturn C dX11_writer_25
def fX11_heedOf (x0 x1 x2 : Int) (u0 : zMem) : zRs := zlp (fun _ _ _ => none) (fun k4 (v1 : Int) (v2 : Int) (u3 : zMem) => if v2 ≥ x2 then (zgf 11 19 x0 u3 (fun v5 => zgf 11 0 x0 u3 (fun v6 => zald 20 v6 x2 u3 (fun v7 => zast 20 v5 0 v7 u3 (fun u8 => zgf 11 19 x0 u8 (fun v9 => zgf 11 0 x0 u8 (fun v10 => zald 20 v10 (zw32 (16 + x2)) u8 (fun v11 => zast 20 v9 1 v11 u8 (fun u12 => zgf 11 19 x0 u12 (fun v13 => zgf 11 0 x0 u12 (fun v14 => zald 20 v14 (zw32 (32 + x2)) u12 (fun v15 => zast 20 v13 2 v15 u12 (fun u16 => zgf 11 19 x0 u16 (fun v17 => zgf 11 0 x0 u16 (fun v18 => zald 20 v18 (zw32 (48 + x2)) u16 (fun v19 => zast 20 v17 3 v19 u16 (fun u20 => zgf 11 19 x0 u20 (fun v21 => zast 20 v21 4 x2 u20 (fun u22 => zgf 11 19 x0 u22 (fun v23 => zvc 11 x0 (fX11_minuteOf x0 x2 u22) (fun v24 u25 => zast 20 v23 5 v24 u25 (fun u26 => zgf 11 19 x0 u26 (fun v27 => zgf 11 0 x0 u26 (fun v28 => zald 20 v28 x2 u26 (fun v29 => zgf 11 10 x0 u26 (fun v30 => zald 20 v30 x1 u26 (fun v31 => zjn (fun (v32 : Int) (u33 : zMem) => zast 20 v27 6 v32 u33 (fun u35 => zgf 11 19 x0 u35 (fun v36 => zast 20 v36 7 v1 u35 (fun u37 => zgf 11 13 x0 u37 (fun v38 => zald 20 v38 x1 u37 (fun v39 => zvc 11 x0 (fX11_workOut x0 (zw32 (120 * x1)) v39 u37) (fun v40 u41 => if v40 ≥ 0 then (if v40 ≤ 100 then (some (v40, u41)) else (some (100, u41))) else (some (0, u41))))))))) (fun k34 => if v29 ≠ v31 then (k34 0 u26) else (k34 1 u26))))))))))))))))))))))))))))) else (zgf 11 0 x0 u3 (fun v42 => zald 20 v42 (zw32 (32 + v2)) u3 (fun v43 => zgf 11 0 x0 u3 (fun v44 => zald 20 v44 (zw32 (32 + x2)) u3 (fun v45 => zjn (fun (v46 : Int) (u47 : zMem) => k4 (zw32 (v1 + v46)) (zw32 (v2 + 1)) u47) (fun k48 => if v43 ≠ v45 then (k48 0 u3) else (k48 1 u3)))))))) 1000000 0 0 u0
set_option maxRecDepth 100000 in
set_option maxHeartbeats 4000000 in
theorem rX11_heedOf (l : Launch) (w : zW) (x0 x1 x2 : Int) (u0 : zMem) : zSpc l w 205 yX11_heedOf cX11_heedOf 5 (some .int) 1 [zR x0, zI x1, zI x2] u0 (fX11_heedOf x0 x1 x2 u0) := by
  refine zSpc_of (own := RX11) pnRX11 rfl (Nat.le_of_ble_eq_true rfl) (fun G p e R s m args below meth c C hini => ?_)
  unfold fX11_heedOf
  refine zlocs (lb := [(0, zR x0), (1, zI x1), (2, zI x2)]) ⟨rfl, rfl, rfl, trivial⟩ ?_
  refine z_iconst C (pc' := 1) dX11_heedOf_0 kc_0 rfl ?_
  refine z_istore_n C (i := 3) (la' := [(3, zI 0), (0, zR x0), (1, zI x1), (2, zI x2)]) (pc' := 2) dX11_heedOf_1 rfl (by decide) rfl rfl ?_
  refine z_iconst C (pc' := 3) dX11_heedOf_2 kc_0 rfl ?_
  refine z_istore C (i := 4) (la' := [(4, zI 0), (3, zI 0), (0, zR x0), (1, zI x1), (2, zI x2)]) (pc' := 5) dX11_heedOf_3 (by decide) rfl rfl ?_
  refine zlocs (lb := [(0, zR x0), (1, zI x1), (2, zI x2), (3, zI 0), (4, zI 0)]) ⟨rfl, rfl, rfl, rfl, rfl, trivial⟩ ?_
  refine zlp_ind (fun (f : Int → Int → zMem → zRs) => ∀ (v1 : Int) (v2 : Int) (u3 : zMem), zSim G p l e R s m args below meth c w 5 (znc u0) (zM w 1 (znc u0) below args s) 5 [(0, zR x0), (1, zI x1), (2, zI x2), (3, zI v1), (4, zI v2)] [] u3 (f v1 v2 u3)) (fun _ _ _ => znone) (fun k4 hk4 v1 v2 u3 => ?_) _ _ _ _
  refine z_iload C (pc' := 7) dX11_heedOf_5 rfl rfl ?_
  refine z_iload_n C (i := 2) (pc' := 8) dX11_heedOf_7 rfl rfl rfl ?_
  refine z_icmp_ge C (pc' := 47) (pf := 11) dX11_heedOf_8 rfl rfl (fun _ => ?_) (fun _ => ?_)
  ·
    refine z_aload_n C (i := 0) (pc' := 48) dX11_heedOf_47 rfl rfl rfl ?_
    refine z_getfR C (pc' := 51) flRX11_37 dX11_heedOf_48 rfl (fun v5 => ?_)
    refine z_iconst C (pc' := 52) dX11_heedOf_51 kc_0 rfl ?_
    refine z_aload_n C (i := 0) (pc' := 53) dX11_heedOf_52 rfl rfl rfl ?_
    refine z_getfR C (pc' := 56) flRX11_9 dX11_heedOf_53 rfl (fun v6 => ?_)
    refine z_iload_n C (i := 2) (pc' := 57) dX11_heedOf_56 rfl rfl rfl ?_
    refine z_iald C (pc' := 58) dX11_heedOf_57 rfl (fun v7 => ?_)
    refine z_iast C (pc' := 59) dX11_heedOf_58 rfl (fun u8 => ?_)
    refine z_aload_n C (i := 0) (pc' := 60) dX11_heedOf_59 rfl rfl rfl ?_
    refine z_getfR C (pc' := 63) flRX11_37 dX11_heedOf_60 rfl (fun v9 => ?_)
    refine z_iconst C (pc' := 64) dX11_heedOf_63 kc_1 rfl ?_
    refine z_aload_n C (i := 0) (pc' := 65) dX11_heedOf_64 rfl rfl rfl ?_
    refine z_getfR C (pc' := 68) flRX11_9 dX11_heedOf_65 rfl (fun v10 => ?_)
    refine z_bipush C (pc' := 70) dX11_heedOf_68 kb_16 rfl ?_
    refine z_iload_n C (i := 2) (pc' := 71) dX11_heedOf_70 rfl rfl rfl ?_
    refine z_iadd C (pc' := 72) dX11_heedOf_71 rfl ?_
    refine z_iald C (pc' := 73) dX11_heedOf_72 rfl (fun v11 => ?_)
    refine z_iast C (pc' := 74) dX11_heedOf_73 rfl (fun u12 => ?_)
    refine z_aload_n C (i := 0) (pc' := 75) dX11_heedOf_74 rfl rfl rfl ?_
    refine z_getfR C (pc' := 78) flRX11_37 dX11_heedOf_75 rfl (fun v13 => ?_)
    refine z_iconst C (pc' := 79) dX11_heedOf_78 kc_2 rfl ?_
    refine z_aload_n C (i := 0) (pc' := 80) dX11_heedOf_79 rfl rfl rfl ?_
    refine z_getfR C (pc' := 83) flRX11_9 dX11_heedOf_80 rfl (fun v14 => ?_)
    refine z_bipush C (pc' := 85) dX11_heedOf_83 kb_32 rfl ?_
    refine z_iload_n C (i := 2) (pc' := 86) dX11_heedOf_85 rfl rfl rfl ?_
    refine z_iadd C (pc' := 87) dX11_heedOf_86 rfl ?_
    refine z_iald C (pc' := 88) dX11_heedOf_87 rfl (fun v15 => ?_)
    refine z_iast C (pc' := 89) dX11_heedOf_88 rfl (fun u16 => ?_)
    refine z_aload_n C (i := 0) (pc' := 90) dX11_heedOf_89 rfl rfl rfl ?_
    refine z_getfR C (pc' := 93) flRX11_37 dX11_heedOf_90 rfl (fun v17 => ?_)
    refine z_iconst C (pc' := 94) dX11_heedOf_93 kc_3 rfl ?_
    refine z_aload_n C (i := 0) (pc' := 95) dX11_heedOf_94 rfl rfl rfl ?_
    refine z_getfR C (pc' := 98) flRX11_9 dX11_heedOf_95 rfl (fun v18 => ?_)
    refine z_bipush C (pc' := 100) dX11_heedOf_98 kb_48 rfl ?_
    refine z_iload_n C (i := 2) (pc' := 101) dX11_heedOf_100 rfl rfl rfl ?_
    refine z_iadd C (pc' := 102) dX11_heedOf_101 rfl ?_
    refine z_iald C (pc' := 103) dX11_heedOf_102 rfl (fun v19 => ?_)
    refine z_iast C (pc' := 104) dX11_heedOf_103 rfl (fun u20 => ?_)
    refine z_aload_n C (i := 0) (pc' := 105) dX11_heedOf_104 rfl rfl rfl ?_
    refine z_getfR C (pc' := 108) flRX11_37 dX11_heedOf_105 rfl (fun v21 => ?_)
    refine z_iconst C (pc' := 109) dX11_heedOf_108 kc_4 rfl ?_
    refine z_iload_n C (i := 2) (pc' := 110) dX11_heedOf_109 rfl rfl rfl ?_
    refine z_iast C (pc' := 111) dX11_heedOf_110 rfl (fun u22 => ?_)
    refine z_aload_n C (i := 0) (pc' := 112) dX11_heedOf_111 rfl rfl rfl ?_
    refine z_getfR C (pc' := 115) flRX11_37 dX11_heedOf_112 rfl (fun v23 => ?_)
    refine z_iconst C (pc' := 116) dX11_heedOf_115 kc_5 rfl ?_
    refine z_aload_n C (i := 0) (pc' := 117) dX11_heedOf_116 rfl rfl rfl ?_
    refine z_iload_n C (i := 2) (pc' := 118) dX11_heedOf_117 rfl rfl rfl ?_
    refine z_callV1 C (pc' := 121) lvRX11_123 lc_X11_minuteOf rfl dX11_heedOf_118 rfl (by decide) (rX11_minuteOf l w x0 x2 u22) rfl (Nat.le_of_ble_eq_true rfl) (fun v24 u25 => ?_)
    refine z_iast C (pc' := 122) dX11_heedOf_121 rfl (fun u26 => ?_)
    refine z_aload_n C (i := 0) (pc' := 123) dX11_heedOf_122 rfl rfl rfl ?_
    refine z_getfR C (pc' := 126) flRX11_37 dX11_heedOf_123 rfl (fun v27 => ?_)
    refine z_bipush C (pc' := 128) dX11_heedOf_126 kb_6 rfl ?_
    refine z_aload_n C (i := 0) (pc' := 129) dX11_heedOf_128 rfl rfl rfl ?_
    refine z_getfR C (pc' := 132) flRX11_9 dX11_heedOf_129 rfl (fun v28 => ?_)
    refine z_iload_n C (i := 2) (pc' := 133) dX11_heedOf_132 rfl rfl rfl ?_
    refine z_iald C (pc' := 134) dX11_heedOf_133 rfl (fun v29 => ?_)
    refine z_aload_n C (i := 0) (pc' := 135) dX11_heedOf_134 rfl rfl rfl ?_
    refine z_getfR C (pc' := 138) flRX11_25 dX11_heedOf_135 rfl (fun v30 => ?_)
    refine z_iload_n C (i := 1) (pc' := 139) dX11_heedOf_138 rfl rfl rfl ?_
    refine z_iald C (pc' := 140) dX11_heedOf_139 rfl (fun v31 => ?_)
    refine zjoin (P := fun (f : Int → zMem → zRs) => ∀ (v32 : Int) (u33 : zMem), zSim G p l e R s m args below meth c w 5 (znc u0) (zM w 1 (znc u0) below args s) 148 [(0, zR x0), (1, zI x1), (3, zI v1)] [zI v32, zI 6, zR v27] u33 (f v32 u33)) (fun v32 u33 => ?_) (fun k34 hk34 => ?_)
    ·
      refine z_iast C (pc' := 149) dX11_heedOf_148 rfl (fun u35 => ?_)
      refine z_aload_n C (i := 0) (pc' := 150) dX11_heedOf_149 rfl rfl rfl ?_
      refine z_getfR C (pc' := 153) flRX11_37 dX11_heedOf_150 rfl (fun v36 => ?_)
      refine z_bipush C (pc' := 155) dX11_heedOf_153 kb_7 rfl ?_
      refine z_iload_n C (i := 3) (pc' := 156) dX11_heedOf_155 rfl rfl rfl ?_
      refine z_iast C (pc' := 157) dX11_heedOf_156 rfl (fun u37 => ?_)
      refine z_aload_n C (i := 0) (pc' := 158) dX11_heedOf_157 rfl rfl rfl ?_
      refine z_bipush C (pc' := 160) dX11_heedOf_158 kb_120 rfl ?_
      refine z_iload_n C (i := 1) (pc' := 161) dX11_heedOf_160 rfl rfl rfl ?_
      refine z_imul C (pc' := 162) dX11_heedOf_161 rfl ?_
      refine z_aload_n C (i := 0) (pc' := 163) dX11_heedOf_162 rfl rfl rfl ?_
      refine z_getfR C (pc' := 166) flRX11_34 dX11_heedOf_163 rfl (fun v38 => ?_)
      refine z_iload_n C (i := 1) (pc' := 167) dX11_heedOf_166 rfl rfl rfl ?_
      refine z_iald C (pc' := 168) dX11_heedOf_167 rfl (fun v39 => ?_)
      refine z_callV1 C (pc' := 171) lvRX11_181 lc_X11_workOut rfl dX11_heedOf_168 rfl (by decide) (rX11_workOut l w x0 (zw32 (120 * x1)) v39 u37) rfl (Nat.le_of_ble_eq_true rfl) (fun v40 u41 => ?_)
      refine z_istore C (i := 4) (la' := [(4, zI v40), (0, zR x0), (1, zI x1), (3, zI v1)]) (pc' := 173) dX11_heedOf_171 (by decide) rfl rfl ?_
      refine z_iload C (pc' := 175) dX11_heedOf_173 rfl rfl ?_
      refine z_if_ge C (pc' := 182) (pf := 178) dX11_heedOf_175 rfl rfl (fun _ => ?_) (fun _ => ?_)
      ·
        refine z_iload C (pc' := 184) dX11_heedOf_182 rfl rfl ?_
        refine z_bipush C (pc' := 186) dX11_heedOf_184 kb_100 rfl ?_
        refine z_icmp_le C (pc' := 194) (pf := 189) dX11_heedOf_186 rfl rfl (fun _ => ?_) (fun _ => ?_)
        ·
          refine z_iload C (pc' := 196) dX11_heedOf_194 rfl rfl ?_
          exact z_ireturn C dX11_heedOf_196
        ·
          refine z_bipush C (pc' := 191) dX11_heedOf_189 kb_100 rfl ?_
          refine z_goto C (pc' := 196) dX11_heedOf_191 rfl ?_
          exact z_ireturn C dX11_heedOf_196
      ·
        refine z_iconst C (pc' := 179) dX11_heedOf_178 kc_0 rfl ?_
        refine z_goto C (pc' := 196) dX11_heedOf_179 rfl ?_
        exact z_ireturn C dX11_heedOf_196
    ·
      refine z_icmp_ne C (pc' := 147) (pf := 143) dX11_heedOf_140 rfl rfl (fun _ => ?_) (fun _ => ?_)
      ·
        refine z_iconst C (pc' := 148) dX11_heedOf_147 kc_0 rfl ?_
        exact zlocs (lb := [(0, zR x0), (1, zI x1), (3, zI v1)]) ⟨rfl, rfl, rfl, trivial⟩ (hk34 _ _)
      ·
        refine z_iconst C (pc' := 144) dX11_heedOf_143 kc_1 rfl ?_
        refine z_goto C (pc' := 148) dX11_heedOf_144 rfl ?_
        exact zlocs (lb := [(0, zR x0), (1, zI x1), (3, zI v1)]) ⟨rfl, rfl, rfl, trivial⟩ (hk34 _ _)
  ·
    refine z_iload_n C (i := 3) (pc' := 12) dX11_heedOf_11 rfl rfl rfl ?_
    refine z_aload_n C (i := 0) (pc' := 13) dX11_heedOf_12 rfl rfl rfl ?_
    refine z_getfR C (pc' := 16) flRX11_9 dX11_heedOf_13 rfl (fun v42 => ?_)
    refine z_bipush C (pc' := 18) dX11_heedOf_16 kb_32 rfl ?_
    refine z_iload C (pc' := 20) dX11_heedOf_18 rfl rfl ?_
    refine z_iadd C (pc' := 21) dX11_heedOf_20 rfl ?_
    refine z_iald C (pc' := 22) dX11_heedOf_21 rfl (fun v43 => ?_)
    refine z_aload_n C (i := 0) (pc' := 23) dX11_heedOf_22 rfl rfl rfl ?_
    refine z_getfR C (pc' := 26) flRX11_9 dX11_heedOf_23 rfl (fun v44 => ?_)
    refine z_bipush C (pc' := 28) dX11_heedOf_26 kb_32 rfl ?_
    refine z_iload_n C (i := 2) (pc' := 29) dX11_heedOf_28 rfl rfl rfl ?_
    refine z_iadd C (pc' := 30) dX11_heedOf_29 rfl ?_
    refine z_iald C (pc' := 31) dX11_heedOf_30 rfl (fun v45 => ?_)
    refine zjoin (P := fun (f : Int → zMem → zRs) => ∀ (v46 : Int) (u47 : zMem), zSim G p l e R s m args below meth c w 5 (znc u0) (zM w 1 (znc u0) below args s) 39 [(0, zR x0), (1, zI x1), (2, zI x2), (4, zI v2)] [zI v46, zI v1] u47 (f v46 u47)) (fun v46 u47 => ?_) (fun k48 hk48 => ?_)
    ·
      refine z_iadd C (pc' := 40) dX11_heedOf_39 rfl ?_
      refine z_istore_n C (i := 3) (la' := [(3, zI (zw32 (v1 + v46))), (0, zR x0), (1, zI x1), (2, zI x2), (4, zI v2)]) (pc' := 41) dX11_heedOf_40 rfl (by decide) rfl rfl ?_
      refine z_iinc C (i := 4) (la' := [(4, zI (zw32 (v2 + 1))), (3, zI (zw32 (v1 + v46))), (0, zR x0), (1, zI x1), (2, zI x2)]) (pc' := 44) dX11_heedOf_41 rfl (by decide) rfl rfl ?_
      refine z_goto C (pc' := 5) dX11_heedOf_44 rfl ?_
      exact zlocs (lb := [(0, zR x0), (1, zI x1), (2, zI x2), (3, zI (zw32 (v1 + v46))), (4, zI (zw32 (v2 + 1)))]) ⟨rfl, rfl, rfl, rfl, rfl, trivial⟩ (hk4 _ _ _)
    ·
      refine z_icmp_ne C (pc' := 38) (pf := 34) dX11_heedOf_31 rfl rfl (fun _ => ?_) (fun _ => ?_)
      ·
        refine z_iconst C (pc' := 39) dX11_heedOf_38 kc_0 rfl ?_
        exact zlocs (lb := [(0, zR x0), (1, zI x1), (2, zI x2), (4, zI v2)]) ⟨rfl, rfl, rfl, rfl, trivial⟩ (hk48 _ _)
      ·
        refine z_iconst C (pc' := 35) dX11_heedOf_34 kc_1 rfl ?_
        refine z_goto C (pc' := 39) dX11_heedOf_35 rfl ?_
        exact zlocs (lb := [(0, zR x0), (1, zI x1), (2, zI x2), (4, zI v2)]) ⟨rfl, rfl, rfl, rfl, trivial⟩ (hk48 _ _)
def fX11_heed (x0 x1 x2 : Int) (u0 : zMem) : zRs := zvc 11 x0 (fX11_isWriter x0 x1 u0) (fun v1 u2 => zjn (fun (u3 : zMem) => some ((-1), u3)) (fun k4 => if v1 = 0 then (k4 u2) else (zvc 11 x0 (fX11_isSaying x0 x2 u2) (fun v5 u6 => if v5 = 0 then (k4 u6) else (zvc 11 x0 (fX11_heedOf x0 x1 x2 u6) (fun v7 u8 => some (v7, u8)))))))
set_option maxRecDepth 100000 in
set_option maxHeartbeats 4000000 in
theorem rX11_heed (l : Launch) (w : zW) (x0 x1 x2 : Int) (u0 : zMem) : zSpc l w 206 yX11_heed cX11_heed 3 (some .int) 1 [zR x0, zI x1, zI x2] u0 (fX11_heed x0 x1 x2 u0) := by
  refine zSpc_of (own := RX11) pnRX11 rfl (Nat.le_of_ble_eq_true rfl) (fun G p e R s m args below meth c C hini => ?_)
  unfold fX11_heed
  refine zlocs (lb := [(0, zR x0), (1, zI x1), (2, zI x2)]) ⟨rfl, rfl, rfl, trivial⟩ ?_
  refine z_aload_n C (i := 0) (pc' := 1) dX11_heed_0 rfl rfl rfl ?_
  refine z_iload_n C (i := 1) (pc' := 2) dX11_heed_1 rfl rfl rfl ?_
  refine z_callV1 C (pc' := 5) lvRX11_184 lc_X11_isWriter rfl dX11_heed_2 rfl (by decide) (rX11_isWriter l w x0 x1 u0) rfl (Nat.le_of_ble_eq_true rfl) (fun v1 u2 => ?_)
  refine zjoin (P := fun (f : zMem → zRs) => ∀ (u3 : zMem), zSim G p l e R s m args below meth c w 3 (znc u0) (zM w 1 (znc u0) below args s) 25 [] [] u3 (f u3)) (fun u3 => ?_) (fun k4 hk4 => ?_)
  ·
    refine z_iconst C (pc' := 26) dX11_heed_25 kc_m1 rfl ?_
    exact z_ireturn C dX11_heed_26
  ·
    refine z_if_eq C (pc' := 25) (pf := 8) dX11_heed_5 rfl rfl (fun _ => ?_) (fun _ => ?_)
    ·
      exact zlocs (lb := []) trivial (hk4 _)
    ·
      refine z_aload_n C (i := 0) (pc' := 9) dX11_heed_8 rfl rfl rfl ?_
      refine z_iload_n C (i := 2) (pc' := 10) dX11_heed_9 rfl rfl rfl ?_
      refine z_callV1 C (pc' := 13) lvRX11_114 lc_X11_isSaying rfl dX11_heed_10 rfl (by decide) (rX11_isSaying l w x0 x2 u2) rfl (Nat.le_of_ble_eq_true rfl) (fun v5 u6 => ?_)
      refine z_if_eq C (pc' := 25) (pf := 16) dX11_heed_13 rfl rfl (fun _ => ?_) (fun _ => ?_)
      ·
        exact zlocs (lb := []) trivial (hk4 _)
      ·
        refine z_aload_n C (i := 0) (pc' := 17) dX11_heed_16 rfl rfl rfl ?_
        refine z_iload_n C (i := 1) (pc' := 18) dX11_heed_17 rfl rfl rfl ?_
        refine z_iload_n C (i := 2) (pc' := 19) dX11_heed_18 rfl rfl rfl ?_
        refine z_callV1 C (pc' := 22) lvRX11_187 lc_X11_heedOf rfl dX11_heed_19 rfl (by decide) (rX11_heedOf l w x0 x1 x2 u6) rfl (Nat.le_of_ble_eq_true rfl) (fun v7 u8 => ?_)
        refine z_goto C (pc' := 26) dX11_heed_22 rfl ?_
        exact z_ireturn C dX11_heed_26
def fX11_isPaper (x0 x1 : Int) (u0 : zMem) : zRs := zgf 11 20 x0 u0 (fun v1 => zcall (fX11_within x1 0 (zw32 (v1 - 1)) u0) (fun v2 u3 => zbl v2 (some (v2, u3))))
set_option maxRecDepth 100000 in
set_option maxHeartbeats 4000000 in
theorem rX11_isPaper (l : Launch) (w : zW) (x0 x1 : Int) (u0 : zMem) : zSpc l w 2 yX11_isPaper cX11_isPaper 2 (some .boolean) 1 [zR x0, zI x1] u0 (fX11_isPaper x0 x1 u0) := by
  refine zSpc_of (own := RX11) pnRX11 rfl (Nat.le_of_ble_eq_true rfl) (fun G p e R s m args below meth c C hini => ?_)
  unfold fX11_isPaper
  refine zlocs (lb := [(0, zR x0), (1, zI x1)]) ⟨rfl, rfl, trivial⟩ ?_
  refine z_iload_n C (i := 1) (pc' := 1) dX11_isPaper_0 rfl rfl rfl ?_
  refine z_i2l C (pc' := 2) dX11_isPaper_1 rfl ?_
  refine z_lconst C (pc' := 3) dX11_isPaper_2 kl_0 rfl ?_
  refine z_aload_n C (i := 0) (pc' := 4) dX11_isPaper_3 rfl rfl rfl ?_
  refine z_getf C (pc' := 7) flRX11_190 dX11_isPaper_4 rfl (fun v1 => ?_)
  refine z_iconst C (pc' := 8) dX11_isPaper_7 kc_1 rfl ?_
  refine z_isub C (pc' := 9) dX11_isPaper_8 rfl ?_
  refine z_i2l C (pc' := 10) dX11_isPaper_9 rfl ?_
  refine z_callS1 C (pc' := 13) lsRX11_88 lc_X11_within rfl dX11_isPaper_10 rfl (by decide) (rX11_within l w x1 0 (zw32 (v1 - 1)) u0) rfl (Nat.le_of_ble_eq_true rfl) (fun v2 u3 => ?_)
  exact z_zreturn C dX11_isPaper_13
def fX11_puts (x0 x1 x2 x3 x4 x5 x6 : Int) (u0 : zMem) : zRs := zgf 11 23 x0 u0 (fun v1 => zast 20 v1 (zw32 ((zw32 (16 * x1)) + x2)) x3 u0 (fun u2 => zgf 11 24 x0 u2 (fun v3 => zast 20 v3 (zw32 ((zw32 (16 * x1)) + x2)) x4 u2 (fun u4 => zgf 11 25 x0 u4 (fun v5 => zast 20 v5 (zw32 ((zw32 (16 * x1)) + x2)) x5 u4 (fun u6 => zgf 11 26 x0 u6 (fun v7 => zbl x6 (zast 22 v7 (zw32 ((zw32 (16 * x1)) + x2)) x6 u6 fun u8 => some (0, u8)))))))))
set_option maxRecDepth 100000 in
set_option maxHeartbeats 4000000 in
theorem rX11_puts (l : Launch) (w : zW) (x0 x1 x2 x3 x4 x5 x6 : Int) (u0 : zMem) : zSpc l w 1 yX11_puts cX11_puts 8 none 0 [zR x0, zI x1, zI x2, zI x3, zI x4, zI x5, zI x6] u0 (fX11_puts x0 x1 x2 x3 x4 x5 x6 u0) := by
  refine zSpc_of (own := RX11) pnRX11 rfl (Nat.le_of_ble_eq_true rfl) (fun G p e R s m args below meth c C hini => ?_)
  unfold fX11_puts
  refine zlocs (lb := [(0, zR x0), (1, zI x1), (2, zI x2), (3, zI x3), (4, zI x4), (5, zI x5), (6, zI x6)]) ⟨rfl, rfl, rfl, rfl, rfl, rfl, rfl, trivial⟩ ?_
  refine z_bipush C (pc' := 2) dX11_puts_0 kb_16 rfl ?_
  refine z_iload_n C (i := 1) (pc' := 3) dX11_puts_2 rfl rfl rfl ?_
  refine z_imul C (pc' := 4) dX11_puts_3 rfl ?_
  refine z_iload_n C (i := 2) (pc' := 5) dX11_puts_4 rfl rfl rfl ?_
  refine z_iadd C (pc' := 6) dX11_puts_5 rfl ?_
  refine z_istore C (i := 7) (la' := [(7, zI (zw32 ((zw32 (16 * x1)) + x2))), (0, zR x0), (1, zI x1), (2, zI x2), (3, zI x3), (4, zI x4), (5, zI x5), (6, zI x6)]) (pc' := 8) dX11_puts_6 (by decide) rfl rfl ?_
  refine z_aload_n C (i := 0) (pc' := 9) dX11_puts_8 rfl rfl rfl ?_
  refine z_getfR C (pc' := 12) flRX11_46 dX11_puts_9 rfl (fun v1 => ?_)
  refine z_iload C (pc' := 14) dX11_puts_12 rfl rfl ?_
  refine z_iload_n C (i := 3) (pc' := 15) dX11_puts_14 rfl rfl rfl ?_
  refine z_iast C (pc' := 16) dX11_puts_15 rfl (fun u2 => ?_)
  refine z_aload_n C (i := 0) (pc' := 17) dX11_puts_16 rfl rfl rfl ?_
  refine z_getfR C (pc' := 20) flRX11_49 dX11_puts_17 rfl (fun v3 => ?_)
  refine z_iload C (pc' := 22) dX11_puts_20 rfl rfl ?_
  refine z_iload C (pc' := 24) dX11_puts_22 rfl rfl ?_
  refine z_iast C (pc' := 25) dX11_puts_24 rfl (fun u4 => ?_)
  refine z_aload_n C (i := 0) (pc' := 26) dX11_puts_25 rfl rfl rfl ?_
  refine z_getfR C (pc' := 29) flRX11_52 dX11_puts_26 rfl (fun v5 => ?_)
  refine z_iload C (pc' := 31) dX11_puts_29 rfl rfl ?_
  refine z_iload C (pc' := 33) dX11_puts_31 rfl rfl ?_
  refine z_iast C (pc' := 34) dX11_puts_33 rfl (fun u6 => ?_)
  refine z_aload_n C (i := 0) (pc' := 35) dX11_puts_34 rfl rfl rfl ?_
  refine z_getfR C (pc' := 38) flRX11_55 dX11_puts_35 rfl (fun v7 => ?_)
  refine z_iload C (pc' := 40) dX11_puts_38 rfl rfl ?_
  refine z_iload C (pc' := 42) dX11_puts_40 rfl rfl ?_
  refine z_zast C (pc' := 43) dX11_puts_42 rfl (fun u8 => ?_)
  exact z_return C dX11_puts_43
def fX11_moves (x0 x1 x2 x3 : Int) (u0 : zMem) : zRs := zgf 11 23 x0 u0 (fun v1 => zald 20 v1 (zw32 ((zw32 (16 * x1)) + x3)) u0 (fun v2 => zgf 11 24 x0 u0 (fun v3 => zald 20 v3 (zw32 ((zw32 (16 * x1)) + x3)) u0 (fun v4 => zgf 11 25 x0 u0 (fun v5 => zald 20 v5 (zw32 ((zw32 (16 * x1)) + x3)) u0 (fun v6 => zgf 11 26 x0 u0 (fun v7 => zald 22 v7 (zw32 ((zw32 (16 * x1)) + x3)) u0 (fun v8 => zvc 11 x0 (fX11_puts x0 x1 x2 v2 v4 v6 v8 u0) (fun _ u9 => some (0, u9))))))))))
set_option maxRecDepth 100000 in
set_option maxHeartbeats 4000000 in
theorem rX11_moves (l : Launch) (w : zW) (x0 x1 x2 x3 : Int) (u0 : zMem) : zSpc l w 2 yX11_moves cX11_moves 5 none 0 [zR x0, zI x1, zI x2, zI x3] u0 (fX11_moves x0 x1 x2 x3 u0) := by
  refine zSpc_of (own := RX11) pnRX11 rfl (Nat.le_of_ble_eq_true rfl) (fun G p e R s m args below meth c C hini => ?_)
  unfold fX11_moves
  refine zlocs (lb := [(0, zR x0), (1, zI x1), (2, zI x2), (3, zI x3)]) ⟨rfl, rfl, rfl, rfl, trivial⟩ ?_
  refine z_bipush C (pc' := 2) dX11_moves_0 kb_16 rfl ?_
  refine z_iload_n C (i := 1) (pc' := 3) dX11_moves_2 rfl rfl rfl ?_
  refine z_imul C (pc' := 4) dX11_moves_3 rfl ?_
  refine z_iload_n C (i := 3) (pc' := 5) dX11_moves_4 rfl rfl rfl ?_
  refine z_iadd C (pc' := 6) dX11_moves_5 rfl ?_
  refine z_istore C (i := 4) (la' := [(4, zI (zw32 ((zw32 (16 * x1)) + x3))), (0, zR x0), (1, zI x1), (2, zI x2), (3, zI x3)]) (pc' := 8) dX11_moves_6 (by decide) rfl rfl ?_
  refine z_aload_n C (i := 0) (pc' := 9) dX11_moves_8 rfl rfl rfl ?_
  refine z_iload_n C (i := 1) (pc' := 10) dX11_moves_9 rfl rfl rfl ?_
  refine z_iload_n C (i := 2) (pc' := 11) dX11_moves_10 rfl rfl rfl ?_
  refine z_aload_n C (i := 0) (pc' := 12) dX11_moves_11 rfl rfl rfl ?_
  refine z_getfR C (pc' := 15) flRX11_46 dX11_moves_12 rfl (fun v1 => ?_)
  refine z_iload C (pc' := 17) dX11_moves_15 rfl rfl ?_
  refine z_iald C (pc' := 18) dX11_moves_17 rfl (fun v2 => ?_)
  refine z_aload_n C (i := 0) (pc' := 19) dX11_moves_18 rfl rfl rfl ?_
  refine z_getfR C (pc' := 22) flRX11_49 dX11_moves_19 rfl (fun v3 => ?_)
  refine z_iload C (pc' := 24) dX11_moves_22 rfl rfl ?_
  refine z_iald C (pc' := 25) dX11_moves_24 rfl (fun v4 => ?_)
  refine z_aload_n C (i := 0) (pc' := 26) dX11_moves_25 rfl rfl rfl ?_
  refine z_getfR C (pc' := 29) flRX11_52 dX11_moves_26 rfl (fun v5 => ?_)
  refine z_iload C (pc' := 31) dX11_moves_29 rfl rfl ?_
  refine z_iald C (pc' := 32) dX11_moves_31 rfl (fun v6 => ?_)
  refine z_aload_n C (i := 0) (pc' := 33) dX11_moves_32 rfl rfl rfl ?_
  refine z_getfR C (pc' := 36) flRX11_55 dX11_moves_33 rfl (fun v7 => ?_)
  refine z_iload C (pc' := 38) dX11_moves_36 rfl rfl ?_
  refine z_zald C (pc' := 39) dX11_moves_38 rfl (fun v8 => ?_)
  refine z_callV0 C (pc' := 42) lvRX11_193 lc_X11_puts rfl dX11_moves_39 rfl (by decide) (rX11_puts l w x0 x1 x2 v2 v4 v6 v8 u0) rfl (Nat.le_of_ble_eq_true rfl) (fun _ u9 => ?_)
  exact z_return C dX11_moves_42
def fX11_fallsAway (x0 x1 x2 : Int) (u0 : zMem) : zRs := zlp (fun _ _ => none) (fun k3 (v1 : Int) (u2 : zMem) => zgf 11 22 x0 u2 (fun v4 => zald 20 v4 x1 u2 (fun v5 => if v1 ≥ v5 then (zgf 11 22 x0 u2 (fun v6 => zald 20 v6 x1 u2 (fun v7 => zast 20 v6 x1 (zw32 (v7 - 1)) u2 (fun u8 => some (0, u8))))) else (zvc 11 x0 (fX11_moves x0 x1 (zw32 (v1 - 1)) v1 u2) (fun _ u9 => k3 (zw32 (v1 + 1)) u9))))) 1000000 (zw32 (x2 + 1)) u0
set_option maxRecDepth 100000 in
set_option maxHeartbeats 4000000 in
theorem rX11_fallsAway (l : Launch) (w : zW) (x0 x1 x2 : Int) (u0 : zMem) : zSpc l w 3 yX11_fallsAway cX11_fallsAway 4 none 0 [zR x0, zI x1, zI x2] u0 (fX11_fallsAway x0 x1 x2 u0) := by
  refine zSpc_of (own := RX11) pnRX11 rfl (Nat.le_of_ble_eq_true rfl) (fun G p e R s m args below meth c C hini => ?_)
  unfold fX11_fallsAway
  refine zlocs (lb := [(0, zR x0), (1, zI x1), (2, zI x2)]) ⟨rfl, rfl, rfl, trivial⟩ ?_
  refine z_iload_n C (i := 2) (pc' := 1) dX11_fallsAway_0 rfl rfl rfl ?_
  refine z_iconst C (pc' := 2) dX11_fallsAway_1 kc_1 rfl ?_
  refine z_iadd C (pc' := 3) dX11_fallsAway_2 rfl ?_
  refine z_istore_n C (i := 3) (la' := [(3, zI (zw32 (x2 + 1))), (0, zR x0), (1, zI x1), (2, zI x2)]) (pc' := 4) dX11_fallsAway_3 rfl (by decide) rfl rfl ?_
  refine zlocs (lb := [(0, zR x0), (1, zI x1), (3, zI (zw32 (x2 + 1)))]) ⟨rfl, rfl, rfl, trivial⟩ ?_
  refine zlp_ind (fun (f : Int → zMem → zRs) => ∀ (v1 : Int) (u2 : zMem), zSim G p l e R s m args below meth c w 4 (znc u0) (zM w 0 (znc u0) below args s) 4 [(0, zR x0), (1, zI x1), (3, zI v1)] [] u2 (f v1 u2)) (fun _ _ => znone) (fun k3 hk3 v1 u2 => ?_) _ _ _
  refine z_iload_n C (i := 3) (pc' := 5) dX11_fallsAway_4 rfl rfl rfl ?_
  refine z_aload_n C (i := 0) (pc' := 6) dX11_fallsAway_5 rfl rfl rfl ?_
  refine z_getfR C (pc' := 9) flRX11_43 dX11_fallsAway_6 rfl (fun v4 => ?_)
  refine z_iload_n C (i := 1) (pc' := 10) dX11_fallsAway_9 rfl rfl rfl ?_
  refine z_iald C (pc' := 11) dX11_fallsAway_10 rfl (fun v5 => ?_)
  refine z_icmp_ge C (pc' := 29) (pf := 14) dX11_fallsAway_11 rfl rfl (fun _ => ?_) (fun _ => ?_)
  ·
    refine z_aload_n C (i := 0) (pc' := 30) dX11_fallsAway_29 rfl rfl rfl ?_
    refine z_getfR C (pc' := 33) flRX11_43 dX11_fallsAway_30 rfl (fun v6 => ?_)
    refine z_iload_n C (i := 1) (pc' := 34) dX11_fallsAway_33 rfl rfl rfl ?_
    refine z_dup2 C (pc' := 35) dX11_fallsAway_34 rfl rfl rfl ?_
    refine z_iald C (pc' := 36) dX11_fallsAway_35 rfl (fun v7 => ?_)
    refine z_iconst C (pc' := 37) dX11_fallsAway_36 kc_1 rfl ?_
    refine z_isub C (pc' := 38) dX11_fallsAway_37 rfl ?_
    refine z_iast C (pc' := 39) dX11_fallsAway_38 rfl (fun u8 => ?_)
    exact z_return C dX11_fallsAway_39
  ·
    refine z_aload_n C (i := 0) (pc' := 15) dX11_fallsAway_14 rfl rfl rfl ?_
    refine z_iload_n C (i := 1) (pc' := 16) dX11_fallsAway_15 rfl rfl rfl ?_
    refine z_iload_n C (i := 3) (pc' := 17) dX11_fallsAway_16 rfl rfl rfl ?_
    refine z_iconst C (pc' := 18) dX11_fallsAway_17 kc_1 rfl ?_
    refine z_isub C (pc' := 19) dX11_fallsAway_18 rfl ?_
    refine z_iload_n C (i := 3) (pc' := 20) dX11_fallsAway_19 rfl rfl rfl ?_
    refine z_callV0 C (pc' := 23) lvRX11_197 lc_X11_moves rfl dX11_fallsAway_20 rfl (by decide) (rX11_moves l w x0 x1 (zw32 (v1 - 1)) v1 u2) rfl (Nat.le_of_ble_eq_true rfl) (fun _ u9 => ?_)
    refine z_iinc C (i := 3) (la' := [(3, zI (zw32 (v1 + 1))), (0, zR x0), (1, zI x1)]) (pc' := 26) dX11_fallsAway_23 rfl (by decide) rfl rfl ?_
    refine z_goto C (pc' := 4) dX11_fallsAway_26 rfl ?_
    exact zlocs (lb := [(0, zR x0), (1, zI x1), (3, zI (zw32 (v1 + 1)))]) ⟨rfl, rfl, rfl, trivial⟩ (hk3 _ _)
def fX11_joinsAll (x0 x1 : Int) (u0 : zMem) : zRs := zlp (fun _ _ => none) (fun k3 (v1 : Int) (u2 : zMem) => zgf 11 22 x0 u2 (fun v4 => zald 20 v4 x1 u2 (fun v5 => if v1 ≥ v5 then (some (0, u2)) else (zgf 11 23 x0 u2 (fun v6 => zald 20 v6 (zw32 ((zw32 ((zw32 (16 * x1)) + v1)) - 1)) u2 (fun v7 => zgf 11 23 x0 u2 (fun v8 => zald 20 v8 (zw32 ((zw32 (16 * x1)) + v1)) u2 (fun v9 => zgf 11 0 x0 u2 (fun v10 => zald 20 v10 v7 u2 (fun v11 => zgf 11 0 x0 u2 (fun v12 => zald 20 v12 v9 u2 (fun v13 => zjn (fun (v14 : Int) (u15 : zMem) => k3 v14 u15) (fun k16 => zjn (fun (u17 : zMem) => k16 (zw32 (v1 + 1)) u17) (fun k18 => if v11 ≠ v13 then (k18 u2) else (zgf 11 0 x0 u2 (fun v19 => zald 20 v19 (zw32 (32 + v7)) u2 (fun v20 => zgf 11 0 x0 u2 (fun v21 => zald 20 v21 (zw32 (32 + v9)) u2 (fun v22 => if v20 ≠ v22 then (k18 u2) else (zgf 11 25 x0 u2 (fun v23 => zald 20 v23 (zw32 ((zw32 ((zw32 (16 * x1)) + v1)) - 1)) u2 (fun v24 => zgf 11 25 x0 u2 (fun v25 => zald 20 v25 (zw32 ((zw32 (16 * x1)) + v1)) u2 (fun v26 => zast 20 v23 (zw32 ((zw32 ((zw32 (16 * x1)) + v1)) - 1)) (zw32 (v24 + v26)) u2 (fun u27 => zvc 11 x0 (fX11_fallsAway x0 x1 v1 u27) (fun _ u28 => k16 v1 u28)))))))))))))))))))))))))) 1000000 1 u0
set_option maxRecDepth 100000 in
set_option maxHeartbeats 4000000 in
theorem rX11_joinsAll (l : Launch) (w : zW) (x0 x1 : Int) (u0 : zMem) : zSpc l w 4 yX11_joinsAll cX11_joinsAll 5 none 0 [zR x0, zI x1] u0 (fX11_joinsAll x0 x1 u0) := by
  refine zSpc_of (own := RX11) pnRX11 rfl (Nat.le_of_ble_eq_true rfl) (fun G p e R s m args below meth c C hini => ?_)
  unfold fX11_joinsAll
  refine zlocs (lb := [(0, zR x0), (1, zI x1)]) ⟨rfl, rfl, trivial⟩ ?_
  refine z_iconst C (pc' := 1) dX11_joinsAll_0 kc_1 rfl ?_
  refine z_istore_n C (i := 2) (la' := [(2, zI 1), (0, zR x0), (1, zI x1)]) (pc' := 2) dX11_joinsAll_1 rfl (by decide) rfl rfl ?_
  refine zlocs (lb := [(0, zR x0), (1, zI x1), (2, zI 1)]) ⟨rfl, rfl, rfl, trivial⟩ ?_
  refine zlp_ind (fun (f : Int → zMem → zRs) => ∀ (v1 : Int) (u2 : zMem), zSim G p l e R s m args below meth c w 5 (znc u0) (zM w 0 (znc u0) below args s) 2 [(0, zR x0), (1, zI x1), (2, zI v1)] [] u2 (f v1 u2)) (fun _ _ => znone) (fun k3 hk3 v1 u2 => ?_) _ _ _
  refine z_iload_n C (i := 2) (pc' := 3) dX11_joinsAll_2 rfl rfl rfl ?_
  refine z_aload_n C (i := 0) (pc' := 4) dX11_joinsAll_3 rfl rfl rfl ?_
  refine z_getfR C (pc' := 7) flRX11_43 dX11_joinsAll_4 rfl (fun v4 => ?_)
  refine z_iload_n C (i := 1) (pc' := 8) dX11_joinsAll_7 rfl rfl rfl ?_
  refine z_iald C (pc' := 9) dX11_joinsAll_8 rfl (fun v5 => ?_)
  refine z_icmp_ge C (pc' := 119) (pf := 12) dX11_joinsAll_9 rfl rfl (fun _ => ?_) (fun _ => ?_)
  ·
    exact z_return C dX11_joinsAll_119
  ·
    refine z_aload_n C (i := 0) (pc' := 13) dX11_joinsAll_12 rfl rfl rfl ?_
    refine z_getfR C (pc' := 16) flRX11_46 dX11_joinsAll_13 rfl (fun v6 => ?_)
    refine z_bipush C (pc' := 18) dX11_joinsAll_16 kb_16 rfl ?_
    refine z_iload_n C (i := 1) (pc' := 19) dX11_joinsAll_18 rfl rfl rfl ?_
    refine z_imul C (pc' := 20) dX11_joinsAll_19 rfl ?_
    refine z_iload_n C (i := 2) (pc' := 21) dX11_joinsAll_20 rfl rfl rfl ?_
    refine z_iadd C (pc' := 22) dX11_joinsAll_21 rfl ?_
    refine z_iconst C (pc' := 23) dX11_joinsAll_22 kc_1 rfl ?_
    refine z_isub C (pc' := 24) dX11_joinsAll_23 rfl ?_
    refine z_iald C (pc' := 25) dX11_joinsAll_24 rfl (fun v7 => ?_)
    refine z_istore_n C (i := 3) (la' := [(3, zI v7), (0, zR x0), (1, zI x1), (2, zI v1)]) (pc' := 26) dX11_joinsAll_25 rfl (by decide) rfl rfl ?_
    refine z_aload_n C (i := 0) (pc' := 27) dX11_joinsAll_26 rfl rfl rfl ?_
    refine z_getfR C (pc' := 30) flRX11_46 dX11_joinsAll_27 rfl (fun v8 => ?_)
    refine z_bipush C (pc' := 32) dX11_joinsAll_30 kb_16 rfl ?_
    refine z_iload_n C (i := 1) (pc' := 33) dX11_joinsAll_32 rfl rfl rfl ?_
    refine z_imul C (pc' := 34) dX11_joinsAll_33 rfl ?_
    refine z_iload_n C (i := 2) (pc' := 35) dX11_joinsAll_34 rfl rfl rfl ?_
    refine z_iadd C (pc' := 36) dX11_joinsAll_35 rfl ?_
    refine z_iald C (pc' := 37) dX11_joinsAll_36 rfl (fun v9 => ?_)
    refine z_istore C (i := 4) (la' := [(4, zI v9), (3, zI v7), (0, zR x0), (1, zI x1), (2, zI v1)]) (pc' := 39) dX11_joinsAll_37 (by decide) rfl rfl ?_
    refine z_aload_n C (i := 0) (pc' := 40) dX11_joinsAll_39 rfl rfl rfl ?_
    refine z_getfR C (pc' := 43) flRX11_9 dX11_joinsAll_40 rfl (fun v10 => ?_)
    refine z_iload_n C (i := 3) (pc' := 44) dX11_joinsAll_43 rfl rfl rfl ?_
    refine z_iald C (pc' := 45) dX11_joinsAll_44 rfl (fun v11 => ?_)
    refine z_aload_n C (i := 0) (pc' := 46) dX11_joinsAll_45 rfl rfl rfl ?_
    refine z_getfR C (pc' := 49) flRX11_9 dX11_joinsAll_46 rfl (fun v12 => ?_)
    refine z_iload C (pc' := 51) dX11_joinsAll_49 rfl rfl ?_
    refine z_iald C (pc' := 52) dX11_joinsAll_51 rfl (fun v13 => ?_)
    refine zjoin (P := fun (f : Int → zMem → zRs) => ∀ (v14 : Int) (u15 : zMem), zSim G p l e R s m args below meth c w 5 (znc u0) (zM w 0 (znc u0) below args s) 116 [(0, zR x0), (1, zI x1), (2, zI v14)] [] u15 (f v14 u15)) (fun v14 u15 => ?_) (fun k16 hk16 => ?_)
    ·
      refine z_goto C (pc' := 2) dX11_joinsAll_116 rfl ?_
      exact zlocs (lb := [(0, zR x0), (1, zI x1), (2, zI v14)]) ⟨rfl, rfl, rfl, trivial⟩ (hk3 _ _)
    ·
      refine zjoin (P := fun (f : zMem → zRs) => ∀ (u17 : zMem), zSim G p l e R s m args below meth c w 5 (znc u0) (zM w 0 (znc u0) below args s) 113 [(0, zR x0), (1, zI x1), (2, zI v1)] [] u17 (f u17)) (fun u17 => ?_) (fun k18 hk18 => ?_)
      ·
        refine z_iinc C (i := 2) (la' := [(2, zI (zw32 (v1 + 1))), (0, zR x0), (1, zI x1)]) (pc' := 116) dX11_joinsAll_113 rfl (by decide) rfl rfl ?_
        exact zlocs (lb := [(0, zR x0), (1, zI x1), (2, zI (zw32 (v1 + 1)))]) ⟨rfl, rfl, rfl, trivial⟩ (hk16 _ _)
      ·
        refine z_icmp_ne C (pc' := 113) (pf := 55) dX11_joinsAll_52 rfl rfl (fun _ => ?_) (fun _ => ?_)
        ·
          exact zlocs (lb := [(0, zR x0), (1, zI x1), (2, zI v1)]) ⟨rfl, rfl, rfl, trivial⟩ (hk18 _)
        ·
          refine z_aload_n C (i := 0) (pc' := 56) dX11_joinsAll_55 rfl rfl rfl ?_
          refine z_getfR C (pc' := 59) flRX11_9 dX11_joinsAll_56 rfl (fun v19 => ?_)
          refine z_bipush C (pc' := 61) dX11_joinsAll_59 kb_32 rfl ?_
          refine z_iload_n C (i := 3) (pc' := 62) dX11_joinsAll_61 rfl rfl rfl ?_
          refine z_iadd C (pc' := 63) dX11_joinsAll_62 rfl ?_
          refine z_iald C (pc' := 64) dX11_joinsAll_63 rfl (fun v20 => ?_)
          refine z_aload_n C (i := 0) (pc' := 65) dX11_joinsAll_64 rfl rfl rfl ?_
          refine z_getfR C (pc' := 68) flRX11_9 dX11_joinsAll_65 rfl (fun v21 => ?_)
          refine z_bipush C (pc' := 70) dX11_joinsAll_68 kb_32 rfl ?_
          refine z_iload C (pc' := 72) dX11_joinsAll_70 rfl rfl ?_
          refine z_iadd C (pc' := 73) dX11_joinsAll_72 rfl ?_
          refine z_iald C (pc' := 74) dX11_joinsAll_73 rfl (fun v22 => ?_)
          refine z_icmp_ne C (pc' := 113) (pf := 77) dX11_joinsAll_74 rfl rfl (fun _ => ?_) (fun _ => ?_)
          ·
            exact zlocs (lb := [(0, zR x0), (1, zI x1), (2, zI v1)]) ⟨rfl, rfl, rfl, trivial⟩ (hk18 _)
          ·
            refine z_aload_n C (i := 0) (pc' := 78) dX11_joinsAll_77 rfl rfl rfl ?_
            refine z_getfR C (pc' := 81) flRX11_52 dX11_joinsAll_78 rfl (fun v23 => ?_)
            refine z_bipush C (pc' := 83) dX11_joinsAll_81 kb_16 rfl ?_
            refine z_iload_n C (i := 1) (pc' := 84) dX11_joinsAll_83 rfl rfl rfl ?_
            refine z_imul C (pc' := 85) dX11_joinsAll_84 rfl ?_
            refine z_iload_n C (i := 2) (pc' := 86) dX11_joinsAll_85 rfl rfl rfl ?_
            refine z_iadd C (pc' := 87) dX11_joinsAll_86 rfl ?_
            refine z_iconst C (pc' := 88) dX11_joinsAll_87 kc_1 rfl ?_
            refine z_isub C (pc' := 89) dX11_joinsAll_88 rfl ?_
            refine z_dup2 C (pc' := 90) dX11_joinsAll_89 rfl rfl rfl ?_
            refine z_iald C (pc' := 91) dX11_joinsAll_90 rfl (fun v24 => ?_)
            refine z_aload_n C (i := 0) (pc' := 92) dX11_joinsAll_91 rfl rfl rfl ?_
            refine z_getfR C (pc' := 95) flRX11_52 dX11_joinsAll_92 rfl (fun v25 => ?_)
            refine z_bipush C (pc' := 97) dX11_joinsAll_95 kb_16 rfl ?_
            refine z_iload_n C (i := 1) (pc' := 98) dX11_joinsAll_97 rfl rfl rfl ?_
            refine z_imul C (pc' := 99) dX11_joinsAll_98 rfl ?_
            refine z_iload_n C (i := 2) (pc' := 100) dX11_joinsAll_99 rfl rfl rfl ?_
            refine z_iadd C (pc' := 101) dX11_joinsAll_100 rfl ?_
            refine z_iald C (pc' := 102) dX11_joinsAll_101 rfl (fun v26 => ?_)
            refine z_iadd C (pc' := 103) dX11_joinsAll_102 rfl ?_
            refine z_iast C (pc' := 104) dX11_joinsAll_103 rfl (fun u27 => ?_)
            refine z_aload_n C (i := 0) (pc' := 105) dX11_joinsAll_104 rfl rfl rfl ?_
            refine z_iload_n C (i := 1) (pc' := 106) dX11_joinsAll_105 rfl rfl rfl ?_
            refine z_iload_n C (i := 2) (pc' := 107) dX11_joinsAll_106 rfl rfl rfl ?_
            refine z_callV0 C (pc' := 110) lvRX11_201 lc_X11_fallsAway rfl dX11_joinsAll_107 rfl (by decide) (rX11_fallsAway l w x0 x1 v1 u27) rfl (Nat.le_of_ble_eq_true rfl) (fun _ u28 => ?_)
            refine z_goto C (pc' := 116) dX11_joinsAll_110 rfl ?_
            exact zlocs (lb := [(0, zR x0), (1, zI x1), (2, zI v1)]) ⟨rfl, rfl, rfl, trivial⟩ (hk16 _ _)
def fX11_softensAll (x0 x1 : Int) (u0 : zMem) : zRs := zlp (fun _ _ => none) (fun k3 (v1 : Int) (u2 : zMem) => zgf 11 22 x0 u2 (fun v4 => zald 20 v4 x1 u2 (fun v5 => if v1 ≥ (zw32 ((zw32 (16 * x1)) + v5)) then (some (0, u2)) else (zgf 11 24 x0 u2 (fun v6 => zgf 11 24 x0 u2 (fun v7 => zald 20 v7 v1 u2 (fun v8 => zjn (fun (v9 : Int) (u10 : zMem) => zast 20 v6 v1 v9 u10 (fun u12 => k3 (zw32 (v1 + 1)) u12)) (fun k11 => if v8 ≠ 2 then (zgf 11 24 x0 u2 (fun v13 => zald 20 v13 v1 u2 (fun v14 => k11 v14 u2))) else (k11 0 u2))))))))) 1000000 (zw32 (16 * x1)) u0
set_option maxRecDepth 100000 in
set_option maxHeartbeats 4000000 in
theorem rX11_softensAll (l : Launch) (w : zW) (x0 x1 : Int) (u0 : zMem) : zSpc l w 1 yX11_softensAll cX11_softensAll 3 none 0 [zR x0, zI x1] u0 (fX11_softensAll x0 x1 u0) := by
  refine zSpc_of (own := RX11) pnRX11 rfl (Nat.le_of_ble_eq_true rfl) (fun G p e R s m args below meth c C hini => ?_)
  unfold fX11_softensAll
  refine zlocs (lb := [(0, zR x0), (1, zI x1)]) ⟨rfl, rfl, trivial⟩ ?_
  refine z_bipush C (pc' := 2) dX11_softensAll_0 kb_16 rfl ?_
  refine z_iload_n C (i := 1) (pc' := 3) dX11_softensAll_2 rfl rfl rfl ?_
  refine z_imul C (pc' := 4) dX11_softensAll_3 rfl ?_
  refine z_istore_n C (i := 2) (la' := [(2, zI (zw32 (16 * x1))), (0, zR x0), (1, zI x1)]) (pc' := 5) dX11_softensAll_4 rfl (by decide) rfl rfl ?_
  refine zlocs (lb := [(0, zR x0), (1, zI x1), (2, zI (zw32 (16 * x1)))]) ⟨rfl, rfl, rfl, trivial⟩ ?_
  refine zlp_ind (fun (f : Int → zMem → zRs) => ∀ (v1 : Int) (u2 : zMem), zSim G p l e R s m args below meth c w 3 (znc u0) (zM w 0 (znc u0) below args s) 5 [(0, zR x0), (1, zI x1), (2, zI v1)] [] u2 (f v1 u2)) (fun _ _ => znone) (fun k3 hk3 v1 u2 => ?_) _ _ _
  refine z_iload_n C (i := 2) (pc' := 6) dX11_softensAll_5 rfl rfl rfl ?_
  refine z_bipush C (pc' := 8) dX11_softensAll_6 kb_16 rfl ?_
  refine z_iload_n C (i := 1) (pc' := 9) dX11_softensAll_8 rfl rfl rfl ?_
  refine z_imul C (pc' := 10) dX11_softensAll_9 rfl ?_
  refine z_aload_n C (i := 0) (pc' := 11) dX11_softensAll_10 rfl rfl rfl ?_
  refine z_getfR C (pc' := 14) flRX11_43 dX11_softensAll_11 rfl (fun v4 => ?_)
  refine z_iload_n C (i := 1) (pc' := 15) dX11_softensAll_14 rfl rfl rfl ?_
  refine z_iald C (pc' := 16) dX11_softensAll_15 rfl (fun v5 => ?_)
  refine z_iadd C (pc' := 17) dX11_softensAll_16 rfl ?_
  refine z_icmp_ge C (pc' := 52) (pf := 20) dX11_softensAll_17 rfl rfl (fun _ => ?_) (fun _ => ?_)
  ·
    exact z_return C dX11_softensAll_52
  ·
    refine z_aload_n C (i := 0) (pc' := 21) dX11_softensAll_20 rfl rfl rfl ?_
    refine z_getfR C (pc' := 24) flRX11_49 dX11_softensAll_21 rfl (fun v6 => ?_)
    refine z_iload_n C (i := 2) (pc' := 25) dX11_softensAll_24 rfl rfl rfl ?_
    refine z_aload_n C (i := 0) (pc' := 26) dX11_softensAll_25 rfl rfl rfl ?_
    refine z_getfR C (pc' := 29) flRX11_49 dX11_softensAll_26 rfl (fun v7 => ?_)
    refine z_iload_n C (i := 2) (pc' := 30) dX11_softensAll_29 rfl rfl rfl ?_
    refine z_iald C (pc' := 31) dX11_softensAll_30 rfl (fun v8 => ?_)
    refine z_iconst C (pc' := 32) dX11_softensAll_31 kc_2 rfl ?_
    refine zjoin (P := fun (f : Int → zMem → zRs) => ∀ (v9 : Int) (u10 : zMem), zSim G p l e R s m args below meth c w 3 (znc u0) (zM w 0 (znc u0) below args s) 45 [(0, zR x0), (1, zI x1), (2, zI v1)] [zI v9, zI v1, zR v6] u10 (f v9 u10)) (fun v9 u10 => ?_) (fun k11 hk11 => ?_)
    ·
      refine z_iast C (pc' := 46) dX11_softensAll_45 rfl (fun u12 => ?_)
      refine z_iinc C (i := 2) (la' := [(2, zI (zw32 (v1 + 1))), (0, zR x0), (1, zI x1)]) (pc' := 49) dX11_softensAll_46 rfl (by decide) rfl rfl ?_
      refine z_goto C (pc' := 5) dX11_softensAll_49 rfl ?_
      exact zlocs (lb := [(0, zR x0), (1, zI x1), (2, zI (zw32 (v1 + 1)))]) ⟨rfl, rfl, rfl, trivial⟩ (hk3 _ _)
    ·
      refine z_icmp_ne C (pc' := 39) (pf := 35) dX11_softensAll_32 rfl rfl (fun _ => ?_) (fun _ => ?_)
      ·
        refine z_aload_n C (i := 0) (pc' := 40) dX11_softensAll_39 rfl rfl rfl ?_
        refine z_getfR C (pc' := 43) flRX11_49 dX11_softensAll_40 rfl (fun v13 => ?_)
        refine z_iload_n C (i := 2) (pc' := 44) dX11_softensAll_43 rfl rfl rfl ?_
        refine z_iald C (pc' := 45) dX11_softensAll_44 rfl (fun v14 => ?_)
        exact zlocs (lb := [(0, zR x0), (1, zI x1), (2, zI v1)]) ⟨rfl, rfl, rfl, trivial⟩ (hk11 _ _)
      ·
        refine z_iconst C (pc' := 36) dX11_softensAll_35 kc_0 rfl ?_
        refine z_goto C (pc' := 45) dX11_softensAll_36 rfl ?_
        exact zlocs (lb := [(0, zR x0), (1, zI x1), (2, zI v1)]) ⟨rfl, rfl, rfl, trivial⟩ (hk11 _ _)
def fX11_putsLast (x0 x1 : Int) (u0 : zMem) : zRs := zgf 11 22 x0 u0 (fun v1 => zald 20 v1 x1 u0 (fun v2 => zlp (fun _ _ _ => none) (fun k6 (v3 : Int) (v4 : Int) (u5 : zMem) => if v4 ≥ v2 then (some (0, u5)) else (zgf 11 24 x0 u5 (fun v7 => zald 20 v7 (zw32 ((zw32 (16 * x1)) + v3)) u5 (fun v8 => zjn (fun (v9 : Int) (u10 : zMem) => k6 v9 (zw32 (v4 + 1)) u10) (fun k11 => if v8 ≠ 3 then (k11 (zw32 (v3 + 1)) u5) else (zgf 11 23 x0 u5 (fun v12 => zald 20 v12 (zw32 ((zw32 (16 * x1)) + v3)) u5 (fun v13 => zgf 11 25 x0 u5 (fun v14 => zald 20 v14 (zw32 ((zw32 (16 * x1)) + v3)) u5 (fun v15 => zgf 11 26 x0 u5 (fun v16 => zald 22 v16 (zw32 ((zw32 (16 * x1)) + v3)) u5 (fun v17 => zvc 11 x0 (fX11_fallsAway x0 x1 v3 u5) (fun _ u18 => zgf 11 22 x0 u18 (fun v19 => zald 20 v19 x1 u18 (fun v20 => zvc 11 x0 (fX11_puts x0 x1 v20 v13 3 v15 v17 u18) (fun _ u21 => zgf 11 22 x0 u21 (fun v22 => zald 20 v22 x1 u21 (fun v23 => zast 20 v22 x1 (zw32 (v23 + 1)) u21 (fun u24 => k11 v3 u24))))))))))))))))))) 1000000 0 0 u0))
set_option maxRecDepth 100000 in
set_option maxHeartbeats 4000000 in
theorem rX11_putsLast (l : Launch) (w : zW) (x0 x1 : Int) (u0 : zMem) : zSpc l w 4 yX11_putsLast cX11_putsLast 9 none 0 [zR x0, zI x1] u0 (fX11_putsLast x0 x1 u0) := by
  refine zSpc_of (own := RX11) pnRX11 rfl (Nat.le_of_ble_eq_true rfl) (fun G p e R s m args below meth c C hini => ?_)
  unfold fX11_putsLast
  refine zlocs (lb := [(0, zR x0), (1, zI x1)]) ⟨rfl, rfl, trivial⟩ ?_
  refine z_aload_n C (i := 0) (pc' := 1) dX11_putsLast_0 rfl rfl rfl ?_
  refine z_getfR C (pc' := 4) flRX11_43 dX11_putsLast_1 rfl (fun v1 => ?_)
  refine z_iload_n C (i := 1) (pc' := 5) dX11_putsLast_4 rfl rfl rfl ?_
  refine z_iald C (pc' := 6) dX11_putsLast_5 rfl (fun v2 => ?_)
  refine z_istore_n C (i := 2) (la' := [(2, zI v2), (0, zR x0), (1, zI x1)]) (pc' := 7) dX11_putsLast_6 rfl (by decide) rfl rfl ?_
  refine z_iconst C (pc' := 8) dX11_putsLast_7 kc_0 rfl ?_
  refine z_istore_n C (i := 3) (la' := [(3, zI 0), (2, zI v2), (0, zR x0), (1, zI x1)]) (pc' := 9) dX11_putsLast_8 rfl (by decide) rfl rfl ?_
  refine z_iconst C (pc' := 10) dX11_putsLast_9 kc_0 rfl ?_
  refine z_istore C (i := 4) (la' := [(4, zI 0), (3, zI 0), (2, zI v2), (0, zR x0), (1, zI x1)]) (pc' := 12) dX11_putsLast_10 (by decide) rfl rfl ?_
  refine zlocs (lb := [(0, zR x0), (1, zI x1), (2, zI v2), (3, zI 0), (4, zI 0)]) ⟨rfl, rfl, rfl, rfl, rfl, trivial⟩ ?_
  refine zlp_ind (fun (f : Int → Int → zMem → zRs) => ∀ (v3 : Int) (v4 : Int) (u5 : zMem), zSim G p l e R s m args below meth c w 9 (znc u0) (zM w 0 (znc u0) below args s) 12 [(0, zR x0), (1, zI x1), (2, zI v2), (3, zI v3), (4, zI v4)] [] u5 (f v3 v4 u5)) (fun _ _ _ => znone) (fun k6 hk6 v3 v4 u5 => ?_) _ _ _ _
  refine z_iload C (pc' := 14) dX11_putsLast_12 rfl rfl ?_
  refine z_iload_n C (i := 2) (pc' := 15) dX11_putsLast_14 rfl rfl rfl ?_
  refine z_icmp_ge C (pc' := 110) (pf := 18) dX11_putsLast_15 rfl rfl (fun _ => ?_) (fun _ => ?_)
  ·
    exact z_return C dX11_putsLast_110
  ·
    refine z_bipush C (pc' := 20) dX11_putsLast_18 kb_16 rfl ?_
    refine z_iload_n C (i := 1) (pc' := 21) dX11_putsLast_20 rfl rfl rfl ?_
    refine z_imul C (pc' := 22) dX11_putsLast_21 rfl ?_
    refine z_iload_n C (i := 3) (pc' := 23) dX11_putsLast_22 rfl rfl rfl ?_
    refine z_iadd C (pc' := 24) dX11_putsLast_23 rfl ?_
    refine z_istore C (i := 5) (la' := [(5, zI (zw32 ((zw32 (16 * x1)) + v3))), (0, zR x0), (1, zI x1), (2, zI v2), (3, zI v3), (4, zI v4)]) (pc' := 26) dX11_putsLast_24 (by decide) rfl rfl ?_
    refine z_aload_n C (i := 0) (pc' := 27) dX11_putsLast_26 rfl rfl rfl ?_
    refine z_getfR C (pc' := 30) flRX11_49 dX11_putsLast_27 rfl (fun v7 => ?_)
    refine z_iload C (pc' := 32) dX11_putsLast_30 rfl rfl ?_
    refine z_iald C (pc' := 33) dX11_putsLast_32 rfl (fun v8 => ?_)
    refine z_iconst C (pc' := 34) dX11_putsLast_33 kc_3 rfl ?_
    refine zjoin (P := fun (f : Int → zMem → zRs) => ∀ (v9 : Int) (u10 : zMem), zSim G p l e R s m args below meth c w 9 (znc u0) (zM w 0 (znc u0) below args s) 104 [(0, zR x0), (1, zI x1), (2, zI v2), (3, zI v9), (4, zI v4)] [] u10 (f v9 u10)) (fun v9 u10 => ?_) (fun k11 hk11 => ?_)
    ·
      refine z_iinc C (i := 4) (la' := [(4, zI (zw32 (v4 + 1))), (0, zR x0), (1, zI x1), (2, zI v2), (3, zI v9)]) (pc' := 107) dX11_putsLast_104 rfl (by decide) rfl rfl ?_
      refine z_goto C (pc' := 12) dX11_putsLast_107 rfl ?_
      exact zlocs (lb := [(0, zR x0), (1, zI x1), (2, zI v2), (3, zI v9), (4, zI (zw32 (v4 + 1)))]) ⟨rfl, rfl, rfl, rfl, rfl, trivial⟩ (hk6 _ _ _)
    ·
      refine z_icmp_ne C (pc' := 101) (pf := 37) dX11_putsLast_34 rfl rfl (fun _ => ?_) (fun _ => ?_)
      ·
        refine z_iinc C (i := 3) (la' := [(3, zI (zw32 (v3 + 1))), (5, zI (zw32 ((zw32 (16 * x1)) + v3))), (0, zR x0), (1, zI x1), (2, zI v2), (4, zI v4)]) (pc' := 104) dX11_putsLast_101 rfl (by decide) rfl rfl ?_
        exact zlocs (lb := [(0, zR x0), (1, zI x1), (2, zI v2), (3, zI (zw32 (v3 + 1))), (4, zI v4)]) ⟨rfl, rfl, rfl, rfl, rfl, trivial⟩ (hk11 _ _)
      ·
        refine z_aload_n C (i := 0) (pc' := 38) dX11_putsLast_37 rfl rfl rfl ?_
        refine z_getfR C (pc' := 41) flRX11_46 dX11_putsLast_38 rfl (fun v12 => ?_)
        refine z_iload C (pc' := 43) dX11_putsLast_41 rfl rfl ?_
        refine z_iald C (pc' := 44) dX11_putsLast_43 rfl (fun v13 => ?_)
        refine z_istore C (i := 6) (la' := [(6, zI v13), (5, zI (zw32 ((zw32 (16 * x1)) + v3))), (0, zR x0), (1, zI x1), (2, zI v2), (3, zI v3), (4, zI v4)]) (pc' := 46) dX11_putsLast_44 (by decide) rfl rfl ?_
        refine z_aload_n C (i := 0) (pc' := 47) dX11_putsLast_46 rfl rfl rfl ?_
        refine z_getfR C (pc' := 50) flRX11_52 dX11_putsLast_47 rfl (fun v14 => ?_)
        refine z_iload C (pc' := 52) dX11_putsLast_50 rfl rfl ?_
        refine z_iald C (pc' := 53) dX11_putsLast_52 rfl (fun v15 => ?_)
        refine z_istore C (i := 7) (la' := [(7, zI v15), (6, zI v13), (5, zI (zw32 ((zw32 (16 * x1)) + v3))), (0, zR x0), (1, zI x1), (2, zI v2), (3, zI v3), (4, zI v4)]) (pc' := 55) dX11_putsLast_53 (by decide) rfl rfl ?_
        refine z_aload_n C (i := 0) (pc' := 56) dX11_putsLast_55 rfl rfl rfl ?_
        refine z_getfR C (pc' := 59) flRX11_55 dX11_putsLast_56 rfl (fun v16 => ?_)
        refine z_iload C (pc' := 61) dX11_putsLast_59 rfl rfl ?_
        refine z_zald C (pc' := 62) dX11_putsLast_61 rfl (fun v17 => ?_)
        refine z_istore C (i := 8) (la' := [(8, zI v17), (7, zI v15), (6, zI v13), (5, zI (zw32 ((zw32 (16 * x1)) + v3))), (0, zR x0), (1, zI x1), (2, zI v2), (3, zI v3), (4, zI v4)]) (pc' := 64) dX11_putsLast_62 (by decide) rfl rfl ?_
        refine z_aload_n C (i := 0) (pc' := 65) dX11_putsLast_64 rfl rfl rfl ?_
        refine z_iload_n C (i := 1) (pc' := 66) dX11_putsLast_65 rfl rfl rfl ?_
        refine z_iload_n C (i := 3) (pc' := 67) dX11_putsLast_66 rfl rfl rfl ?_
        refine z_callV0 C (pc' := 70) lvRX11_201 lc_X11_fallsAway rfl dX11_putsLast_67 rfl (by decide) (rX11_fallsAway l w x0 x1 v3 u5) rfl (Nat.le_of_ble_eq_true rfl) (fun _ u18 => ?_)
        refine z_aload_n C (i := 0) (pc' := 71) dX11_putsLast_70 rfl rfl rfl ?_
        refine z_iload_n C (i := 1) (pc' := 72) dX11_putsLast_71 rfl rfl rfl ?_
        refine z_aload_n C (i := 0) (pc' := 73) dX11_putsLast_72 rfl rfl rfl ?_
        refine z_getfR C (pc' := 76) flRX11_43 dX11_putsLast_73 rfl (fun v19 => ?_)
        refine z_iload_n C (i := 1) (pc' := 77) dX11_putsLast_76 rfl rfl rfl ?_
        refine z_iald C (pc' := 78) dX11_putsLast_77 rfl (fun v20 => ?_)
        refine z_iload C (pc' := 80) dX11_putsLast_78 rfl rfl ?_
        refine z_iconst C (pc' := 81) dX11_putsLast_80 kc_3 rfl ?_
        refine z_iload C (pc' := 83) dX11_putsLast_81 rfl rfl ?_
        refine z_iload C (pc' := 85) dX11_putsLast_83 rfl rfl ?_
        refine z_callV0 C (pc' := 88) lvRX11_193 lc_X11_puts rfl dX11_putsLast_85 rfl (by decide) (rX11_puts l w x0 x1 v20 v13 3 v15 v17 u18) rfl (Nat.le_of_ble_eq_true rfl) (fun _ u21 => ?_)
        refine z_aload_n C (i := 0) (pc' := 89) dX11_putsLast_88 rfl rfl rfl ?_
        refine z_getfR C (pc' := 92) flRX11_43 dX11_putsLast_89 rfl (fun v22 => ?_)
        refine z_iload_n C (i := 1) (pc' := 93) dX11_putsLast_92 rfl rfl rfl ?_
        refine z_dup2 C (pc' := 94) dX11_putsLast_93 rfl rfl rfl ?_
        refine z_iald C (pc' := 95) dX11_putsLast_94 rfl (fun v23 => ?_)
        refine z_iconst C (pc' := 96) dX11_putsLast_95 kc_1 rfl ?_
        refine z_iadd C (pc' := 97) dX11_putsLast_96 rfl ?_
        refine z_iast C (pc' := 98) dX11_putsLast_97 rfl (fun u24 => ?_)
        refine z_goto C (pc' := 104) dX11_putsLast_98 rfl ?_
        exact zlocs (lb := [(0, zR x0), (1, zI x1), (2, zI v2), (3, zI v3), (4, zI v4)]) ⟨rfl, rfl, rfl, rfl, rfl, trivial⟩ (hk11 _ _)
def fX11_take (x0 x1 x2 : Int) (u0 : zMem) : zRs := zvc 11 x0 (fX11_isWriter x0 x1 u0) (fun v1 u2 => if v1 ≠ 0 then (zgf 11 20 x0 u2 (fun v3 => if v3 ≠ 10 then (zgf 11 20 x0 u2 (fun v4 => zgf 11 20 x0 u2 (fun v5 => zpf 11 20 x0 (zw32 (v5 + 1)) u2 (fun u6 => zgf 11 21 x0 u6 (fun v7 => zast 20 v7 v4 x1 u6 (fun u8 => zgf 11 22 x0 u8 (fun v9 => zast 20 v9 v4 0 u8 (fun u10 => zlp (fun _ _ _ => none) (fun k14 (v11 : Int) (v12 : Int) (u13 : zMem) => zgf 11 6 x0 u13 (fun v15 => if v12 ≥ v15 then (zgf 11 11 x0 u13 (fun v16 => zald 20 v16 x1 u13 (fun v17 => zjn (fun (u18 : zMem) => zgf 11 11 x0 u18 (fun v20 => zald 20 v20 x1 u18 (fun v21 => zjn (fun (u22 : zMem) => zgf 11 11 x0 u22 (fun v24 => zald 20 v24 x1 u22 (fun v25 => if (zand v25 4) = 0 then (some (v4, u22)) else (zvc 11 x0 (fX11_putsLast x0 v4 u22) (fun _ u26 => some (v4, u26)))))) (fun k23 => if (zand v21 2) = 0 then (k23 u18) else (zvc 11 x0 (fX11_softensAll x0 v4 u18) (fun _ u27 => k23 u27)))))) (fun k19 => if (zand v17 1) = 0 then (k19 u13) else (zvc 11 x0 (fX11_joinsAll x0 v4 u13) (fun _ u28 => k19 u28)))))) else (znz 100 (zvc 11 x0 (fX11_heedOf x0 x1 v12 u13) (fun v29 u30 => zjn (fun (u31 : zMem) => k14 (zw32 ((zw32 (v11 * 1103515245)) + 12345)) (zw32 (v12 + 1)) u31) (fun k32 => if (Int.tmod (zushr (zw32 ((zw32 (v11 * 1103515245)) + 12345)) 8) 100) ≥ v29 then (k32 u30) else (zgf 11 0 x0 u30 (fun v33 => zald 20 v33 v12 u30 (fun v34 => zgf 11 10 x0 u30 (fun v35 => zald 20 v35 x1 u30 (fun v36 => zjn (fun (v37 : Int) (u38 : zMem) => zgf 11 22 x0 u38 (fun v40 => zald 20 v40 v4 u38 (fun v41 => zgf 11 0 x0 u38 (fun v42 => zald 20 v42 (zw32 (16 + v12)) u38 (fun v43 => zvc 11 x0 (fX11_puts x0 v4 v41 v12 v43 v37 0 u38) (fun _ u44 => zgf 11 22 x0 u44 (fun v45 => zald 20 v45 v4 u44 (fun v46 => zast 20 v45 v4 (zw32 (v46 + 1)) u44 (fun u47 => k32 u47))))))))) (fun k39 => if v34 ≠ v36 then (zgf 11 0 x0 u30 (fun v48 => zald 20 v48 (zw32 (48 + v12)) u30 (fun v49 => k39 v49 u30))) else (zgf 11 0 x0 u30 (fun v50 => zald 20 v50 (zw32 (48 + v12)) u30 (fun v51 => k39 (zw32 (2 * v51)) u30))))))))))))))) 1000000 x2 0 u10)))))))) else (some ((-3), u2)))) else (some ((-1), u2)))
set_option maxRecDepth 100000 in
set_option maxHeartbeats 4000000 in
theorem rX11_take (l : Launch) (w : zW) (x0 x1 x2 : Int) (u0 : zMem) : zSpc l w 206 yX11_take cX11_take 7 (some .int) 1 [zR x0, zI x1, zI x2] u0 (fX11_take x0 x1 x2 u0) := by
  refine zSpc_of (own := RX11) pnRX11 rfl (Nat.le_of_ble_eq_true rfl) (fun G p e R s m args below meth c C hini => ?_)
  unfold fX11_take
  refine zlocs (lb := [(0, zR x0), (1, zI x1), (2, zI x2)]) ⟨rfl, rfl, rfl, trivial⟩ ?_
  refine z_aload_n C (i := 0) (pc' := 1) dX11_take_0 rfl rfl rfl ?_
  refine z_iload_n C (i := 1) (pc' := 2) dX11_take_1 rfl rfl rfl ?_
  refine z_callV1 C (pc' := 5) lvRX11_184 lc_X11_isWriter rfl dX11_take_2 rfl (by decide) (rX11_isWriter l w x0 x1 u0) rfl (Nat.le_of_ble_eq_true rfl) (fun v1 u2 => ?_)
  refine z_if_ne C (pc' := 10) (pf := 8) dX11_take_5 rfl rfl (fun _ => ?_) (fun _ => ?_)
  ·
    refine z_aload_n C (i := 0) (pc' := 11) dX11_take_10 rfl rfl rfl ?_
    refine z_getf C (pc' := 14) flRX11_190 dX11_take_11 rfl (fun v3 => ?_)
    refine z_bipush C (pc' := 16) dX11_take_14 kb_10 rfl ?_
    refine z_icmp_ne C (pc' := 22) (pf := 19) dX11_take_16 rfl rfl (fun _ => ?_) (fun _ => ?_)
    ·
      refine z_aload_n C (i := 0) (pc' := 23) dX11_take_22 rfl rfl rfl ?_
      refine z_getf C (pc' := 26) flRX11_190 dX11_take_23 rfl (fun v4 => ?_)
      refine z_istore_n C (i := 3) (la' := [(3, zI v4), (0, zR x0), (1, zI x1), (2, zI x2)]) (pc' := 27) dX11_take_26 rfl (by decide) rfl rfl ?_
      refine z_aload_n C (i := 0) (pc' := 28) dX11_take_27 rfl rfl rfl ?_
      refine z_dup C (pc' := 29) dX11_take_28 rfl rfl ?_
      refine z_getf C (pc' := 32) flRX11_190 dX11_take_29 rfl (fun v5 => ?_)
      refine z_iconst C (pc' := 33) dX11_take_32 kc_1 rfl ?_
      refine z_iadd C (pc' := 34) dX11_take_33 rfl ?_
      refine z_putf C (pc' := 37) flRX11_190 fn11_20 fb11_20 dX11_take_34 rfl (fun u6 => ?_)
      refine z_aload_n C (i := 0) (pc' := 38) dX11_take_37 rfl rfl rfl ?_
      refine z_getfR C (pc' := 41) flRX11_40 dX11_take_38 rfl (fun v7 => ?_)
      refine z_iload_n C (i := 3) (pc' := 42) dX11_take_41 rfl rfl rfl ?_
      refine z_iload_n C (i := 1) (pc' := 43) dX11_take_42 rfl rfl rfl ?_
      refine z_iast C (pc' := 44) dX11_take_43 rfl (fun u8 => ?_)
      refine z_aload_n C (i := 0) (pc' := 45) dX11_take_44 rfl rfl rfl ?_
      refine z_getfR C (pc' := 48) flRX11_43 dX11_take_45 rfl (fun v9 => ?_)
      refine z_iload_n C (i := 3) (pc' := 49) dX11_take_48 rfl rfl rfl ?_
      refine z_iconst C (pc' := 50) dX11_take_49 kc_0 rfl ?_
      refine z_iast C (pc' := 51) dX11_take_50 rfl (fun u10 => ?_)
      refine z_iload_n C (i := 2) (pc' := 52) dX11_take_51 rfl rfl rfl ?_
      refine z_istore C (i := 4) (la' := [(4, zI x2), (3, zI v4), (0, zR x0), (1, zI x1), (2, zI x2)]) (pc' := 54) dX11_take_52 (by decide) rfl rfl ?_
      refine z_iconst C (pc' := 55) dX11_take_54 kc_0 rfl ?_
      refine z_istore C (i := 5) (la' := [(5, zI 0), (4, zI x2), (3, zI v4), (0, zR x0), (1, zI x1), (2, zI x2)]) (pc' := 57) dX11_take_55 (by decide) rfl rfl ?_
      refine zlocs (lb := [(0, zR x0), (1, zI x1), (3, zI v4), (4, zI x2), (5, zI 0)]) ⟨rfl, rfl, rfl, rfl, rfl, trivial⟩ ?_
      refine zlp_ind (fun (f : Int → Int → zMem → zRs) => ∀ (v11 : Int) (v12 : Int) (u13 : zMem), zSim G p l e R s m args below meth c w 7 (znc u0) (zM w 1 (znc u0) below args s) 57 [(0, zR x0), (1, zI x1), (3, zI v4), (4, zI v11), (5, zI v12)] [] u13 (f v11 v12 u13)) (fun _ _ _ => znone) (fun k14 hk14 v11 v12 u13 => ?_) _ _ _ _
      refine z_iload C (pc' := 59) dX11_take_57 rfl rfl ?_
      refine z_aload_n C (i := 0) (pc' := 60) dX11_take_59 rfl rfl rfl ?_
      refine z_getf C (pc' := 63) flRX11_85 dX11_take_60 rfl (fun v15 => ?_)
      refine z_icmp_ge C (pc' := 180) (pf := 66) dX11_take_63 rfl rfl (fun _ => ?_) (fun _ => ?_)
      ·
        refine z_aload_n C (i := 0) (pc' := 181) dX11_take_180 rfl rfl rfl ?_
        refine z_getfR C (pc' := 184) flRX11_28 dX11_take_181 rfl (fun v16 => ?_)
        refine z_iload_n C (i := 1) (pc' := 185) dX11_take_184 rfl rfl rfl ?_
        refine z_iald C (pc' := 186) dX11_take_185 rfl (fun v17 => ?_)
        refine z_iconst C (pc' := 187) dX11_take_186 kc_1 rfl ?_
        refine z_iand C (pc' := 188) dX11_take_187 rfl ?_
        refine zjoin (P := fun (f : zMem → zRs) => ∀ (u18 : zMem), zSim G p l e R s m args below meth c w 7 (znc u0) (zM w 1 (znc u0) below args s) 196 [(0, zR x0), (1, zI x1), (3, zI v4)] [] u18 (f u18)) (fun u18 => ?_) (fun k19 hk19 => ?_)
        ·
          refine z_aload_n C (i := 0) (pc' := 197) dX11_take_196 rfl rfl rfl ?_
          refine z_getfR C (pc' := 200) flRX11_28 dX11_take_197 rfl (fun v20 => ?_)
          refine z_iload_n C (i := 1) (pc' := 201) dX11_take_200 rfl rfl rfl ?_
          refine z_iald C (pc' := 202) dX11_take_201 rfl (fun v21 => ?_)
          refine z_iconst C (pc' := 203) dX11_take_202 kc_2 rfl ?_
          refine z_iand C (pc' := 204) dX11_take_203 rfl ?_
          refine zjoin (P := fun (f : zMem → zRs) => ∀ (u22 : zMem), zSim G p l e R s m args below meth c w 7 (znc u0) (zM w 1 (znc u0) below args s) 212 [(0, zR x0), (1, zI x1), (3, zI v4)] [] u22 (f u22)) (fun u22 => ?_) (fun k23 hk23 => ?_)
          ·
            refine z_aload_n C (i := 0) (pc' := 213) dX11_take_212 rfl rfl rfl ?_
            refine z_getfR C (pc' := 216) flRX11_28 dX11_take_213 rfl (fun v24 => ?_)
            refine z_iload_n C (i := 1) (pc' := 217) dX11_take_216 rfl rfl rfl ?_
            refine z_iald C (pc' := 218) dX11_take_217 rfl (fun v25 => ?_)
            refine z_iconst C (pc' := 219) dX11_take_218 kc_4 rfl ?_
            refine z_iand C (pc' := 220) dX11_take_219 rfl ?_
            refine z_if_eq C (pc' := 228) (pf := 223) dX11_take_220 rfl rfl (fun _ => ?_) (fun _ => ?_)
            ·
              refine z_iload_n C (i := 3) (pc' := 229) dX11_take_228 rfl rfl rfl ?_
              exact z_ireturn C dX11_take_229
            ·
              refine z_aload_n C (i := 0) (pc' := 224) dX11_take_223 rfl rfl rfl ?_
              refine z_iload_n C (i := 3) (pc' := 225) dX11_take_224 rfl rfl rfl ?_
              refine z_callV0 C (pc' := 228) lvRX11_213 lc_X11_putsLast rfl dX11_take_225 rfl (by decide) (rX11_putsLast l w x0 v4 u22) rfl (Nat.le_of_ble_eq_true rfl) (fun _ u26 => ?_)
              refine z_iload_n C (i := 3) (pc' := 229) dX11_take_228 rfl rfl rfl ?_
              exact z_ireturn C dX11_take_229
          ·
            refine z_if_eq C (pc' := 212) (pf := 207) dX11_take_204 rfl rfl (fun _ => ?_) (fun _ => ?_)
            ·
              exact zlocs (lb := [(0, zR x0), (1, zI x1), (3, zI v4)]) ⟨rfl, rfl, rfl, trivial⟩ (hk23 _)
            ·
              refine z_aload_n C (i := 0) (pc' := 208) dX11_take_207 rfl rfl rfl ?_
              refine z_iload_n C (i := 3) (pc' := 209) dX11_take_208 rfl rfl rfl ?_
              refine z_callV0 C (pc' := 212) lvRX11_210 lc_X11_softensAll rfl dX11_take_209 rfl (by decide) (rX11_softensAll l w x0 v4 u18) rfl (Nat.le_of_ble_eq_true rfl) (fun _ u27 => ?_)
              exact zlocs (lb := [(0, zR x0), (1, zI x1), (3, zI v4)]) ⟨rfl, rfl, rfl, trivial⟩ (hk23 _)
        ·
          refine z_if_eq C (pc' := 196) (pf := 191) dX11_take_188 rfl rfl (fun _ => ?_) (fun _ => ?_)
          ·
            exact zlocs (lb := [(0, zR x0), (1, zI x1), (3, zI v4)]) ⟨rfl, rfl, rfl, trivial⟩ (hk19 _)
          ·
            refine z_aload_n C (i := 0) (pc' := 192) dX11_take_191 rfl rfl rfl ?_
            refine z_iload_n C (i := 3) (pc' := 193) dX11_take_192 rfl rfl rfl ?_
            refine z_callV0 C (pc' := 196) lvRX11_206 lc_X11_joinsAll rfl dX11_take_193 rfl (by decide) (rX11_joinsAll l w x0 v4 u13) rfl (Nat.le_of_ble_eq_true rfl) (fun _ u28 => ?_)
            exact zlocs (lb := [(0, zR x0), (1, zI x1), (3, zI v4)]) ⟨rfl, rfl, rfl, trivial⟩ (hk19 _)
      ·
        refine z_iload C (pc' := 68) dX11_take_66 rfl rfl ?_
        refine z_ldc C (pc' := 70) dX11_take_68 wcRX11_205 ki_1103515245 rfl ?_
        refine z_imul C (pc' := 71) dX11_take_70 rfl ?_
        refine z_sipush C (pc' := 74) dX11_take_71 ks_12345 rfl ?_
        refine z_iadd C (pc' := 75) dX11_take_74 rfl ?_
        refine z_istore C (i := 4) (la' := [(4, zI (zw32 ((zw32 (v11 * 1103515245)) + 12345))), (0, zR x0), (1, zI x1), (3, zI v4), (5, zI v12)]) (pc' := 77) dX11_take_75 (by decide) rfl rfl ?_
        refine z_iload C (pc' := 79) dX11_take_77 rfl rfl ?_
        refine z_bipush C (pc' := 81) dX11_take_79 kb_8 rfl ?_
        refine z_iushr C (pc' := 82) dX11_take_81 rfl ?_
        refine z_bipush C (pc' := 84) dX11_take_82 kb_100 rfl ?_
        refine z_irem C (pc' := 85) dX11_take_84 rfl (fun _ => ?_)
        refine z_aload_n C (i := 0) (pc' := 86) dX11_take_85 rfl rfl rfl ?_
        refine z_iload_n C (i := 1) (pc' := 87) dX11_take_86 rfl rfl rfl ?_
        refine z_iload C (pc' := 89) dX11_take_87 rfl rfl ?_
        refine z_callV1 C (pc' := 92) lvRX11_187 lc_X11_heedOf rfl dX11_take_89 rfl (by decide) (rX11_heedOf l w x0 x1 v12 u13) rfl (Nat.le_of_ble_eq_true rfl) (fun v29 u30 => ?_)
        refine zjoin (P := fun (f : zMem → zRs) => ∀ (u31 : zMem), zSim G p l e R s m args below meth c w 7 (znc u0) (zM w 1 (znc u0) below args s) 174 [(0, zR x0), (1, zI x1), (3, zI v4), (4, zI (zw32 ((zw32 (v11 * 1103515245)) + 12345))), (5, zI v12)] [] u31 (f u31)) (fun u31 => ?_) (fun k32 hk32 => ?_)
        ·
          refine z_iinc C (i := 5) (la' := [(5, zI (zw32 (v12 + 1))), (0, zR x0), (1, zI x1), (3, zI v4), (4, zI (zw32 ((zw32 (v11 * 1103515245)) + 12345)))]) (pc' := 177) dX11_take_174 rfl (by decide) rfl rfl ?_
          refine z_goto C (pc' := 57) dX11_take_177 rfl ?_
          exact zlocs (lb := [(0, zR x0), (1, zI x1), (3, zI v4), (4, zI (zw32 ((zw32 (v11 * 1103515245)) + 12345))), (5, zI (zw32 (v12 + 1)))]) ⟨rfl, rfl, rfl, rfl, rfl, trivial⟩ (hk14 _ _ _)
        ·
          refine z_icmp_ge C (pc' := 174) (pf := 95) dX11_take_92 rfl rfl (fun _ => ?_) (fun _ => ?_)
          ·
            exact zlocs (lb := [(0, zR x0), (1, zI x1), (3, zI v4), (4, zI (zw32 ((zw32 (v11 * 1103515245)) + 12345))), (5, zI v12)]) ⟨rfl, rfl, rfl, rfl, rfl, trivial⟩ (hk32 _)
          ·
            refine z_aload_n C (i := 0) (pc' := 96) dX11_take_95 rfl rfl rfl ?_
            refine z_getfR C (pc' := 99) flRX11_9 dX11_take_96 rfl (fun v33 => ?_)
            refine z_iload C (pc' := 101) dX11_take_99 rfl rfl ?_
            refine z_iald C (pc' := 102) dX11_take_101 rfl (fun v34 => ?_)
            refine z_aload_n C (i := 0) (pc' := 103) dX11_take_102 rfl rfl rfl ?_
            refine z_getfR C (pc' := 106) flRX11_25 dX11_take_103 rfl (fun v35 => ?_)
            refine z_iload_n C (i := 1) (pc' := 107) dX11_take_106 rfl rfl rfl ?_
            refine z_iald C (pc' := 108) dX11_take_107 rfl (fun v36 => ?_)
            refine zjoin (P := fun (f : Int → zMem → zRs) => ∀ (v37 : Int) (u38 : zMem), zSim G p l e R s m args below meth c w 7 (znc u0) (zM w 1 (znc u0) below args s) 136 [(0, zR x0), (1, zI x1), (3, zI v4), (4, zI (zw32 ((zw32 (v11 * 1103515245)) + 12345))), (5, zI v12)] [zI v37] u38 (f v37 u38)) (fun v37 u38 => ?_) (fun k39 hk39 => ?_)
            ·
              refine z_istore C (i := 6) (la' := [(6, zI v37), (0, zR x0), (1, zI x1), (3, zI v4), (4, zI (zw32 ((zw32 (v11 * 1103515245)) + 12345))), (5, zI v12)]) (pc' := 138) dX11_take_136 (by decide) rfl rfl ?_
              refine z_aload_n C (i := 0) (pc' := 139) dX11_take_138 rfl rfl rfl ?_
              refine z_iload_n C (i := 3) (pc' := 140) dX11_take_139 rfl rfl rfl ?_
              refine z_aload_n C (i := 0) (pc' := 141) dX11_take_140 rfl rfl rfl ?_
              refine z_getfR C (pc' := 144) flRX11_43 dX11_take_141 rfl (fun v40 => ?_)
              refine z_iload_n C (i := 3) (pc' := 145) dX11_take_144 rfl rfl rfl ?_
              refine z_iald C (pc' := 146) dX11_take_145 rfl (fun v41 => ?_)
              refine z_iload C (pc' := 148) dX11_take_146 rfl rfl ?_
              refine z_aload_n C (i := 0) (pc' := 149) dX11_take_148 rfl rfl rfl ?_
              refine z_getfR C (pc' := 152) flRX11_9 dX11_take_149 rfl (fun v42 => ?_)
              refine z_bipush C (pc' := 154) dX11_take_152 kb_16 rfl ?_
              refine z_iload C (pc' := 156) dX11_take_154 rfl rfl ?_
              refine z_iadd C (pc' := 157) dX11_take_156 rfl ?_
              refine z_iald C (pc' := 158) dX11_take_157 rfl (fun v43 => ?_)
              refine z_iload C (pc' := 160) dX11_take_158 rfl rfl ?_
              refine z_iconst C (pc' := 161) dX11_take_160 kc_0 rfl ?_
              refine z_callV0 C (pc' := 164) lvRX11_193 lc_X11_puts rfl dX11_take_161 rfl (by decide) (rX11_puts l w x0 v4 v41 v12 v43 v37 0 u38) rfl (Nat.le_of_ble_eq_true rfl) (fun _ u44 => ?_)
              refine z_aload_n C (i := 0) (pc' := 165) dX11_take_164 rfl rfl rfl ?_
              refine z_getfR C (pc' := 168) flRX11_43 dX11_take_165 rfl (fun v45 => ?_)
              refine z_iload_n C (i := 3) (pc' := 169) dX11_take_168 rfl rfl rfl ?_
              refine z_dup2 C (pc' := 170) dX11_take_169 rfl rfl rfl ?_
              refine z_iald C (pc' := 171) dX11_take_170 rfl (fun v46 => ?_)
              refine z_iconst C (pc' := 172) dX11_take_171 kc_1 rfl ?_
              refine z_iadd C (pc' := 173) dX11_take_172 rfl ?_
              refine z_iast C (pc' := 174) dX11_take_173 rfl (fun u47 => ?_)
              exact zlocs (lb := [(0, zR x0), (1, zI x1), (3, zI v4), (4, zI (zw32 ((zw32 (v11 * 1103515245)) + 12345))), (5, zI v12)]) ⟨rfl, rfl, rfl, rfl, rfl, trivial⟩ (hk32 _)
            ·
              refine z_icmp_ne C (pc' := 126) (pf := 111) dX11_take_108 rfl rfl (fun _ => ?_) (fun _ => ?_)
              ·
                refine z_aload_n C (i := 0) (pc' := 127) dX11_take_126 rfl rfl rfl ?_
                refine z_getfR C (pc' := 130) flRX11_9 dX11_take_127 rfl (fun v48 => ?_)
                refine z_bipush C (pc' := 132) dX11_take_130 kb_48 rfl ?_
                refine z_iload C (pc' := 134) dX11_take_132 rfl rfl ?_
                refine z_iadd C (pc' := 135) dX11_take_134 rfl ?_
                refine z_iald C (pc' := 136) dX11_take_135 rfl (fun v49 => ?_)
                exact zlocs (lb := [(0, zR x0), (1, zI x1), (3, zI v4), (4, zI (zw32 ((zw32 (v11 * 1103515245)) + 12345))), (5, zI v12)]) ⟨rfl, rfl, rfl, rfl, rfl, trivial⟩ (hk39 _ _)
              ·
                refine z_iconst C (pc' := 112) dX11_take_111 kc_2 rfl ?_
                refine z_aload_n C (i := 0) (pc' := 113) dX11_take_112 rfl rfl rfl ?_
                refine z_getfR C (pc' := 116) flRX11_9 dX11_take_113 rfl (fun v50 => ?_)
                refine z_bipush C (pc' := 118) dX11_take_116 kb_48 rfl ?_
                refine z_iload C (pc' := 120) dX11_take_118 rfl rfl ?_
                refine z_iadd C (pc' := 121) dX11_take_120 rfl ?_
                refine z_iald C (pc' := 122) dX11_take_121 rfl (fun v51 => ?_)
                refine z_imul C (pc' := 123) dX11_take_122 rfl ?_
                refine z_goto C (pc' := 136) dX11_take_123 rfl ?_
                exact zlocs (lb := [(0, zR x0), (1, zI x1), (3, zI v4), (4, zI (zw32 ((zw32 (v11 * 1103515245)) + 12345))), (5, zI v12)]) ⟨rfl, rfl, rfl, rfl, rfl, trivial⟩ (hk39 _ _)
    ·
      refine z_bipush C (pc' := 21) dX11_take_19 kb_m3 rfl ?_
      exact z_ireturn C dX11_take_21
  ·
    refine z_iconst C (pc' := 9) dX11_take_8 kc_m1 rfl ?_
    exact z_ireturn C dX11_take_9
def fX11_told (x0 x1 x2 : Int) (u0 : zMem) : zRs := zjn (fun (u1 : zMem) => if x2 < 0 then (some ((-1), u1)) else (zgf 11 6 x0 u1 (fun v3 => if (zshr x2 v3) = 0 then (zgf 11 20 x0 u1 (fun v4 => if v4 ≠ 10 then (zgf 11 20 x0 u1 (fun v5 => zgf 11 20 x0 u1 (fun v6 => zpf 11 20 x0 (zw32 (v6 + 1)) u1 (fun u7 => zgf 11 21 x0 u7 (fun v8 => zast 20 v8 v5 x1 u7 (fun u9 => zgf 11 22 x0 u9 (fun v10 => zast 20 v10 v5 0 u9 (fun u11 => zlp (fun _ _ => none) (fun k14 (v12 : Int) (u13 : zMem) => zgf 11 6 x0 u13 (fun v15 => if v12 ≥ v15 then (some (v5, u13)) else (zjn (fun (u16 : zMem) => k14 (zw32 (v12 + 1)) u16) (fun k17 => if (zand (zshr x2 v12) 1) ≠ 1 then (k17 u13) else (zgf 11 22 x0 u13 (fun v18 => zald 20 v18 v5 u13 (fun v19 => zgf 11 0 x0 u13 (fun v20 => zald 20 v20 (zw32 (16 + v12)) u13 (fun v21 => zgf 11 0 x0 u13 (fun v22 => zald 20 v22 (zw32 (48 + v12)) u13 (fun v23 => zvc 11 x0 (fX11_puts x0 v5 v19 v12 v21 v23 0 u13) (fun _ u24 => zgf 11 22 x0 u24 (fun v25 => zald 20 v25 v5 u24 (fun v26 => zast 20 v25 v5 (zw32 (v26 + 1)) u24 (fun u27 => k17 u27))))))))))))))) 1000000 0 u11)))))))) else (some ((-3), u1)))) else (some ((-1), u1))))) (fun k2 => if x1 = (-1) then (k2 u0) else (zvc 11 x0 (fX11_isWriter x0 x1 u0) (fun v28 u29 => if v28 = 0 then (some ((-1), u29)) else (k2 u29))))
set_option maxRecDepth 100000 in
set_option maxHeartbeats 4000000 in
theorem rX11_told (l : Launch) (w : zW) (x0 x1 x2 : Int) (u0 : zMem) : zSpc l w 3 yX11_told cX11_told 5 (some .int) 1 [zR x0, zI x1, zI x2] u0 (fX11_told x0 x1 x2 u0) := by
  refine zSpc_of (own := RX11) pnRX11 rfl (Nat.le_of_ble_eq_true rfl) (fun G p e R s m args below meth c C hini => ?_)
  unfold fX11_told
  refine zlocs (lb := [(0, zR x0), (1, zI x1), (2, zI x2)]) ⟨rfl, rfl, rfl, trivial⟩ ?_
  refine z_iload_n C (i := 1) (pc' := 1) dX11_told_0 rfl rfl rfl ?_
  refine z_iconst C (pc' := 2) dX11_told_1 kc_m1 rfl ?_
  refine zjoin (P := fun (f : zMem → zRs) => ∀ (u1 : zMem), zSim G p l e R s m args below meth c w 5 (znc u0) (zM w 1 (znc u0) below args s) 13 [(0, zR x0), (1, zI x1), (2, zI x2)] [] u1 (f u1)) (fun u1 => ?_) (fun k2 hk2 => ?_)
  ·
    refine z_iload_n C (i := 2) (pc' := 14) dX11_told_13 rfl rfl rfl ?_
    refine z_if_lt C (pc' := 26) (pf := 17) dX11_told_14 rfl rfl (fun _ => ?_) (fun _ => ?_)
    ·
      refine z_iconst C (pc' := 27) dX11_told_26 kc_m1 rfl ?_
      exact z_ireturn C dX11_told_27
    ·
      refine z_iload_n C (i := 2) (pc' := 18) dX11_told_17 rfl rfl rfl ?_
      refine z_aload_n C (i := 0) (pc' := 19) dX11_told_18 rfl rfl rfl ?_
      refine z_getf C (pc' := 22) flRX11_85 dX11_told_19 rfl (fun v3 => ?_)
      refine z_ishr C (pc' := 23) dX11_told_22 rfl ?_
      refine z_if_eq C (pc' := 28) (pf := 26) dX11_told_23 rfl rfl (fun _ => ?_) (fun _ => ?_)
      ·
        refine z_aload_n C (i := 0) (pc' := 29) dX11_told_28 rfl rfl rfl ?_
        refine z_getf C (pc' := 32) flRX11_190 dX11_told_29 rfl (fun v4 => ?_)
        refine z_bipush C (pc' := 34) dX11_told_32 kb_10 rfl ?_
        refine z_icmp_ne C (pc' := 40) (pf := 37) dX11_told_34 rfl rfl (fun _ => ?_) (fun _ => ?_)
        ·
          refine z_aload_n C (i := 0) (pc' := 41) dX11_told_40 rfl rfl rfl ?_
          refine z_getf C (pc' := 44) flRX11_190 dX11_told_41 rfl (fun v5 => ?_)
          refine z_istore_n C (i := 3) (la' := [(3, zI v5), (0, zR x0), (1, zI x1), (2, zI x2)]) (pc' := 45) dX11_told_44 rfl (by decide) rfl rfl ?_
          refine z_aload_n C (i := 0) (pc' := 46) dX11_told_45 rfl rfl rfl ?_
          refine z_dup C (pc' := 47) dX11_told_46 rfl rfl ?_
          refine z_getf C (pc' := 50) flRX11_190 dX11_told_47 rfl (fun v6 => ?_)
          refine z_iconst C (pc' := 51) dX11_told_50 kc_1 rfl ?_
          refine z_iadd C (pc' := 52) dX11_told_51 rfl ?_
          refine z_putf C (pc' := 55) flRX11_190 fn11_20 fb11_20 dX11_told_52 rfl (fun u7 => ?_)
          refine z_aload_n C (i := 0) (pc' := 56) dX11_told_55 rfl rfl rfl ?_
          refine z_getfR C (pc' := 59) flRX11_40 dX11_told_56 rfl (fun v8 => ?_)
          refine z_iload_n C (i := 3) (pc' := 60) dX11_told_59 rfl rfl rfl ?_
          refine z_iload_n C (i := 1) (pc' := 61) dX11_told_60 rfl rfl rfl ?_
          refine z_iast C (pc' := 62) dX11_told_61 rfl (fun u9 => ?_)
          refine z_aload_n C (i := 0) (pc' := 63) dX11_told_62 rfl rfl rfl ?_
          refine z_getfR C (pc' := 66) flRX11_43 dX11_told_63 rfl (fun v10 => ?_)
          refine z_iload_n C (i := 3) (pc' := 67) dX11_told_66 rfl rfl rfl ?_
          refine z_iconst C (pc' := 68) dX11_told_67 kc_0 rfl ?_
          refine z_iast C (pc' := 69) dX11_told_68 rfl (fun u11 => ?_)
          refine z_iconst C (pc' := 70) dX11_told_69 kc_0 rfl ?_
          refine z_istore C (i := 4) (la' := [(4, zI 0), (3, zI v5), (0, zR x0), (1, zI x1), (2, zI x2)]) (pc' := 72) dX11_told_70 (by decide) rfl rfl ?_
          refine zlocs (lb := [(0, zR x0), (2, zI x2), (3, zI v5), (4, zI 0)]) ⟨rfl, rfl, rfl, rfl, trivial⟩ ?_
          refine zlp_ind (fun (f : Int → zMem → zRs) => ∀ (v12 : Int) (u13 : zMem), zSim G p l e R s m args below meth c w 5 (znc u0) (zM w 1 (znc u0) below args s) 72 [(0, zR x0), (2, zI x2), (3, zI v5), (4, zI v12)] [] u13 (f v12 u13)) (fun _ _ => znone) (fun k14 hk14 v12 u13 => ?_) _ _ _
          refine z_iload C (pc' := 74) dX11_told_72 rfl rfl ?_
          refine z_aload_n C (i := 0) (pc' := 75) dX11_told_74 rfl rfl rfl ?_
          refine z_getf C (pc' := 78) flRX11_85 dX11_told_75 rfl (fun v15 => ?_)
          refine z_icmp_ge C (pc' := 141) (pf := 81) dX11_told_78 rfl rfl (fun _ => ?_) (fun _ => ?_)
          ·
            refine z_iload_n C (i := 3) (pc' := 142) dX11_told_141 rfl rfl rfl ?_
            exact z_ireturn C dX11_told_142
          ·
            refine z_iload_n C (i := 2) (pc' := 82) dX11_told_81 rfl rfl rfl ?_
            refine z_iload C (pc' := 84) dX11_told_82 rfl rfl ?_
            refine z_ishr C (pc' := 85) dX11_told_84 rfl ?_
            refine z_iconst C (pc' := 86) dX11_told_85 kc_1 rfl ?_
            refine z_iand C (pc' := 87) dX11_told_86 rfl ?_
            refine z_iconst C (pc' := 88) dX11_told_87 kc_1 rfl ?_
            refine zjoin (P := fun (f : zMem → zRs) => ∀ (u16 : zMem), zSim G p l e R s m args below meth c w 5 (znc u0) (zM w 1 (znc u0) below args s) 135 [(0, zR x0), (2, zI x2), (3, zI v5), (4, zI v12)] [] u16 (f u16)) (fun u16 => ?_) (fun k17 hk17 => ?_)
            ·
              refine z_iinc C (i := 4) (la' := [(4, zI (zw32 (v12 + 1))), (0, zR x0), (2, zI x2), (3, zI v5)]) (pc' := 138) dX11_told_135 rfl (by decide) rfl rfl ?_
              refine z_goto C (pc' := 72) dX11_told_138 rfl ?_
              exact zlocs (lb := [(0, zR x0), (2, zI x2), (3, zI v5), (4, zI (zw32 (v12 + 1)))]) ⟨rfl, rfl, rfl, rfl, trivial⟩ (hk14 _ _)
            ·
              refine z_icmp_ne C (pc' := 135) (pf := 91) dX11_told_88 rfl rfl (fun _ => ?_) (fun _ => ?_)
              ·
                exact zlocs (lb := [(0, zR x0), (2, zI x2), (3, zI v5), (4, zI v12)]) ⟨rfl, rfl, rfl, rfl, trivial⟩ (hk17 _)
              ·
                refine z_aload_n C (i := 0) (pc' := 92) dX11_told_91 rfl rfl rfl ?_
                refine z_iload_n C (i := 3) (pc' := 93) dX11_told_92 rfl rfl rfl ?_
                refine z_aload_n C (i := 0) (pc' := 94) dX11_told_93 rfl rfl rfl ?_
                refine z_getfR C (pc' := 97) flRX11_43 dX11_told_94 rfl (fun v18 => ?_)
                refine z_iload_n C (i := 3) (pc' := 98) dX11_told_97 rfl rfl rfl ?_
                refine z_iald C (pc' := 99) dX11_told_98 rfl (fun v19 => ?_)
                refine z_iload C (pc' := 101) dX11_told_99 rfl rfl ?_
                refine z_aload_n C (i := 0) (pc' := 102) dX11_told_101 rfl rfl rfl ?_
                refine z_getfR C (pc' := 105) flRX11_9 dX11_told_102 rfl (fun v20 => ?_)
                refine z_bipush C (pc' := 107) dX11_told_105 kb_16 rfl ?_
                refine z_iload C (pc' := 109) dX11_told_107 rfl rfl ?_
                refine z_iadd C (pc' := 110) dX11_told_109 rfl ?_
                refine z_iald C (pc' := 111) dX11_told_110 rfl (fun v21 => ?_)
                refine z_aload_n C (i := 0) (pc' := 112) dX11_told_111 rfl rfl rfl ?_
                refine z_getfR C (pc' := 115) flRX11_9 dX11_told_112 rfl (fun v22 => ?_)
                refine z_bipush C (pc' := 117) dX11_told_115 kb_48 rfl ?_
                refine z_iload C (pc' := 119) dX11_told_117 rfl rfl ?_
                refine z_iadd C (pc' := 120) dX11_told_119 rfl ?_
                refine z_iald C (pc' := 121) dX11_told_120 rfl (fun v23 => ?_)
                refine z_iconst C (pc' := 122) dX11_told_121 kc_0 rfl ?_
                refine z_callV0 C (pc' := 125) lvRX11_193 lc_X11_puts rfl dX11_told_122 rfl (by decide) (rX11_puts l w x0 v5 v19 v12 v21 v23 0 u13) rfl (Nat.le_of_ble_eq_true rfl) (fun _ u24 => ?_)
                refine z_aload_n C (i := 0) (pc' := 126) dX11_told_125 rfl rfl rfl ?_
                refine z_getfR C (pc' := 129) flRX11_43 dX11_told_126 rfl (fun v25 => ?_)
                refine z_iload_n C (i := 3) (pc' := 130) dX11_told_129 rfl rfl rfl ?_
                refine z_dup2 C (pc' := 131) dX11_told_130 rfl rfl rfl ?_
                refine z_iald C (pc' := 132) dX11_told_131 rfl (fun v26 => ?_)
                refine z_iconst C (pc' := 133) dX11_told_132 kc_1 rfl ?_
                refine z_iadd C (pc' := 134) dX11_told_133 rfl ?_
                refine z_iast C (pc' := 135) dX11_told_134 rfl (fun u27 => ?_)
                exact zlocs (lb := [(0, zR x0), (2, zI x2), (3, zI v5), (4, zI v12)]) ⟨rfl, rfl, rfl, rfl, trivial⟩ (hk17 _)
        ·
          refine z_bipush C (pc' := 39) dX11_told_37 kb_m3 rfl ?_
          exact z_ireturn C dX11_told_39
      ·
        refine z_iconst C (pc' := 27) dX11_told_26 kc_m1 rfl ?_
        exact z_ireturn C dX11_told_27
  ·
    refine z_icmp_eq C (pc' := 13) (pf := 5) dX11_told_2 rfl rfl (fun _ => ?_) (fun _ => ?_)
    ·
      exact zlocs (lb := [(0, zR x0), (1, zI x1), (2, zI x2)]) ⟨rfl, rfl, rfl, trivial⟩ (hk2 _)
    ·
      refine z_aload_n C (i := 0) (pc' := 6) dX11_told_5 rfl rfl rfl ?_
      refine z_iload_n C (i := 1) (pc' := 7) dX11_told_6 rfl rfl rfl ?_
      refine z_callV1 C (pc' := 10) lvRX11_184 lc_X11_isWriter rfl dX11_told_7 rfl (by decide) (rX11_isWriter l w x0 x1 u0) rfl (Nat.le_of_ble_eq_true rfl) (fun v28 u29 => ?_)
      refine z_if_eq C (pc' := 26) (pf := 13) dX11_told_10 rfl rfl (fun _ => ?_) (fun _ => ?_)
      ·
        refine z_iconst C (pc' := 27) dX11_told_26 kc_m1 rfl ?_
        exact z_ireturn C dX11_told_27
      ·
        exact zlocs (lb := [(0, zR x0), (1, zI x1), (2, zI x2)]) ⟨rfl, rfl, rfl, trivial⟩ (hk2 _)
def fX11_placeOf (x0 x1 x2 : Int) (u0 : zMem) : zRs := zlp (fun _ _ => none) (fun k3 (v1 : Int) (u2 : zMem) => zgf 11 22 x0 u2 (fun v4 => zald 20 v4 x1 u2 (fun v5 => if v1 ≥ v5 then (some ((-1), u2)) else (zgf 11 23 x0 u2 (fun v6 => zald 20 v6 (zw32 ((zw32 (16 * x1)) + v1)) u2 (fun v7 => if v7 ≠ x2 then (k3 (zw32 (v1 + 1)) u2) else (some (v1, u2)))))))) 1000000 0 u0
set_option maxRecDepth 100000 in
set_option maxHeartbeats 4000000 in
theorem rX11_placeOf (l : Launch) (w : zW) (x0 x1 x2 : Int) (u0 : zMem) : zSpc l w 1 yX11_placeOf cX11_placeOf 4 (some .int) 1 [zR x0, zI x1, zI x2] u0 (fX11_placeOf x0 x1 x2 u0) := by
  refine zSpc_of (own := RX11) pnRX11 rfl (Nat.le_of_ble_eq_true rfl) (fun G p e R s m args below meth c C hini => ?_)
  unfold fX11_placeOf
  refine zlocs (lb := [(0, zR x0), (1, zI x1), (2, zI x2)]) ⟨rfl, rfl, rfl, trivial⟩ ?_
  refine z_iconst C (pc' := 1) dX11_placeOf_0 kc_0 rfl ?_
  refine z_istore_n C (i := 3) (la' := [(3, zI 0), (0, zR x0), (1, zI x1), (2, zI x2)]) (pc' := 2) dX11_placeOf_1 rfl (by decide) rfl rfl ?_
  refine zlocs (lb := [(0, zR x0), (1, zI x1), (2, zI x2), (3, zI 0)]) ⟨rfl, rfl, rfl, rfl, trivial⟩ ?_
  refine zlp_ind (fun (f : Int → zMem → zRs) => ∀ (v1 : Int) (u2 : zMem), zSim G p l e R s m args below meth c w 4 (znc u0) (zM w 1 (znc u0) below args s) 2 [(0, zR x0), (1, zI x1), (2, zI x2), (3, zI v1)] [] u2 (f v1 u2)) (fun _ _ => znone) (fun k3 hk3 v1 u2 => ?_) _ _ _
  refine z_iload_n C (i := 3) (pc' := 3) dX11_placeOf_2 rfl rfl rfl ?_
  refine z_aload_n C (i := 0) (pc' := 4) dX11_placeOf_3 rfl rfl rfl ?_
  refine z_getfR C (pc' := 7) flRX11_43 dX11_placeOf_4 rfl (fun v4 => ?_)
  refine z_iload_n C (i := 1) (pc' := 8) dX11_placeOf_7 rfl rfl rfl ?_
  refine z_iald C (pc' := 9) dX11_placeOf_8 rfl (fun v5 => ?_)
  refine z_icmp_ge C (pc' := 35) (pf := 12) dX11_placeOf_9 rfl rfl (fun _ => ?_) (fun _ => ?_)
  ·
    refine z_iconst C (pc' := 36) dX11_placeOf_35 kc_m1 rfl ?_
    exact z_ireturn C dX11_placeOf_36
  ·
    refine z_aload_n C (i := 0) (pc' := 13) dX11_placeOf_12 rfl rfl rfl ?_
    refine z_getfR C (pc' := 16) flRX11_46 dX11_placeOf_13 rfl (fun v6 => ?_)
    refine z_bipush C (pc' := 18) dX11_placeOf_16 kb_16 rfl ?_
    refine z_iload_n C (i := 1) (pc' := 19) dX11_placeOf_18 rfl rfl rfl ?_
    refine z_imul C (pc' := 20) dX11_placeOf_19 rfl ?_
    refine z_iload_n C (i := 3) (pc' := 21) dX11_placeOf_20 rfl rfl rfl ?_
    refine z_iadd C (pc' := 22) dX11_placeOf_21 rfl ?_
    refine z_iald C (pc' := 23) dX11_placeOf_22 rfl (fun v7 => ?_)
    refine z_iload_n C (i := 2) (pc' := 24) dX11_placeOf_23 rfl rfl rfl ?_
    refine z_icmp_ne C (pc' := 29) (pf := 27) dX11_placeOf_24 rfl rfl (fun _ => ?_) (fun _ => ?_)
    ·
      refine z_iinc C (i := 3) (la' := [(3, zI (zw32 (v1 + 1))), (0, zR x0), (1, zI x1), (2, zI x2)]) (pc' := 32) dX11_placeOf_29 rfl (by decide) rfl rfl ?_
      refine z_goto C (pc' := 2) dX11_placeOf_32 rfl ?_
      exact zlocs (lb := [(0, zR x0), (1, zI x1), (2, zI x2), (3, zI (zw32 (v1 + 1)))]) ⟨rfl, rfl, rfl, rfl, trivial⟩ (hk3 _ _)
    ·
      refine z_iload_n C (i := 3) (pc' := 28) dX11_placeOf_27 rfl rfl rfl ?_
      exact z_ireturn C dX11_placeOf_28
def fX11_has (x0 x1 x2 : Int) (u0 : zMem) : zRs := zvc 11 x0 (fX11_placeOf x0 x1 x2 u0) (fun v1 u2 => if v1 < 0 then (zbl 0 (some (0, u2))) else (zbl 1 (some (1, u2))))
set_option maxRecDepth 100000 in
set_option maxHeartbeats 4000000 in
theorem rX11_has (l : Launch) (w : zW) (x0 x1 x2 : Int) (u0 : zMem) : zSpc l w 2 yX11_has cX11_has 3 (some .boolean) 1 [zR x0, zI x1, zI x2] u0 (fX11_has x0 x1 x2 u0) := by
  refine zSpc_of (own := RX11) pnRX11 rfl (Nat.le_of_ble_eq_true rfl) (fun G p e R s m args below meth c C hini => ?_)
  unfold fX11_has
  refine zlocs (lb := [(0, zR x0), (1, zI x1), (2, zI x2)]) ⟨rfl, rfl, rfl, trivial⟩ ?_
  refine z_aload_n C (i := 0) (pc' := 1) dX11_has_0 rfl rfl rfl ?_
  refine z_iload_n C (i := 1) (pc' := 2) dX11_has_1 rfl rfl rfl ?_
  refine z_iload_n C (i := 2) (pc' := 3) dX11_has_2 rfl rfl rfl ?_
  refine z_callV1 C (pc' := 6) lvRX11_216 lc_X11_placeOf rfl dX11_has_3 rfl (by decide) (rX11_placeOf l w x0 x1 x2 u0) rfl (Nat.le_of_ble_eq_true rfl) (fun v1 u2 => ?_)
  refine z_if_lt C (pc' := 13) (pf := 9) dX11_has_6 rfl rfl (fun _ => ?_) (fun _ => ?_)
  ·
    refine z_iconst C (pc' := 14) dX11_has_13 kc_0 rfl ?_
    exact z_zreturn C dX11_has_14
  ·
    refine z_iconst C (pc' := 10) dX11_has_9 kc_1 rfl ?_
    refine z_goto C (pc' := 14) dX11_has_10 rfl ?_
    exact z_zreturn C dX11_has_14
def fX11_add (x0 x1 x2 x3 : Int) (u0 : zMem) : zRs := zvc 11 x0 (fX11_isPaper x0 x1 u0) (fun v1 u2 => if v1 = 0 then (some ((-1), u2)) else (zvc 11 x0 (fX11_isSaying x0 x2 u2) (fun v3 u4 => if v3 = 0 then (some ((-1), u4)) else (zgf 11 22 x0 u4 (fun v5 => zald 20 v5 x1 u4 (fun v6 => zcall (fX11_within x3 0 v6 u4) (fun v7 u8 => if v7 = 0 then (some ((-1), u8)) else (zvc 11 x0 (fX11_has x0 x1 x2 u8) (fun v9 u10 => if v9 = 0 then (zgf 11 22 x0 u10 (fun v11 => zald 20 v11 x1 u10 (fun v12 => if v12 ≠ 16 then (zgf 11 22 x0 u10 (fun v13 => zald 20 v13 x1 u10 (fun v14 => zlp (fun _ _ => none) (fun k17 (v15 : Int) (u16 : zMem) => if v15 ≤ x3 then (zgf 11 0 x0 u16 (fun v18 => zald 20 v18 (zw32 (16 + x2)) u16 (fun v19 => zgf 11 0 x0 u16 (fun v20 => zald 20 v20 (zw32 (48 + x2)) u16 (fun v21 => zvc 11 x0 (fX11_puts x0 x1 x3 x2 v19 v21 1 u16) (fun _ u22 => zgf 11 22 x0 u22 (fun v23 => zald 20 v23 x1 u22 (fun v24 => zast 20 v23 x1 (zw32 (v24 + 1)) u22 (fun u25 => zgf 11 22 x0 u25 (fun v26 => zald 20 v26 x1 u25 (fun v27 => some (v27, u25)))))))))))) else (zvc 11 x0 (fX11_moves x0 x1 v15 (zw32 (v15 - 1)) u16) (fun _ u28 => k17 (zw32 (v15 + (-1))) u28))) 1000000 v14 u10))) else (some ((-3), u10))))) else (some ((-1), u10)))))))))))
set_option maxRecDepth 100000 in
set_option maxHeartbeats 4000000 in
theorem rX11_add (l : Launch) (w : zW) (x0 x1 x2 x3 : Int) (u0 : zMem) : zSpc l w 3 yX11_add cX11_add 5 (some .int) 1 [zR x0, zI x1, zI x2, zI x3] u0 (fX11_add x0 x1 x2 x3 u0) := by
  refine zSpc_of (own := RX11) pnRX11 rfl (Nat.le_of_ble_eq_true rfl) (fun G p e R s m args below meth c C hini => ?_)
  unfold fX11_add
  refine zlocs (lb := [(0, zR x0), (1, zI x1), (2, zI x2), (3, zI x3)]) ⟨rfl, rfl, rfl, rfl, trivial⟩ ?_
  refine z_aload_n C (i := 0) (pc' := 1) dX11_add_0 rfl rfl rfl ?_
  refine z_iload_n C (i := 1) (pc' := 2) dX11_add_1 rfl rfl rfl ?_
  refine z_callV1 C (pc' := 5) lvRX11_219 lc_X11_isPaper rfl dX11_add_2 rfl (by decide) (rX11_isPaper l w x0 x1 u0) rfl (Nat.le_of_ble_eq_true rfl) (fun v1 u2 => ?_)
  refine z_if_eq C (pc' := 41) (pf := 8) dX11_add_5 rfl rfl (fun _ => ?_) (fun _ => ?_)
  ·
    refine z_iconst C (pc' := 42) dX11_add_41 kc_m1 rfl ?_
    exact z_ireturn C dX11_add_42
  ·
    refine z_aload_n C (i := 0) (pc' := 9) dX11_add_8 rfl rfl rfl ?_
    refine z_iload_n C (i := 2) (pc' := 10) dX11_add_9 rfl rfl rfl ?_
    refine z_callV1 C (pc' := 13) lvRX11_114 lc_X11_isSaying rfl dX11_add_10 rfl (by decide) (rX11_isSaying l w x0 x2 u2) rfl (Nat.le_of_ble_eq_true rfl) (fun v3 u4 => ?_)
    refine z_if_eq C (pc' := 41) (pf := 16) dX11_add_13 rfl rfl (fun _ => ?_) (fun _ => ?_)
    ·
      refine z_iconst C (pc' := 42) dX11_add_41 kc_m1 rfl ?_
      exact z_ireturn C dX11_add_42
    ·
      refine z_iload_n C (i := 3) (pc' := 17) dX11_add_16 rfl rfl rfl ?_
      refine z_i2l C (pc' := 18) dX11_add_17 rfl ?_
      refine z_lconst C (pc' := 19) dX11_add_18 kl_0 rfl ?_
      refine z_aload_n C (i := 0) (pc' := 20) dX11_add_19 rfl rfl rfl ?_
      refine z_getfR C (pc' := 23) flRX11_43 dX11_add_20 rfl (fun v5 => ?_)
      refine z_iload_n C (i := 1) (pc' := 24) dX11_add_23 rfl rfl rfl ?_
      refine z_iald C (pc' := 25) dX11_add_24 rfl (fun v6 => ?_)
      refine z_i2l C (pc' := 26) dX11_add_25 rfl ?_
      refine z_callS1 C (pc' := 29) lsRX11_88 lc_X11_within rfl dX11_add_26 rfl (by decide) (rX11_within l w x3 0 v6 u4) rfl (Nat.le_of_ble_eq_true rfl) (fun v7 u8 => ?_)
      refine z_if_eq C (pc' := 41) (pf := 32) dX11_add_29 rfl rfl (fun _ => ?_) (fun _ => ?_)
      ·
        refine z_iconst C (pc' := 42) dX11_add_41 kc_m1 rfl ?_
        exact z_ireturn C dX11_add_42
      ·
        refine z_aload_n C (i := 0) (pc' := 33) dX11_add_32 rfl rfl rfl ?_
        refine z_iload_n C (i := 1) (pc' := 34) dX11_add_33 rfl rfl rfl ?_
        refine z_iload_n C (i := 2) (pc' := 35) dX11_add_34 rfl rfl rfl ?_
        refine z_callV1 C (pc' := 38) lvRX11_222 lc_X11_has rfl dX11_add_35 rfl (by decide) (rX11_has l w x0 x1 x2 u8) rfl (Nat.le_of_ble_eq_true rfl) (fun v9 u10 => ?_)
        refine z_if_eq C (pc' := 43) (pf := 41) dX11_add_38 rfl rfl (fun _ => ?_) (fun _ => ?_)
        ·
          refine z_aload_n C (i := 0) (pc' := 44) dX11_add_43 rfl rfl rfl ?_
          refine z_getfR C (pc' := 47) flRX11_43 dX11_add_44 rfl (fun v11 => ?_)
          refine z_iload_n C (i := 1) (pc' := 48) dX11_add_47 rfl rfl rfl ?_
          refine z_iald C (pc' := 49) dX11_add_48 rfl (fun v12 => ?_)
          refine z_bipush C (pc' := 51) dX11_add_49 kb_16 rfl ?_
          refine z_icmp_ne C (pc' := 57) (pf := 54) dX11_add_51 rfl rfl (fun _ => ?_) (fun _ => ?_)
          ·
            refine z_aload_n C (i := 0) (pc' := 58) dX11_add_57 rfl rfl rfl ?_
            refine z_getfR C (pc' := 61) flRX11_43 dX11_add_58 rfl (fun v13 => ?_)
            refine z_iload_n C (i := 1) (pc' := 62) dX11_add_61 rfl rfl rfl ?_
            refine z_iald C (pc' := 63) dX11_add_62 rfl (fun v14 => ?_)
            refine z_istore C (i := 4) (la' := [(4, zI v14), (0, zR x0), (1, zI x1), (2, zI x2), (3, zI x3)]) (pc' := 65) dX11_add_63 (by decide) rfl rfl ?_
            refine zlocs (lb := [(0, zR x0), (1, zI x1), (2, zI x2), (3, zI x3), (4, zI v14)]) ⟨rfl, rfl, rfl, rfl, rfl, trivial⟩ ?_
            refine zlp_ind (fun (f : Int → zMem → zRs) => ∀ (v15 : Int) (u16 : zMem), zSim G p l e R s m args below meth c w 5 (znc u0) (zM w 1 (znc u0) below args s) 65 [(0, zR x0), (1, zI x1), (2, zI x2), (3, zI x3), (4, zI v15)] [] u16 (f v15 u16)) (fun _ _ => znone) (fun k17 hk17 v15 u16 => ?_) _ _ _
            refine z_iload C (pc' := 67) dX11_add_65 rfl rfl ?_
            refine z_iload_n C (i := 3) (pc' := 68) dX11_add_67 rfl rfl rfl ?_
            refine z_icmp_le C (pc' := 88) (pf := 71) dX11_add_68 rfl rfl (fun _ => ?_) (fun _ => ?_)
            ·
              refine z_aload_n C (i := 0) (pc' := 89) dX11_add_88 rfl rfl rfl ?_
              refine z_iload_n C (i := 1) (pc' := 90) dX11_add_89 rfl rfl rfl ?_
              refine z_iload_n C (i := 3) (pc' := 91) dX11_add_90 rfl rfl rfl ?_
              refine z_iload_n C (i := 2) (pc' := 92) dX11_add_91 rfl rfl rfl ?_
              refine z_aload_n C (i := 0) (pc' := 93) dX11_add_92 rfl rfl rfl ?_
              refine z_getfR C (pc' := 96) flRX11_9 dX11_add_93 rfl (fun v18 => ?_)
              refine z_bipush C (pc' := 98) dX11_add_96 kb_16 rfl ?_
              refine z_iload_n C (i := 2) (pc' := 99) dX11_add_98 rfl rfl rfl ?_
              refine z_iadd C (pc' := 100) dX11_add_99 rfl ?_
              refine z_iald C (pc' := 101) dX11_add_100 rfl (fun v19 => ?_)
              refine z_aload_n C (i := 0) (pc' := 102) dX11_add_101 rfl rfl rfl ?_
              refine z_getfR C (pc' := 105) flRX11_9 dX11_add_102 rfl (fun v20 => ?_)
              refine z_bipush C (pc' := 107) dX11_add_105 kb_48 rfl ?_
              refine z_iload_n C (i := 2) (pc' := 108) dX11_add_107 rfl rfl rfl ?_
              refine z_iadd C (pc' := 109) dX11_add_108 rfl ?_
              refine z_iald C (pc' := 110) dX11_add_109 rfl (fun v21 => ?_)
              refine z_iconst C (pc' := 111) dX11_add_110 kc_1 rfl ?_
              refine z_callV0 C (pc' := 114) lvRX11_193 lc_X11_puts rfl dX11_add_111 rfl (by decide) (rX11_puts l w x0 x1 x3 x2 v19 v21 1 u16) rfl (Nat.le_of_ble_eq_true rfl) (fun _ u22 => ?_)
              refine z_aload_n C (i := 0) (pc' := 115) dX11_add_114 rfl rfl rfl ?_
              refine z_getfR C (pc' := 118) flRX11_43 dX11_add_115 rfl (fun v23 => ?_)
              refine z_iload_n C (i := 1) (pc' := 119) dX11_add_118 rfl rfl rfl ?_
              refine z_dup2 C (pc' := 120) dX11_add_119 rfl rfl rfl ?_
              refine z_iald C (pc' := 121) dX11_add_120 rfl (fun v24 => ?_)
              refine z_iconst C (pc' := 122) dX11_add_121 kc_1 rfl ?_
              refine z_iadd C (pc' := 123) dX11_add_122 rfl ?_
              refine z_iast C (pc' := 124) dX11_add_123 rfl (fun u25 => ?_)
              refine z_aload_n C (i := 0) (pc' := 125) dX11_add_124 rfl rfl rfl ?_
              refine z_getfR C (pc' := 128) flRX11_43 dX11_add_125 rfl (fun v26 => ?_)
              refine z_iload_n C (i := 1) (pc' := 129) dX11_add_128 rfl rfl rfl ?_
              refine z_iald C (pc' := 130) dX11_add_129 rfl (fun v27 => ?_)
              exact z_ireturn C dX11_add_130
            ·
              refine z_aload_n C (i := 0) (pc' := 72) dX11_add_71 rfl rfl rfl ?_
              refine z_iload_n C (i := 1) (pc' := 73) dX11_add_72 rfl rfl rfl ?_
              refine z_iload C (pc' := 75) dX11_add_73 rfl rfl ?_
              refine z_iload C (pc' := 77) dX11_add_75 rfl rfl ?_
              refine z_iconst C (pc' := 78) dX11_add_77 kc_1 rfl ?_
              refine z_isub C (pc' := 79) dX11_add_78 rfl ?_
              refine z_callV0 C (pc' := 82) lvRX11_197 lc_X11_moves rfl dX11_add_79 rfl (by decide) (rX11_moves l w x0 x1 v15 (zw32 (v15 - 1)) u16) rfl (Nat.le_of_ble_eq_true rfl) (fun _ u28 => ?_)
              refine z_iinc C (i := 4) (la' := [(4, zI (zw32 (v15 + (-1)))), (0, zR x0), (1, zI x1), (2, zI x2), (3, zI x3)]) (pc' := 85) dX11_add_82 rfl (by decide) rfl rfl ?_
              refine z_goto C (pc' := 65) dX11_add_85 rfl ?_
              exact zlocs (lb := [(0, zR x0), (1, zI x1), (2, zI x2), (3, zI x3), (4, zI (zw32 (v15 + (-1))))]) ⟨rfl, rfl, rfl, rfl, rfl, trivial⟩ (hk17 _ _)
          ·
            refine z_bipush C (pc' := 56) dX11_add_54 kb_m3 rfl ?_
            exact z_ireturn C dX11_add_56
        ·
          refine z_iconst C (pc' := 42) dX11_add_41 kc_m1 rfl ?_
          exact z_ireturn C dX11_add_42
def fX11_strike (x0 x1 x2 : Int) (u0 : zMem) : zRs := zvc 11 x0 (fX11_isPaper x0 x1 u0) (fun v1 u2 => if v1 = 0 then (some ((-1), u2)) else (zgf 11 22 x0 u2 (fun v3 => zald 20 v3 x1 u2 (fun v4 => zcall (fX11_within x2 0 (zw32 (v4 - 1)) u2) (fun v5 u6 => if v5 ≠ 0 then (zvc 11 x0 (fX11_fallsAway x0 x1 x2 u6) (fun _ u7 => zgf 11 22 x0 u7 (fun v8 => zald 20 v8 x1 u7 (fun v9 => some (v9, u7))))) else (some ((-1), u6)))))))
set_option maxRecDepth 100000 in
set_option maxHeartbeats 4000000 in
theorem rX11_strike (l : Launch) (w : zW) (x0 x1 x2 : Int) (u0 : zMem) : zSpc l w 4 yX11_strike cX11_strike 3 (some .int) 1 [zR x0, zI x1, zI x2] u0 (fX11_strike x0 x1 x2 u0) := by
  refine zSpc_of (own := RX11) pnRX11 rfl (Nat.le_of_ble_eq_true rfl) (fun G p e R s m args below meth c C hini => ?_)
  unfold fX11_strike
  refine zlocs (lb := [(0, zR x0), (1, zI x1), (2, zI x2)]) ⟨rfl, rfl, rfl, trivial⟩ ?_
  refine z_aload_n C (i := 0) (pc' := 1) dX11_strike_0 rfl rfl rfl ?_
  refine z_iload_n C (i := 1) (pc' := 2) dX11_strike_1 rfl rfl rfl ?_
  refine z_callV1 C (pc' := 5) lvRX11_219 lc_X11_isPaper rfl dX11_strike_2 rfl (by decide) (rX11_isPaper l w x0 x1 u0) rfl (Nat.le_of_ble_eq_true rfl) (fun v1 u2 => ?_)
  refine z_if_eq C (pc' := 26) (pf := 8) dX11_strike_5 rfl rfl (fun _ => ?_) (fun _ => ?_)
  ·
    refine z_iconst C (pc' := 27) dX11_strike_26 kc_m1 rfl ?_
    exact z_ireturn C dX11_strike_27
  ·
    refine z_iload_n C (i := 2) (pc' := 9) dX11_strike_8 rfl rfl rfl ?_
    refine z_i2l C (pc' := 10) dX11_strike_9 rfl ?_
    refine z_lconst C (pc' := 11) dX11_strike_10 kl_0 rfl ?_
    refine z_aload_n C (i := 0) (pc' := 12) dX11_strike_11 rfl rfl rfl ?_
    refine z_getfR C (pc' := 15) flRX11_43 dX11_strike_12 rfl (fun v3 => ?_)
    refine z_iload_n C (i := 1) (pc' := 16) dX11_strike_15 rfl rfl rfl ?_
    refine z_iald C (pc' := 17) dX11_strike_16 rfl (fun v4 => ?_)
    refine z_iconst C (pc' := 18) dX11_strike_17 kc_1 rfl ?_
    refine z_isub C (pc' := 19) dX11_strike_18 rfl ?_
    refine z_i2l C (pc' := 20) dX11_strike_19 rfl ?_
    refine z_callS1 C (pc' := 23) lsRX11_88 lc_X11_within rfl dX11_strike_20 rfl (by decide) (rX11_within l w x2 0 (zw32 (v4 - 1)) u2) rfl (Nat.le_of_ble_eq_true rfl) (fun v5 u6 => ?_)
    refine z_if_ne C (pc' := 28) (pf := 26) dX11_strike_23 rfl rfl (fun _ => ?_) (fun _ => ?_)
    ·
      refine z_aload_n C (i := 0) (pc' := 29) dX11_strike_28 rfl rfl rfl ?_
      refine z_iload_n C (i := 1) (pc' := 30) dX11_strike_29 rfl rfl rfl ?_
      refine z_iload_n C (i := 2) (pc' := 31) dX11_strike_30 rfl rfl rfl ?_
      refine z_callV0 C (pc' := 34) lvRX11_201 lc_X11_fallsAway rfl dX11_strike_31 rfl (by decide) (rX11_fallsAway l w x0 x1 x2 u6) rfl (Nat.le_of_ble_eq_true rfl) (fun _ u7 => ?_)
      refine z_aload_n C (i := 0) (pc' := 35) dX11_strike_34 rfl rfl rfl ?_
      refine z_getfR C (pc' := 38) flRX11_43 dX11_strike_35 rfl (fun v8 => ?_)
      refine z_iload_n C (i := 1) (pc' := 39) dX11_strike_38 rfl rfl rfl ?_
      refine z_iald C (pc' := 40) dX11_strike_39 rfl (fun v9 => ?_)
      exact z_ireturn C dX11_strike_40
    ·
      refine z_iconst C (pc' := 27) dX11_strike_26 kc_m1 rfl ?_
      exact z_ireturn C dX11_strike_27
def fX11_read (x0 x1 x2 : Int) (u0 : zMem) : zRs := zvc 11 x0 (fX11_isPaper x0 x1 u0) (fun v1 u2 => if v1 = 0 then (some ((-1), u2)) else (zcall (fX11_within x2 0 10 u2) (fun v3 u4 => if v3 ≠ 0 then (zlp (fun _ _ _ => none) (fun k8 (v5 : Int) (v6 : Int) (u7 : zMem) => zgf 11 22 x0 u7 (fun v9 => zald 20 v9 x1 u7 (fun v10 => if v6 ≥ v10 then (some (v5, u7)) else (zgf 11 0 x0 u7 (fun v11 => zgf 11 23 x0 u7 (fun v12 => zald 20 v12 (zw32 ((zw32 (16 * x1)) + v6)) u7 (fun v13 => zald 20 v11 v13 u7 (fun v14 => zjn (fun (v15 : Int) (u16 : zMem) => zjn (fun (v18 : Int) (v19 : Int) (u20 : zMem) => k8 v18 v19 u20) (fun k21 => zjn (fun (u22 : zMem) => zgf 11 25 x0 u22 (fun v24 => zjn (fun (v25 : Int) (u26 : zMem) => zast 20 v24 (zw32 ((zw32 (16 * x1)) + v6)) v25 u26 (fun u28 => zgf 11 25 x0 u28 (fun v29 => zgf 11 25 x0 u28 (fun v30 => zald 20 v30 (zw32 ((zw32 (16 * x1)) + v6)) u28 (fun v31 => zjn (fun (v32 : Int) (u33 : zMem) => zast 20 v29 (zw32 ((zw32 (16 * x1)) + v6)) v32 u33 (fun u35 => k21 v5 (zw32 (v6 + 1)) u35)) (fun k34 => if v31 ≤ 999 then (zgf 11 25 x0 u28 (fun v36 => zald 20 v36 (zw32 ((zw32 (16 * x1)) + v6)) u28 (fun v37 => k34 v37 u28))) else (k34 999 u28))))))) (fun k27 => if v15 = 0 then (zgf 11 25 x0 u22 (fun v38 => zald 20 v38 (zw32 ((zw32 (16 * x1)) + v6)) u22 (fun v39 => k27 v39 u22))) else (zgf 11 25 x0 u22 (fun v40 => zald 20 v40 (zw32 ((zw32 (16 * x1)) + v6)) u22 (fun v41 => k27 (zw32 (2 * v41)) u22)))))) (fun k23 => if v15 = 0 then (k23 u16) else (zgf 11 24 x0 u16 (fun v42 => zald 20 v42 (zw32 ((zw32 (16 * x1)) + v6)) u16 (fun v43 => if v43 ≠ 2 then (k23 u16) else (zvc 11 x0 (fX11_fallsAway x0 x1 v6 u16) (fun _ u44 => k21 (zw32 (v5 + 1)) v6 u44)))))))) (fun k17 => if v14 ≠ x2 then (k17 0 u7) else (k17 1 u7)))))))))) 1000000 0 0 u4) else (some ((-1), u4)))))
set_option maxRecDepth 100000 in
set_option maxHeartbeats 4000000 in
theorem rX11_read (l : Launch) (w : zW) (x0 x1 x2 : Int) (u0 : zMem) : zSpc l w 4 yX11_read cX11_read 7 (some .int) 1 [zR x0, zI x1, zI x2] u0 (fX11_read x0 x1 x2 u0) := by
  refine zSpc_of (own := RX11) pnRX11 rfl (Nat.le_of_ble_eq_true rfl) (fun G p e R s m args below meth c C hini => ?_)
  unfold fX11_read
  refine zlocs (lb := [(0, zR x0), (1, zI x1), (2, zI x2)]) ⟨rfl, rfl, rfl, trivial⟩ ?_
  refine z_aload_n C (i := 0) (pc' := 1) dX11_read_0 rfl rfl rfl ?_
  refine z_iload_n C (i := 1) (pc' := 2) dX11_read_1 rfl rfl rfl ?_
  refine z_callV1 C (pc' := 5) lvRX11_219 lc_X11_isPaper rfl dX11_read_2 rfl (by decide) (rX11_isPaper l w x0 x1 u0) rfl (Nat.le_of_ble_eq_true rfl) (fun v1 u2 => ?_)
  refine z_if_eq C (pc' := 20) (pf := 8) dX11_read_5 rfl rfl (fun _ => ?_) (fun _ => ?_)
  ·
    refine z_iconst C (pc' := 21) dX11_read_20 kc_m1 rfl ?_
    exact z_ireturn C dX11_read_21
  ·
    refine z_iload_n C (i := 2) (pc' := 9) dX11_read_8 rfl rfl rfl ?_
    refine z_i2l C (pc' := 10) dX11_read_9 rfl ?_
    refine z_lconst C (pc' := 11) dX11_read_10 kl_0 rfl ?_
    refine z_ldc2 C (pc' := 14) dX11_read_11 wlRX11_92 kj_10 rfl ?_
    refine z_callS1 C (pc' := 17) lsRX11_88 lc_X11_within rfl dX11_read_14 rfl (by decide) (rX11_within l w x2 0 10 u2) rfl (Nat.le_of_ble_eq_true rfl) (fun v3 u4 => ?_)
    refine z_if_ne C (pc' := 22) (pf := 20) dX11_read_17 rfl rfl (fun _ => ?_) (fun _ => ?_)
    ·
      refine z_iconst C (pc' := 23) dX11_read_22 kc_0 rfl ?_
      refine z_istore_n C (i := 3) (la' := [(3, zI 0), (0, zR x0), (1, zI x1), (2, zI x2)]) (pc' := 24) dX11_read_23 rfl (by decide) rfl rfl ?_
      refine z_iconst C (pc' := 25) dX11_read_24 kc_0 rfl ?_
      refine z_istore C (i := 4) (la' := [(4, zI 0), (3, zI 0), (0, zR x0), (1, zI x1), (2, zI x2)]) (pc' := 27) dX11_read_25 (by decide) rfl rfl ?_
      refine zlocs (lb := [(0, zR x0), (1, zI x1), (2, zI x2), (3, zI 0), (4, zI 0)]) ⟨rfl, rfl, rfl, rfl, rfl, trivial⟩ ?_
      refine zlp_ind (fun (f : Int → Int → zMem → zRs) => ∀ (v5 : Int) (v6 : Int) (u7 : zMem), zSim G p l e R s m args below meth c w 7 (znc u0) (zM w 1 (znc u0) below args s) 27 [(0, zR x0), (1, zI x1), (2, zI x2), (3, zI v5), (4, zI v6)] [] u7 (f v5 v6 u7)) (fun _ _ _ => znone) (fun k8 hk8 v5 v6 u7 => ?_) _ _ _ _
      refine z_iload C (pc' := 29) dX11_read_27 rfl rfl ?_
      refine z_aload_n C (i := 0) (pc' := 30) dX11_read_29 rfl rfl rfl ?_
      refine z_getfR C (pc' := 33) flRX11_43 dX11_read_30 rfl (fun v9 => ?_)
      refine z_iload_n C (i := 1) (pc' := 34) dX11_read_33 rfl rfl rfl ?_
      refine z_iald C (pc' := 35) dX11_read_34 rfl (fun v10 => ?_)
      refine z_icmp_ge C (pc' := 169) (pf := 38) dX11_read_35 rfl rfl (fun _ => ?_) (fun _ => ?_)
      ·
        refine z_iload_n C (i := 3) (pc' := 170) dX11_read_169 rfl rfl rfl ?_
        exact z_ireturn C dX11_read_170
      ·
        refine z_bipush C (pc' := 40) dX11_read_38 kb_16 rfl ?_
        refine z_iload_n C (i := 1) (pc' := 41) dX11_read_40 rfl rfl rfl ?_
        refine z_imul C (pc' := 42) dX11_read_41 rfl ?_
        refine z_iload C (pc' := 44) dX11_read_42 rfl rfl ?_
        refine z_iadd C (pc' := 45) dX11_read_44 rfl ?_
        refine z_istore C (i := 5) (la' := [(5, zI (zw32 ((zw32 (16 * x1)) + v6))), (0, zR x0), (1, zI x1), (2, zI x2), (3, zI v5), (4, zI v6)]) (pc' := 47) dX11_read_45 (by decide) rfl rfl ?_
        refine z_aload_n C (i := 0) (pc' := 48) dX11_read_47 rfl rfl rfl ?_
        refine z_getfR C (pc' := 51) flRX11_9 dX11_read_48 rfl (fun v11 => ?_)
        refine z_aload_n C (i := 0) (pc' := 52) dX11_read_51 rfl rfl rfl ?_
        refine z_getfR C (pc' := 55) flRX11_46 dX11_read_52 rfl (fun v12 => ?_)
        refine z_iload C (pc' := 57) dX11_read_55 rfl rfl ?_
        refine z_iald C (pc' := 58) dX11_read_57 rfl (fun v13 => ?_)
        refine z_iald C (pc' := 59) dX11_read_58 rfl (fun v14 => ?_)
        refine z_iload_n C (i := 2) (pc' := 60) dX11_read_59 rfl rfl rfl ?_
        refine zjoin (P := fun (f : Int → zMem → zRs) => ∀ (v15 : Int) (u16 : zMem), zSim G p l e R s m args below meth c w 7 (znc u0) (zM w 1 (znc u0) below args s) 68 [(0, zR x0), (1, zI x1), (2, zI x2), (3, zI v5), (4, zI v6), (5, zI (zw32 ((zw32 (16 * x1)) + v6)))] [zI v15] u16 (f v15 u16)) (fun v15 u16 => ?_) (fun k17 hk17 => ?_)
        ·
          refine z_istore C (i := 6) (la' := [(6, zI v15), (0, zR x0), (1, zI x1), (2, zI x2), (3, zI v5), (4, zI v6), (5, zI (zw32 ((zw32 (16 * x1)) + v6)))]) (pc' := 70) dX11_read_68 (by decide) rfl rfl ?_
          refine z_iload C (pc' := 72) dX11_read_70 rfl rfl ?_
          refine zjoin (P := fun (f : Int → Int → zMem → zRs) => ∀ (v18 : Int) (v19 : Int) (u20 : zMem), zSim G p l e R s m args below meth c w 7 (znc u0) (zM w 1 (znc u0) below args s) 166 [(0, zR x0), (1, zI x1), (2, zI x2), (3, zI v18), (4, zI v19)] [] u20 (f v18 v19 u20)) (fun v18 v19 u20 => ?_) (fun k21 hk21 => ?_)
          ·
            refine z_goto C (pc' := 27) dX11_read_166 rfl ?_
            exact zlocs (lb := [(0, zR x0), (1, zI x1), (2, zI x2), (3, zI v18), (4, zI v19)]) ⟨rfl, rfl, rfl, rfl, rfl, trivial⟩ (hk8 _ _ _)
          ·
            refine zjoin (P := fun (f : zMem → zRs) => ∀ (u22 : zMem), zSim G p l e R s m args below meth c w 7 (znc u0) (zM w 1 (znc u0) below args s) 99 [(0, zR x0), (1, zI x1), (2, zI x2), (3, zI v5), (4, zI v6), (5, zI (zw32 ((zw32 (16 * x1)) + v6))), (6, zI v15)] [] u22 (f u22)) (fun u22 => ?_) (fun k23 hk23 => ?_)
            ·
              refine z_aload_n C (i := 0) (pc' := 100) dX11_read_99 rfl rfl rfl ?_
              refine z_getfR C (pc' := 103) flRX11_52 dX11_read_100 rfl (fun v24 => ?_)
              refine z_iload C (pc' := 105) dX11_read_103 rfl rfl ?_
              refine z_iload C (pc' := 107) dX11_read_105 rfl rfl ?_
              refine zjoin (P := fun (f : Int → zMem → zRs) => ∀ (v25 : Int) (u26 : zMem), zSim G p l e R s m args below meth c w 7 (znc u0) (zM w 1 (znc u0) below args s) 129 [(0, zR x0), (1, zI x1), (2, zI x2), (3, zI v5), (4, zI v6), (5, zI (zw32 ((zw32 (16 * x1)) + v6)))] [zI v25, zI (zw32 ((zw32 (16 * x1)) + v6)), zR v24] u26 (f v25 u26)) (fun v25 u26 => ?_) (fun k27 hk27 => ?_)
              ·
                refine z_iast C (pc' := 130) dX11_read_129 rfl (fun u28 => ?_)
                refine z_aload_n C (i := 0) (pc' := 131) dX11_read_130 rfl rfl rfl ?_
                refine z_getfR C (pc' := 134) flRX11_52 dX11_read_131 rfl (fun v29 => ?_)
                refine z_iload C (pc' := 136) dX11_read_134 rfl rfl ?_
                refine z_aload_n C (i := 0) (pc' := 137) dX11_read_136 rfl rfl rfl ?_
                refine z_getfR C (pc' := 140) flRX11_52 dX11_read_137 rfl (fun v30 => ?_)
                refine z_iload C (pc' := 142) dX11_read_140 rfl rfl ?_
                refine z_iald C (pc' := 143) dX11_read_142 rfl (fun v31 => ?_)
                refine z_sipush C (pc' := 146) dX11_read_143 ks_999 rfl ?_
                refine zjoin (P := fun (f : Int → zMem → zRs) => ∀ (v32 : Int) (u33 : zMem), zSim G p l e R s m args below meth c w 7 (znc u0) (zM w 1 (znc u0) below args s) 162 [(0, zR x0), (1, zI x1), (2, zI x2), (3, zI v5), (4, zI v6)] [zI v32, zI (zw32 ((zw32 (16 * x1)) + v6)), zR v29] u33 (f v32 u33)) (fun v32 u33 => ?_) (fun k34 hk34 => ?_)
                ·
                  refine z_iast C (pc' := 163) dX11_read_162 rfl (fun u35 => ?_)
                  refine z_iinc C (i := 4) (la' := [(4, zI (zw32 (v6 + 1))), (0, zR x0), (1, zI x1), (2, zI x2), (3, zI v5)]) (pc' := 166) dX11_read_163 rfl (by decide) rfl rfl ?_
                  exact zlocs (lb := [(0, zR x0), (1, zI x1), (2, zI x2), (3, zI v5), (4, zI (zw32 (v6 + 1)))]) ⟨rfl, rfl, rfl, rfl, rfl, trivial⟩ (hk21 _ _ _)
                ·
                  refine z_icmp_le C (pc' := 155) (pf := 149) dX11_read_146 rfl rfl (fun _ => ?_) (fun _ => ?_)
                  ·
                    refine z_aload_n C (i := 0) (pc' := 156) dX11_read_155 rfl rfl rfl ?_
                    refine z_getfR C (pc' := 159) flRX11_52 dX11_read_156 rfl (fun v36 => ?_)
                    refine z_iload C (pc' := 161) dX11_read_159 rfl rfl ?_
                    refine z_iald C (pc' := 162) dX11_read_161 rfl (fun v37 => ?_)
                    exact zlocs (lb := [(0, zR x0), (1, zI x1), (2, zI x2), (3, zI v5), (4, zI v6)]) ⟨rfl, rfl, rfl, rfl, rfl, trivial⟩ (hk34 _ _)
                  ·
                    refine z_sipush C (pc' := 152) dX11_read_149 ks_999 rfl ?_
                    refine z_goto C (pc' := 162) dX11_read_152 rfl ?_
                    exact zlocs (lb := [(0, zR x0), (1, zI x1), (2, zI x2), (3, zI v5), (4, zI v6)]) ⟨rfl, rfl, rfl, rfl, rfl, trivial⟩ (hk34 _ _)
              ·
                refine z_if_eq C (pc' := 122) (pf := 110) dX11_read_107 rfl rfl (fun _ => ?_) (fun _ => ?_)
                ·
                  refine z_aload_n C (i := 0) (pc' := 123) dX11_read_122 rfl rfl rfl ?_
                  refine z_getfR C (pc' := 126) flRX11_52 dX11_read_123 rfl (fun v38 => ?_)
                  refine z_iload C (pc' := 128) dX11_read_126 rfl rfl ?_
                  refine z_iald C (pc' := 129) dX11_read_128 rfl (fun v39 => ?_)
                  exact zlocs (lb := [(0, zR x0), (1, zI x1), (2, zI x2), (3, zI v5), (4, zI v6), (5, zI (zw32 ((zw32 (16 * x1)) + v6)))]) ⟨rfl, rfl, rfl, rfl, rfl, rfl, trivial⟩ (hk27 _ _)
                ·
                  refine z_iconst C (pc' := 111) dX11_read_110 kc_2 rfl ?_
                  refine z_aload_n C (i := 0) (pc' := 112) dX11_read_111 rfl rfl rfl ?_
                  refine z_getfR C (pc' := 115) flRX11_52 dX11_read_112 rfl (fun v40 => ?_)
                  refine z_iload C (pc' := 117) dX11_read_115 rfl rfl ?_
                  refine z_iald C (pc' := 118) dX11_read_117 rfl (fun v41 => ?_)
                  refine z_imul C (pc' := 119) dX11_read_118 rfl ?_
                  refine z_goto C (pc' := 129) dX11_read_119 rfl ?_
                  exact zlocs (lb := [(0, zR x0), (1, zI x1), (2, zI x2), (3, zI v5), (4, zI v6), (5, zI (zw32 ((zw32 (16 * x1)) + v6)))]) ⟨rfl, rfl, rfl, rfl, rfl, rfl, trivial⟩ (hk27 _ _)
            ·
              refine z_if_eq C (pc' := 99) (pf := 75) dX11_read_72 rfl rfl (fun _ => ?_) (fun _ => ?_)
              ·
                exact zlocs (lb := [(0, zR x0), (1, zI x1), (2, zI x2), (3, zI v5), (4, zI v6), (5, zI (zw32 ((zw32 (16 * x1)) + v6))), (6, zI v15)]) ⟨rfl, rfl, rfl, rfl, rfl, rfl, rfl, trivial⟩ (hk23 _)
              ·
                refine z_aload_n C (i := 0) (pc' := 76) dX11_read_75 rfl rfl rfl ?_
                refine z_getfR C (pc' := 79) flRX11_49 dX11_read_76 rfl (fun v42 => ?_)
                refine z_iload C (pc' := 81) dX11_read_79 rfl rfl ?_
                refine z_iald C (pc' := 82) dX11_read_81 rfl (fun v43 => ?_)
                refine z_iconst C (pc' := 83) dX11_read_82 kc_2 rfl ?_
                refine z_icmp_ne C (pc' := 99) (pf := 86) dX11_read_83 rfl rfl (fun _ => ?_) (fun _ => ?_)
                ·
                  exact zlocs (lb := [(0, zR x0), (1, zI x1), (2, zI x2), (3, zI v5), (4, zI v6), (5, zI (zw32 ((zw32 (16 * x1)) + v6))), (6, zI v15)]) ⟨rfl, rfl, rfl, rfl, rfl, rfl, rfl, trivial⟩ (hk23 _)
                ·
                  refine z_aload_n C (i := 0) (pc' := 87) dX11_read_86 rfl rfl rfl ?_
                  refine z_iload_n C (i := 1) (pc' := 88) dX11_read_87 rfl rfl rfl ?_
                  refine z_iload C (pc' := 90) dX11_read_88 rfl rfl ?_
                  refine z_callV0 C (pc' := 93) lvRX11_201 lc_X11_fallsAway rfl dX11_read_90 rfl (by decide) (rX11_fallsAway l w x0 x1 v6 u16) rfl (Nat.le_of_ble_eq_true rfl) (fun _ u44 => ?_)
                  refine z_iinc C (i := 3) (la' := [(3, zI (zw32 (v5 + 1))), (6, zI v15), (0, zR x0), (1, zI x1), (2, zI x2), (4, zI v6), (5, zI (zw32 ((zw32 (16 * x1)) + v6)))]) (pc' := 96) dX11_read_93 rfl (by decide) rfl rfl ?_
                  refine z_goto C (pc' := 166) dX11_read_96 rfl ?_
                  exact zlocs (lb := [(0, zR x0), (1, zI x1), (2, zI x2), (3, zI (zw32 (v5 + 1))), (4, zI v6)]) ⟨rfl, rfl, rfl, rfl, rfl, trivial⟩ (hk21 _ _ _)
        ·
          refine z_icmp_ne C (pc' := 67) (pf := 63) dX11_read_60 rfl rfl (fun _ => ?_) (fun _ => ?_)
          ·
            refine z_iconst C (pc' := 68) dX11_read_67 kc_0 rfl ?_
            exact zlocs (lb := [(0, zR x0), (1, zI x1), (2, zI x2), (3, zI v5), (4, zI v6), (5, zI (zw32 ((zw32 (16 * x1)) + v6)))]) ⟨rfl, rfl, rfl, rfl, rfl, rfl, trivial⟩ (hk17 _ _)
          ·
            refine z_iconst C (pc' := 64) dX11_read_63 kc_1 rfl ?_
            refine z_goto C (pc' := 68) dX11_read_64 rfl ?_
            exact zlocs (lb := [(0, zR x0), (1, zI x1), (2, zI x2), (3, zI v5), (4, zI v6), (5, zI (zw32 ((zw32 (16 * x1)) + v6)))]) ⟨rfl, rfl, rfl, rfl, rfl, rfl, trivial⟩ (hk17 _ _)
    ·
      refine z_iconst C (pc' := 21) dX11_read_20 kc_m1 rfl ?_
      exact z_ireturn C dX11_read_21
def fX11_cut (x0 x1 x2 : Int) (u0 : zMem) : zRs := zvc 11 x0 (fX11_isPaper x0 x1 u0) (fun v1 u2 => if v1 = 0 then (some ((-1), u2)) else (zcall (fX11_within x2 0 16 u2) (fun v3 u4 => if v3 ≠ 0 then (zlp (fun _ _ => none) (fun k7 (v5 : Int) (u6 : zMem) => zgf 11 22 x0 u6 (fun v8 => zald 20 v8 x1 u6 (fun v9 => if v9 ≤ x2 then (some (v5, u6)) else (zlp (fun _ _ _ => none) (fun k13 (v10 : Int) (v11 : Int) (u12 : zMem) => zgf 11 22 x0 u12 (fun v14 => zald 20 v14 x1 u12 (fun v15 => if v11 ≥ v15 then (zvc 11 x0 (fX11_fallsAway x0 x1 v10 u12) (fun _ u16 => k7 (zw32 (v5 + 1)) u16)) else (zgf 11 25 x0 u12 (fun v17 => zald 20 v17 (zw32 ((zw32 (16 * x1)) + v11)) u12 (fun v18 => zgf 11 25 x0 u12 (fun v19 => zald 20 v19 (zw32 ((zw32 (16 * x1)) + v10)) u12 (fun v20 => zjn (fun (v21 : Int) (u22 : zMem) => k13 v21 (zw32 (v11 + 1)) u22) (fun k23 => if v18 > v20 then (k23 v10 u12) else (k23 v11 u12)))))))))) 1000000 0 1 u6)))) 1000000 0 u4) else (some ((-1), u4)))))
set_option maxRecDepth 100000 in
set_option maxHeartbeats 4000000 in
theorem rX11_cut (l : Launch) (w : zW) (x0 x1 x2 : Int) (u0 : zMem) : zSpc l w 4 yX11_cut cX11_cut 6 (some .int) 1 [zR x0, zI x1, zI x2] u0 (fX11_cut x0 x1 x2 u0) := by
  refine zSpc_of (own := RX11) pnRX11 rfl (Nat.le_of_ble_eq_true rfl) (fun G p e R s m args below meth c C hini => ?_)
  unfold fX11_cut
  refine zlocs (lb := [(0, zR x0), (1, zI x1), (2, zI x2)]) ⟨rfl, rfl, rfl, trivial⟩ ?_
  refine z_aload_n C (i := 0) (pc' := 1) dX11_cut_0 rfl rfl rfl ?_
  refine z_iload_n C (i := 1) (pc' := 2) dX11_cut_1 rfl rfl rfl ?_
  refine z_callV1 C (pc' := 5) lvRX11_219 lc_X11_isPaper rfl dX11_cut_2 rfl (by decide) (rX11_isPaper l w x0 x1 u0) rfl (Nat.le_of_ble_eq_true rfl) (fun v1 u2 => ?_)
  refine z_if_eq C (pc' := 20) (pf := 8) dX11_cut_5 rfl rfl (fun _ => ?_) (fun _ => ?_)
  ·
    refine z_iconst C (pc' := 21) dX11_cut_20 kc_m1 rfl ?_
    exact z_ireturn C dX11_cut_21
  ·
    refine z_iload_n C (i := 2) (pc' := 9) dX11_cut_8 rfl rfl rfl ?_
    refine z_i2l C (pc' := 10) dX11_cut_9 rfl ?_
    refine z_lconst C (pc' := 11) dX11_cut_10 kl_0 rfl ?_
    refine z_ldc2 C (pc' := 14) dX11_cut_11 wlRX11_226 kj_16 rfl ?_
    refine z_callS1 C (pc' := 17) lsRX11_88 lc_X11_within rfl dX11_cut_14 rfl (by decide) (rX11_within l w x2 0 16 u2) rfl (Nat.le_of_ble_eq_true rfl) (fun v3 u4 => ?_)
    refine z_if_ne C (pc' := 22) (pf := 20) dX11_cut_17 rfl rfl (fun _ => ?_) (fun _ => ?_)
    ·
      refine z_iconst C (pc' := 23) dX11_cut_22 kc_0 rfl ?_
      refine z_istore_n C (i := 3) (la' := [(3, zI 0), (0, zR x0), (1, zI x1), (2, zI x2)]) (pc' := 24) dX11_cut_23 rfl (by decide) rfl rfl ?_
      refine zlocs (lb := [(0, zR x0), (1, zI x1), (2, zI x2), (3, zI 0)]) ⟨rfl, rfl, rfl, rfl, trivial⟩ ?_
      refine zlp_ind (fun (f : Int → zMem → zRs) => ∀ (v5 : Int) (u6 : zMem), zSim G p l e R s m args below meth c w 6 (znc u0) (zM w 1 (znc u0) below args s) 24 [(0, zR x0), (1, zI x1), (2, zI x2), (3, zI v5)] [] u6 (f v5 u6)) (fun _ _ => znone) (fun k7 hk7 v5 u6 => ?_) _ _ _
      refine z_aload_n C (i := 0) (pc' := 25) dX11_cut_24 rfl rfl rfl ?_
      refine z_getfR C (pc' := 28) flRX11_43 dX11_cut_25 rfl (fun v8 => ?_)
      refine z_iload_n C (i := 1) (pc' := 29) dX11_cut_28 rfl rfl rfl ?_
      refine z_iald C (pc' := 30) dX11_cut_29 rfl (fun v9 => ?_)
      refine z_iload_n C (i := 2) (pc' := 31) dX11_cut_30 rfl rfl rfl ?_
      refine z_icmp_le C (pc' := 106) (pf := 34) dX11_cut_31 rfl rfl (fun _ => ?_) (fun _ => ?_)
      ·
        refine z_iload_n C (i := 3) (pc' := 107) dX11_cut_106 rfl rfl rfl ?_
        exact z_ireturn C dX11_cut_107
      ·
        refine z_iconst C (pc' := 35) dX11_cut_34 kc_0 rfl ?_
        refine z_istore C (i := 4) (la' := [(4, zI 0), (0, zR x0), (1, zI x1), (2, zI x2), (3, zI v5)]) (pc' := 37) dX11_cut_35 (by decide) rfl rfl ?_
        refine z_iconst C (pc' := 38) dX11_cut_37 kc_1 rfl ?_
        refine z_istore C (i := 5) (la' := [(5, zI 1), (4, zI 0), (0, zR x0), (1, zI x1), (2, zI x2), (3, zI v5)]) (pc' := 40) dX11_cut_38 (by decide) rfl rfl ?_
        refine zlocs (lb := [(0, zR x0), (1, zI x1), (2, zI x2), (3, zI v5), (4, zI 0), (5, zI 1)]) ⟨rfl, rfl, rfl, rfl, rfl, rfl, trivial⟩ ?_
        refine zlp_ind (fun (f : Int → Int → zMem → zRs) => ∀ (v10 : Int) (v11 : Int) (u12 : zMem), zSim G p l e R s m args below meth c w 6 (znc u0) (zM w 1 (znc u0) below args s) 40 [(0, zR x0), (1, zI x1), (2, zI x2), (3, zI v5), (4, zI v10), (5, zI v11)] [] u12 (f v10 v11 u12)) (fun _ _ _ => znone) (fun k13 hk13 v10 v11 u12 => ?_) _ _ _ _
        refine z_iload C (pc' := 42) dX11_cut_40 rfl rfl ?_
        refine z_aload_n C (i := 0) (pc' := 43) dX11_cut_42 rfl rfl rfl ?_
        refine z_getfR C (pc' := 46) flRX11_43 dX11_cut_43 rfl (fun v14 => ?_)
        refine z_iload_n C (i := 1) (pc' := 47) dX11_cut_46 rfl rfl rfl ?_
        refine z_iald C (pc' := 48) dX11_cut_47 rfl (fun v15 => ?_)
        refine z_icmp_ge C (pc' := 93) (pf := 51) dX11_cut_48 rfl rfl (fun _ => ?_) (fun _ => ?_)
        ·
          refine z_aload_n C (i := 0) (pc' := 94) dX11_cut_93 rfl rfl rfl ?_
          refine z_iload_n C (i := 1) (pc' := 95) dX11_cut_94 rfl rfl rfl ?_
          refine z_iload C (pc' := 97) dX11_cut_95 rfl rfl ?_
          refine z_callV0 C (pc' := 100) lvRX11_201 lc_X11_fallsAway rfl dX11_cut_97 rfl (by decide) (rX11_fallsAway l w x0 x1 v10 u12) rfl (Nat.le_of_ble_eq_true rfl) (fun _ u16 => ?_)
          refine z_iinc C (i := 3) (la' := [(3, zI (zw32 (v5 + 1))), (0, zR x0), (1, zI x1), (2, zI x2), (4, zI v10), (5, zI v11)]) (pc' := 103) dX11_cut_100 rfl (by decide) rfl rfl ?_
          refine z_goto C (pc' := 24) dX11_cut_103 rfl ?_
          exact zlocs (lb := [(0, zR x0), (1, zI x1), (2, zI x2), (3, zI (zw32 (v5 + 1)))]) ⟨rfl, rfl, rfl, rfl, trivial⟩ (hk7 _ _)
        ·
          refine z_aload_n C (i := 0) (pc' := 52) dX11_cut_51 rfl rfl rfl ?_
          refine z_getfR C (pc' := 55) flRX11_52 dX11_cut_52 rfl (fun v17 => ?_)
          refine z_bipush C (pc' := 57) dX11_cut_55 kb_16 rfl ?_
          refine z_iload_n C (i := 1) (pc' := 58) dX11_cut_57 rfl rfl rfl ?_
          refine z_imul C (pc' := 59) dX11_cut_58 rfl ?_
          refine z_iload C (pc' := 61) dX11_cut_59 rfl rfl ?_
          refine z_iadd C (pc' := 62) dX11_cut_61 rfl ?_
          refine z_iald C (pc' := 63) dX11_cut_62 rfl (fun v18 => ?_)
          refine z_aload_n C (i := 0) (pc' := 64) dX11_cut_63 rfl rfl rfl ?_
          refine z_getfR C (pc' := 67) flRX11_52 dX11_cut_64 rfl (fun v19 => ?_)
          refine z_bipush C (pc' := 69) dX11_cut_67 kb_16 rfl ?_
          refine z_iload_n C (i := 1) (pc' := 70) dX11_cut_69 rfl rfl rfl ?_
          refine z_imul C (pc' := 71) dX11_cut_70 rfl ?_
          refine z_iload C (pc' := 73) dX11_cut_71 rfl rfl ?_
          refine z_iadd C (pc' := 74) dX11_cut_73 rfl ?_
          refine z_iald C (pc' := 75) dX11_cut_74 rfl (fun v20 => ?_)
          refine zjoin (P := fun (f : Int → zMem → zRs) => ∀ (v21 : Int) (u22 : zMem), zSim G p l e R s m args below meth c w 6 (znc u0) (zM w 1 (znc u0) below args s) 85 [(0, zR x0), (1, zI x1), (2, zI x2), (3, zI v5), (5, zI v11)] [zI v21] u22 (f v21 u22)) (fun v21 u22 => ?_) (fun k23 hk23 => ?_)
          ·
            refine z_istore C (i := 4) (la' := [(4, zI v21), (0, zR x0), (1, zI x1), (2, zI x2), (3, zI v5), (5, zI v11)]) (pc' := 87) dX11_cut_85 (by decide) rfl rfl ?_
            refine z_iinc C (i := 5) (la' := [(5, zI (zw32 (v11 + 1))), (4, zI v21), (0, zR x0), (1, zI x1), (2, zI x2), (3, zI v5)]) (pc' := 90) dX11_cut_87 rfl (by decide) rfl rfl ?_
            refine z_goto C (pc' := 40) dX11_cut_90 rfl ?_
            exact zlocs (lb := [(0, zR x0), (1, zI x1), (2, zI x2), (3, zI v5), (4, zI v21), (5, zI (zw32 (v11 + 1)))]) ⟨rfl, rfl, rfl, rfl, rfl, rfl, trivial⟩ (hk13 _ _ _)
          ·
            refine z_icmp_gt C (pc' := 83) (pf := 78) dX11_cut_75 rfl rfl (fun _ => ?_) (fun _ => ?_)
            ·
              refine z_iload C (pc' := 85) dX11_cut_83 rfl rfl ?_
              exact zlocs (lb := [(0, zR x0), (1, zI x1), (2, zI x2), (3, zI v5), (5, zI v11)]) ⟨rfl, rfl, rfl, rfl, rfl, trivial⟩ (hk23 _ _)
            ·
              refine z_iload C (pc' := 80) dX11_cut_78 rfl rfl ?_
              refine z_goto C (pc' := 85) dX11_cut_80 rfl ?_
              exact zlocs (lb := [(0, zR x0), (1, zI x1), (2, zI x2), (3, zI v5), (5, zI v11)]) ⟨rfl, rfl, rfl, rfl, rfl, trivial⟩ (hk23 _ _)
    ·
      refine z_iconst C (pc' := 21) dX11_cut_20 kc_m1 rfl ?_
      exact z_ireturn C dX11_cut_21
def fX11_bitsOf (x0 x1 : Int) (u0 : zMem) : zRs := zlp (fun _ _ _ => none) (fun k4 (v1 : Int) (v2 : Int) (u3 : zMem) => zgf 11 22 x0 u3 (fun v5 => zald 20 v5 x1 u3 (fun v6 => if v2 ≥ v6 then (some (v1, u3)) else (zgf 11 23 x0 u3 (fun v7 => zald 20 v7 (zw32 ((zw32 (16 * x1)) + v2)) u3 (fun v8 => k4 (zor v1 (zshl 1 v8)) (zw32 (v2 + 1)) u3)))))) 1000000 0 0 u0
set_option maxRecDepth 100000 in
set_option maxHeartbeats 4000000 in
theorem rX11_bitsOf (l : Launch) (w : zW) (x0 x1 : Int) (u0 : zMem) : zSpc l w 1 yX11_bitsOf cX11_bitsOf 4 (some .int) 1 [zR x0, zI x1] u0 (fX11_bitsOf x0 x1 u0) := by
  refine zSpc_of (own := RX11) pnRX11 rfl (Nat.le_of_ble_eq_true rfl) (fun G p e R s m args below meth c C hini => ?_)
  unfold fX11_bitsOf
  refine zlocs (lb := [(0, zR x0), (1, zI x1)]) ⟨rfl, rfl, trivial⟩ ?_
  refine z_iconst C (pc' := 1) dX11_bitsOf_0 kc_0 rfl ?_
  refine z_istore_n C (i := 2) (la' := [(2, zI 0), (0, zR x0), (1, zI x1)]) (pc' := 2) dX11_bitsOf_1 rfl (by decide) rfl rfl ?_
  refine z_iconst C (pc' := 3) dX11_bitsOf_2 kc_0 rfl ?_
  refine z_istore_n C (i := 3) (la' := [(3, zI 0), (2, zI 0), (0, zR x0), (1, zI x1)]) (pc' := 4) dX11_bitsOf_3 rfl (by decide) rfl rfl ?_
  refine zlocs (lb := [(0, zR x0), (1, zI x1), (2, zI 0), (3, zI 0)]) ⟨rfl, rfl, rfl, rfl, trivial⟩ ?_
  refine zlp_ind (fun (f : Int → Int → zMem → zRs) => ∀ (v1 : Int) (v2 : Int) (u3 : zMem), zSim G p l e R s m args below meth c w 4 (znc u0) (zM w 1 (znc u0) below args s) 4 [(0, zR x0), (1, zI x1), (2, zI v1), (3, zI v2)] [] u3 (f v1 v2 u3)) (fun _ _ _ => znone) (fun k4 hk4 v1 v2 u3 => ?_) _ _ _ _
  refine z_iload_n C (i := 3) (pc' := 5) dX11_bitsOf_4 rfl rfl rfl ?_
  refine z_aload_n C (i := 0) (pc' := 6) dX11_bitsOf_5 rfl rfl rfl ?_
  refine z_getfR C (pc' := 9) flRX11_43 dX11_bitsOf_6 rfl (fun v5 => ?_)
  refine z_iload_n C (i := 1) (pc' := 10) dX11_bitsOf_9 rfl rfl rfl ?_
  refine z_iald C (pc' := 11) dX11_bitsOf_10 rfl (fun v6 => ?_)
  refine z_icmp_ge C (pc' := 36) (pf := 14) dX11_bitsOf_11 rfl rfl (fun _ => ?_) (fun _ => ?_)
  ·
    refine z_iload_n C (i := 2) (pc' := 37) dX11_bitsOf_36 rfl rfl rfl ?_
    exact z_ireturn C dX11_bitsOf_37
  ·
    refine z_iload_n C (i := 2) (pc' := 15) dX11_bitsOf_14 rfl rfl rfl ?_
    refine z_iconst C (pc' := 16) dX11_bitsOf_15 kc_1 rfl ?_
    refine z_aload_n C (i := 0) (pc' := 17) dX11_bitsOf_16 rfl rfl rfl ?_
    refine z_getfR C (pc' := 20) flRX11_46 dX11_bitsOf_17 rfl (fun v7 => ?_)
    refine z_bipush C (pc' := 22) dX11_bitsOf_20 kb_16 rfl ?_
    refine z_iload_n C (i := 1) (pc' := 23) dX11_bitsOf_22 rfl rfl rfl ?_
    refine z_imul C (pc' := 24) dX11_bitsOf_23 rfl ?_
    refine z_iload_n C (i := 3) (pc' := 25) dX11_bitsOf_24 rfl rfl rfl ?_
    refine z_iadd C (pc' := 26) dX11_bitsOf_25 rfl ?_
    refine z_iald C (pc' := 27) dX11_bitsOf_26 rfl (fun v8 => ?_)
    refine z_ishl C (pc' := 28) dX11_bitsOf_27 rfl ?_
    refine z_ior C (pc' := 29) dX11_bitsOf_28 rfl ?_
    refine z_istore_n C (i := 2) (la' := [(2, zI (zor v1 (zshl 1 v8))), (0, zR x0), (1, zI x1), (3, zI v2)]) (pc' := 30) dX11_bitsOf_29 rfl (by decide) rfl rfl ?_
    refine z_iinc C (i := 3) (la' := [(3, zI (zw32 (v2 + 1))), (2, zI (zor v1 (zshl 1 v8))), (0, zR x0), (1, zI x1)]) (pc' := 33) dX11_bitsOf_30 rfl (by decide) rfl rfl ?_
    refine z_goto C (pc' := 4) dX11_bitsOf_33 rfl ?_
    exact zlocs (lb := [(0, zR x0), (1, zI x1), (2, zI (zor v1 (zshl 1 v8))), (3, zI (zw32 (v2 + 1)))]) ⟨rfl, rfl, rfl, rfl, trivial⟩ (hk4 _ _ _)
def fX11_allLong (x0 x1 : Int) (u0 : zMem) : zRs := zlp (fun _ _ _ => none) (fun k4 (v1 : Int) (v2 : Int) (u3 : zMem) => zgf 11 22 x0 u3 (fun v5 => zald 20 v5 x1 u3 (fun v6 => if v2 ≥ v6 then (some (v1, u3)) else (zgf 11 25 x0 u3 (fun v7 => zald 20 v7 (zw32 ((zw32 (16 * x1)) + v2)) u3 (fun v8 => k4 (zw32 (v1 + v8)) (zw32 (v2 + 1)) u3)))))) 1000000 0 0 u0
set_option maxRecDepth 100000 in
set_option maxHeartbeats 4000000 in
theorem rX11_allLong (l : Launch) (w : zW) (x0 x1 : Int) (u0 : zMem) : zSpc l w 1 yX11_allLong cX11_allLong 4 (some .int) 1 [zR x0, zI x1] u0 (fX11_allLong x0 x1 u0) := by
  refine zSpc_of (own := RX11) pnRX11 rfl (Nat.le_of_ble_eq_true rfl) (fun G p e R s m args below meth c C hini => ?_)
  unfold fX11_allLong
  refine zlocs (lb := [(0, zR x0), (1, zI x1)]) ⟨rfl, rfl, trivial⟩ ?_
  refine z_iconst C (pc' := 1) dX11_allLong_0 kc_0 rfl ?_
  refine z_istore_n C (i := 2) (la' := [(2, zI 0), (0, zR x0), (1, zI x1)]) (pc' := 2) dX11_allLong_1 rfl (by decide) rfl rfl ?_
  refine z_iconst C (pc' := 3) dX11_allLong_2 kc_0 rfl ?_
  refine z_istore_n C (i := 3) (la' := [(3, zI 0), (2, zI 0), (0, zR x0), (1, zI x1)]) (pc' := 4) dX11_allLong_3 rfl (by decide) rfl rfl ?_
  refine zlocs (lb := [(0, zR x0), (1, zI x1), (2, zI 0), (3, zI 0)]) ⟨rfl, rfl, rfl, rfl, trivial⟩ ?_
  refine zlp_ind (fun (f : Int → Int → zMem → zRs) => ∀ (v1 : Int) (v2 : Int) (u3 : zMem), zSim G p l e R s m args below meth c w 4 (znc u0) (zM w 1 (znc u0) below args s) 4 [(0, zR x0), (1, zI x1), (2, zI v1), (3, zI v2)] [] u3 (f v1 v2 u3)) (fun _ _ _ => znone) (fun k4 hk4 v1 v2 u3 => ?_) _ _ _ _
  refine z_iload_n C (i := 3) (pc' := 5) dX11_allLong_4 rfl rfl rfl ?_
  refine z_aload_n C (i := 0) (pc' := 6) dX11_allLong_5 rfl rfl rfl ?_
  refine z_getfR C (pc' := 9) flRX11_43 dX11_allLong_6 rfl (fun v5 => ?_)
  refine z_iload_n C (i := 1) (pc' := 10) dX11_allLong_9 rfl rfl rfl ?_
  refine z_iald C (pc' := 11) dX11_allLong_10 rfl (fun v6 => ?_)
  refine z_icmp_ge C (pc' := 34) (pf := 14) dX11_allLong_11 rfl rfl (fun _ => ?_) (fun _ => ?_)
  ·
    refine z_iload_n C (i := 2) (pc' := 35) dX11_allLong_34 rfl rfl rfl ?_
    exact z_ireturn C dX11_allLong_35
  ·
    refine z_iload_n C (i := 2) (pc' := 15) dX11_allLong_14 rfl rfl rfl ?_
    refine z_aload_n C (i := 0) (pc' := 16) dX11_allLong_15 rfl rfl rfl ?_
    refine z_getfR C (pc' := 19) flRX11_52 dX11_allLong_16 rfl (fun v7 => ?_)
    refine z_bipush C (pc' := 21) dX11_allLong_19 kb_16 rfl ?_
    refine z_iload_n C (i := 1) (pc' := 22) dX11_allLong_21 rfl rfl rfl ?_
    refine z_imul C (pc' := 23) dX11_allLong_22 rfl ?_
    refine z_iload_n C (i := 3) (pc' := 24) dX11_allLong_23 rfl rfl rfl ?_
    refine z_iadd C (pc' := 25) dX11_allLong_24 rfl ?_
    refine z_iald C (pc' := 26) dX11_allLong_25 rfl (fun v8 => ?_)
    refine z_iadd C (pc' := 27) dX11_allLong_26 rfl ?_
    refine z_istore_n C (i := 2) (la' := [(2, zI (zw32 (v1 + v8))), (0, zR x0), (1, zI x1), (3, zI v2)]) (pc' := 28) dX11_allLong_27 rfl (by decide) rfl rfl ?_
    refine z_iinc C (i := 3) (la' := [(3, zI (zw32 (v2 + 1))), (2, zI (zw32 (v1 + v8))), (0, zR x0), (1, zI x1)]) (pc' := 31) dX11_allLong_28 rfl (by decide) rfl rfl ?_
    refine z_goto C (pc' := 4) dX11_allLong_31 rfl ?_
    exact zlocs (lb := [(0, zR x0), (1, zI x1), (2, zI (zw32 (v1 + v8))), (3, zI (zw32 (v2 + 1)))]) ⟨rfl, rfl, rfl, rfl, trivial⟩ (hk4 _ _ _)
def fX11_page (x0 x1 x2 : Int) (u0 : zMem) : zRs := zvc 11 x0 (fX11_isPaper x0 x1 u0) (fun v1 u2 => if v1 = 0 then (some ((-2000000000), u2)) else (if x2 ≥ 0 then (if x2 ≥ 100 then (znz 100 (zgf 11 22 x0 u2 (fun v3 => zald 20 v3 x1 u2 (fun v4 => if (zw32 ((zw32 (Int.tdiv x2 100)) - 1)) ≥ v4 then (some ((-2000000000), u2)) else (znz 100 (if (Int.tmod x2 100) ≤ 3 then (znz 100 (if (Int.tmod x2 100) ≠ 0 then (znz 100 (if (Int.tmod x2 100) ≠ 1 then (znz 100 (if (Int.tmod x2 100) ≠ 2 then (zgf 11 26 x0 u2 (fun v5 => zald 22 v5 (zw32 ((zw32 (16 * x1)) + (zw32 ((zw32 (Int.tdiv x2 100)) - 1)))) u2 (fun v6 => if v6 = 0 then (some (0, u2)) else (some (1, u2))))) else (zgf 11 25 x0 u2 (fun v7 => zald 20 v7 (zw32 ((zw32 (16 * x1)) + (zw32 ((zw32 (Int.tdiv x2 100)) - 1)))) u2 (fun v8 => some (v8, u2)))))) else (zgf 11 24 x0 u2 (fun v9 => zald 20 v9 (zw32 ((zw32 (16 * x1)) + (zw32 ((zw32 (Int.tdiv x2 100)) - 1)))) u2 (fun v10 => some (v10, u2)))))) else (zgf 11 23 x0 u2 (fun v11 => zald 20 v11 (zw32 ((zw32 (16 * x1)) + (zw32 ((zw32 (Int.tdiv x2 100)) - 1)))) u2 (fun v12 => some (v12, u2)))))) else (some ((-2000000000), u2)))))))) else (if x2 ≠ 0 then (if x2 ≠ 1 then (if x2 ≠ 2 then (if x2 ≠ 3 then (some ((-2000000000), u2)) else (zvc 11 x0 (fX11_allLong x0 x1 u2) (fun v13 u14 => some (v13, u14)))) else (zvc 11 x0 (fX11_bitsOf x0 x1 u2) (fun v15 u16 => some (v15, u16)))) else (zgf 11 21 x0 u2 (fun v17 => zald 20 v17 x1 u2 (fun v18 => some (v18, u2))))) else (zgf 11 22 x0 u2 (fun v19 => zald 20 v19 x1 u2 (fun v20 => some (v20, u2)))))) else (some ((-2000000000), u2))))
set_option maxRecDepth 100000 in
set_option maxHeartbeats 4000000 in
theorem rX11_page (l : Launch) (w : zW) (x0 x1 x2 : Int) (u0 : zMem) : zSpc l w 3 yX11_page cX11_page 5 (some .int) 1 [zR x0, zI x1, zI x2] u0 (fX11_page x0 x1 x2 u0) := by
  refine zSpc_of (own := RX11) pnRX11 rfl (Nat.le_of_ble_eq_true rfl) (fun G p e R s m args below meth c C hini => ?_)
  unfold fX11_page
  refine zlocs (lb := [(0, zR x0), (1, zI x1), (2, zI x2)]) ⟨rfl, rfl, rfl, trivial⟩ ?_
  refine z_aload_n C (i := 0) (pc' := 1) dX11_page_0 rfl rfl rfl ?_
  refine z_iload_n C (i := 1) (pc' := 2) dX11_page_1 rfl rfl rfl ?_
  refine z_callV1 C (pc' := 5) lvRX11_219 lc_X11_isPaper rfl dX11_page_2 rfl (by decide) (rX11_isPaper l w x0 x1 u0) rfl (Nat.le_of_ble_eq_true rfl) (fun v1 u2 => ?_)
  refine z_if_eq C (pc' := 12) (pf := 8) dX11_page_5 rfl rfl (fun _ => ?_) (fun _ => ?_)
  ·
    refine z_ldc C (pc' := 14) dX11_page_12 wcRX11_228 ki_m2000000000 rfl ?_
    exact z_ireturn C dX11_page_14
  ·
    refine z_iload_n C (i := 2) (pc' := 9) dX11_page_8 rfl rfl rfl ?_
    refine z_if_ge C (pc' := 15) (pf := 12) dX11_page_9 rfl rfl (fun _ => ?_) (fun _ => ?_)
    ·
      refine z_iload_n C (i := 2) (pc' := 16) dX11_page_15 rfl rfl rfl ?_
      refine z_bipush C (pc' := 18) dX11_page_16 kb_100 rfl ?_
      refine z_icmp_ge C (pc' := 77) (pf := 21) dX11_page_18 rfl rfl (fun _ => ?_) (fun _ => ?_)
      ·
        refine z_iload_n C (i := 2) (pc' := 78) dX11_page_77 rfl rfl rfl ?_
        refine z_bipush C (pc' := 80) dX11_page_78 kb_100 rfl ?_
        refine z_idiv C (pc' := 81) dX11_page_80 rfl (fun _ => ?_)
        refine z_iconst C (pc' := 82) dX11_page_81 kc_1 rfl ?_
        refine z_isub C (pc' := 83) dX11_page_82 rfl ?_
        refine z_istore_n C (i := 3) (la' := [(3, zI (zw32 ((zw32 (Int.tdiv x2 100)) - 1))), (0, zR x0), (1, zI x1), (2, zI x2)]) (pc' := 84) dX11_page_83 rfl (by decide) rfl rfl ?_
        refine z_iload_n C (i := 3) (pc' := 85) dX11_page_84 rfl rfl rfl ?_
        refine z_aload_n C (i := 0) (pc' := 86) dX11_page_85 rfl rfl rfl ?_
        refine z_getfR C (pc' := 89) flRX11_43 dX11_page_86 rfl (fun v3 => ?_)
        refine z_iload_n C (i := 1) (pc' := 90) dX11_page_89 rfl rfl rfl ?_
        refine z_iald C (pc' := 91) dX11_page_90 rfl (fun v4 => ?_)
        refine z_icmp_ge C (pc' := 102) (pf := 94) dX11_page_91 rfl rfl (fun _ => ?_) (fun _ => ?_)
        ·
          refine z_ldc C (pc' := 104) dX11_page_102 wcRX11_228 ki_m2000000000 rfl ?_
          exact z_ireturn C dX11_page_104
        ·
          refine z_iload_n C (i := 2) (pc' := 95) dX11_page_94 rfl rfl rfl ?_
          refine z_bipush C (pc' := 97) dX11_page_95 kb_100 rfl ?_
          refine z_irem C (pc' := 98) dX11_page_97 rfl (fun _ => ?_)
          refine z_iconst C (pc' := 99) dX11_page_98 kc_3 rfl ?_
          refine z_icmp_le C (pc' := 105) (pf := 102) dX11_page_99 rfl rfl (fun _ => ?_) (fun _ => ?_)
          ·
            refine z_bipush C (pc' := 107) dX11_page_105 kb_16 rfl ?_
            refine z_iload_n C (i := 1) (pc' := 108) dX11_page_107 rfl rfl rfl ?_
            refine z_imul C (pc' := 109) dX11_page_108 rfl ?_
            refine z_iload_n C (i := 3) (pc' := 110) dX11_page_109 rfl rfl rfl ?_
            refine z_iadd C (pc' := 111) dX11_page_110 rfl ?_
            refine z_istore C (i := 4) (la' := [(4, zI (zw32 ((zw32 (16 * x1)) + (zw32 ((zw32 (Int.tdiv x2 100)) - 1))))), (3, zI (zw32 ((zw32 (Int.tdiv x2 100)) - 1))), (0, zR x0), (1, zI x1), (2, zI x2)]) (pc' := 113) dX11_page_111 (by decide) rfl rfl ?_
            refine z_iload_n C (i := 2) (pc' := 114) dX11_page_113 rfl rfl rfl ?_
            refine z_bipush C (pc' := 116) dX11_page_114 kb_100 rfl ?_
            refine z_irem C (pc' := 117) dX11_page_116 rfl (fun _ => ?_)
            refine z_if_ne C (pc' := 130) (pf := 120) dX11_page_117 rfl rfl (fun _ => ?_) (fun _ => ?_)
            ·
              refine z_iload_n C (i := 2) (pc' := 131) dX11_page_130 rfl rfl rfl ?_
              refine z_bipush C (pc' := 133) dX11_page_131 kb_100 rfl ?_
              refine z_irem C (pc' := 134) dX11_page_133 rfl (fun _ => ?_)
              refine z_iconst C (pc' := 135) dX11_page_134 kc_1 rfl ?_
              refine z_icmp_ne C (pc' := 148) (pf := 138) dX11_page_135 rfl rfl (fun _ => ?_) (fun _ => ?_)
              ·
                refine z_iload_n C (i := 2) (pc' := 149) dX11_page_148 rfl rfl rfl ?_
                refine z_bipush C (pc' := 151) dX11_page_149 kb_100 rfl ?_
                refine z_irem C (pc' := 152) dX11_page_151 rfl (fun _ => ?_)
                refine z_iconst C (pc' := 153) dX11_page_152 kc_2 rfl ?_
                refine z_icmp_ne C (pc' := 166) (pf := 156) dX11_page_153 rfl rfl (fun _ => ?_) (fun _ => ?_)
                ·
                  refine z_aload_n C (i := 0) (pc' := 167) dX11_page_166 rfl rfl rfl ?_
                  refine z_getfR C (pc' := 170) flRX11_55 dX11_page_167 rfl (fun v5 => ?_)
                  refine z_iload C (pc' := 172) dX11_page_170 rfl rfl ?_
                  refine z_zald C (pc' := 173) dX11_page_172 rfl (fun v6 => ?_)
                  refine z_if_eq C (pc' := 180) (pf := 176) dX11_page_173 rfl rfl (fun _ => ?_) (fun _ => ?_)
                  ·
                    refine z_iconst C (pc' := 181) dX11_page_180 kc_0 rfl ?_
                    exact z_ireturn C dX11_page_181
                  ·
                    refine z_iconst C (pc' := 177) dX11_page_176 kc_1 rfl ?_
                    refine z_goto C (pc' := 181) dX11_page_177 rfl ?_
                    exact z_ireturn C dX11_page_181
                ·
                  refine z_aload_n C (i := 0) (pc' := 157) dX11_page_156 rfl rfl rfl ?_
                  refine z_getfR C (pc' := 160) flRX11_52 dX11_page_157 rfl (fun v7 => ?_)
                  refine z_iload C (pc' := 162) dX11_page_160 rfl rfl ?_
                  refine z_iald C (pc' := 163) dX11_page_162 rfl (fun v8 => ?_)
                  refine z_goto C (pc' := 181) dX11_page_163 rfl ?_
                  exact z_ireturn C dX11_page_181
              ·
                refine z_aload_n C (i := 0) (pc' := 139) dX11_page_138 rfl rfl rfl ?_
                refine z_getfR C (pc' := 142) flRX11_49 dX11_page_139 rfl (fun v9 => ?_)
                refine z_iload C (pc' := 144) dX11_page_142 rfl rfl ?_
                refine z_iald C (pc' := 145) dX11_page_144 rfl (fun v10 => ?_)
                refine z_goto C (pc' := 181) dX11_page_145 rfl ?_
                exact z_ireturn C dX11_page_181
            ·
              refine z_aload_n C (i := 0) (pc' := 121) dX11_page_120 rfl rfl rfl ?_
              refine z_getfR C (pc' := 124) flRX11_46 dX11_page_121 rfl (fun v11 => ?_)
              refine z_iload C (pc' := 126) dX11_page_124 rfl rfl ?_
              refine z_iald C (pc' := 127) dX11_page_126 rfl (fun v12 => ?_)
              refine z_goto C (pc' := 181) dX11_page_127 rfl ?_
              exact z_ireturn C dX11_page_181
          ·
            refine z_ldc C (pc' := 104) dX11_page_102 wcRX11_228 ki_m2000000000 rfl ?_
            exact z_ireturn C dX11_page_104
      ·
        refine z_iload_n C (i := 2) (pc' := 22) dX11_page_21 rfl rfl rfl ?_
        refine z_if_ne C (pc' := 34) (pf := 25) dX11_page_22 rfl rfl (fun _ => ?_) (fun _ => ?_)
        ·
          refine z_iload_n C (i := 2) (pc' := 35) dX11_page_34 rfl rfl rfl ?_
          refine z_iconst C (pc' := 36) dX11_page_35 kc_1 rfl ?_
          refine z_icmp_ne C (pc' := 48) (pf := 39) dX11_page_36 rfl rfl (fun _ => ?_) (fun _ => ?_)
          ·
            refine z_iload_n C (i := 2) (pc' := 49) dX11_page_48 rfl rfl rfl ?_
            refine z_iconst C (pc' := 50) dX11_page_49 kc_2 rfl ?_
            refine z_icmp_ne C (pc' := 61) (pf := 53) dX11_page_50 rfl rfl (fun _ => ?_) (fun _ => ?_)
            ·
              refine z_iload_n C (i := 2) (pc' := 62) dX11_page_61 rfl rfl rfl ?_
              refine z_iconst C (pc' := 63) dX11_page_62 kc_3 rfl ?_
              refine z_icmp_ne C (pc' := 74) (pf := 66) dX11_page_63 rfl rfl (fun _ => ?_) (fun _ => ?_)
              ·
                refine z_ldc C (pc' := 76) dX11_page_74 wcRX11_228 ki_m2000000000 rfl ?_
                exact z_ireturn C dX11_page_76
              ·
                refine z_aload_n C (i := 0) (pc' := 67) dX11_page_66 rfl rfl rfl ?_
                refine z_iload_n C (i := 1) (pc' := 68) dX11_page_67 rfl rfl rfl ?_
                refine z_callV1 C (pc' := 71) lvRX11_232 lc_X11_allLong rfl dX11_page_68 rfl (by decide) (rX11_allLong l w x0 x1 u2) rfl (Nat.le_of_ble_eq_true rfl) (fun v13 u14 => ?_)
                refine z_goto C (pc' := 76) dX11_page_71 rfl ?_
                exact z_ireturn C dX11_page_76
            ·
              refine z_aload_n C (i := 0) (pc' := 54) dX11_page_53 rfl rfl rfl ?_
              refine z_iload_n C (i := 1) (pc' := 55) dX11_page_54 rfl rfl rfl ?_
              refine z_callV1 C (pc' := 58) lvRX11_229 lc_X11_bitsOf rfl dX11_page_55 rfl (by decide) (rX11_bitsOf l w x0 x1 u2) rfl (Nat.le_of_ble_eq_true rfl) (fun v15 u16 => ?_)
              refine z_goto C (pc' := 76) dX11_page_58 rfl ?_
              exact z_ireturn C dX11_page_76
          ·
            refine z_aload_n C (i := 0) (pc' := 40) dX11_page_39 rfl rfl rfl ?_
            refine z_getfR C (pc' := 43) flRX11_40 dX11_page_40 rfl (fun v17 => ?_)
            refine z_iload_n C (i := 1) (pc' := 44) dX11_page_43 rfl rfl rfl ?_
            refine z_iald C (pc' := 45) dX11_page_44 rfl (fun v18 => ?_)
            refine z_goto C (pc' := 76) dX11_page_45 rfl ?_
            exact z_ireturn C dX11_page_76
        ·
          refine z_aload_n C (i := 0) (pc' := 26) dX11_page_25 rfl rfl rfl ?_
          refine z_getfR C (pc' := 29) flRX11_43 dX11_page_26 rfl (fun v19 => ?_)
          refine z_iload_n C (i := 1) (pc' := 30) dX11_page_29 rfl rfl rfl ?_
          refine z_iald C (pc' := 31) dX11_page_30 rfl (fun v20 => ?_)
          refine z_goto C (pc' := 76) dX11_page_31 rfl ?_
          exact z_ireturn C dX11_page_76
    ·
      refine z_ldc C (pc' := 14) dX11_page_12 wcRX11_228 ki_m2000000000 rfl ?_
      exact z_ireturn C dX11_page_14
def fX11_led (x0 x1 x2 : Int) (u0 : zMem) : zRs := zvc 11 x0 (fX11_isPaper x0 x1 u0) (fun v1 u2 => if v1 = 0 then (some ((-1), u2)) else (zvc 11 x0 (fX11_isSaying x0 x2 u2) (fun v3 u4 => if v3 ≠ 0 then (zvc 11 x0 (fX11_has x0 x1 x2 u4) (fun v5 u6 => if v5 = 0 then (some ((-2), u6)) else (zvc 11 x0 (fX11_placeOf x0 x1 x2 u6) (fun v7 u8 => some (v7, u8))))) else (some ((-1), u4)))))
set_option maxRecDepth 100000 in
set_option maxHeartbeats 4000000 in
theorem rX11_led (l : Launch) (w : zW) (x0 x1 x2 : Int) (u0 : zMem) : zSpc l w 3 yX11_led cX11_led 3 (some .int) 1 [zR x0, zI x1, zI x2] u0 (fX11_led x0 x1 x2 u0) := by
  refine zSpc_of (own := RX11) pnRX11 rfl (Nat.le_of_ble_eq_true rfl) (fun G p e R s m args below meth c C hini => ?_)
  unfold fX11_led
  refine zlocs (lb := [(0, zR x0), (1, zI x1), (2, zI x2)]) ⟨rfl, rfl, rfl, trivial⟩ ?_
  refine z_aload_n C (i := 0) (pc' := 1) dX11_led_0 rfl rfl rfl ?_
  refine z_iload_n C (i := 1) (pc' := 2) dX11_led_1 rfl rfl rfl ?_
  refine z_callV1 C (pc' := 5) lvRX11_219 lc_X11_isPaper rfl dX11_led_2 rfl (by decide) (rX11_isPaper l w x0 x1 u0) rfl (Nat.le_of_ble_eq_true rfl) (fun v1 u2 => ?_)
  refine z_if_eq C (pc' := 16) (pf := 8) dX11_led_5 rfl rfl (fun _ => ?_) (fun _ => ?_)
  ·
    refine z_iconst C (pc' := 17) dX11_led_16 kc_m1 rfl ?_
    exact z_ireturn C dX11_led_17
  ·
    refine z_aload_n C (i := 0) (pc' := 9) dX11_led_8 rfl rfl rfl ?_
    refine z_iload_n C (i := 2) (pc' := 10) dX11_led_9 rfl rfl rfl ?_
    refine z_callV1 C (pc' := 13) lvRX11_114 lc_X11_isSaying rfl dX11_led_10 rfl (by decide) (rX11_isSaying l w x0 x2 u2) rfl (Nat.le_of_ble_eq_true rfl) (fun v3 u4 => ?_)
    refine z_if_ne C (pc' := 18) (pf := 16) dX11_led_13 rfl rfl (fun _ => ?_) (fun _ => ?_)
    ·
      refine z_aload_n C (i := 0) (pc' := 19) dX11_led_18 rfl rfl rfl ?_
      refine z_iload_n C (i := 1) (pc' := 20) dX11_led_19 rfl rfl rfl ?_
      refine z_iload_n C (i := 2) (pc' := 21) dX11_led_20 rfl rfl rfl ?_
      refine z_callV1 C (pc' := 24) lvRX11_222 lc_X11_has rfl dX11_led_21 rfl (by decide) (rX11_has l w x0 x1 x2 u4) rfl (Nat.le_of_ble_eq_true rfl) (fun v5 u6 => ?_)
      refine z_if_eq C (pc' := 36) (pf := 27) dX11_led_24 rfl rfl (fun _ => ?_) (fun _ => ?_)
      ·
        refine z_bipush C (pc' := 38) dX11_led_36 kb_m2 rfl ?_
        exact z_ireturn C dX11_led_38
      ·
        refine z_aload_n C (i := 0) (pc' := 28) dX11_led_27 rfl rfl rfl ?_
        refine z_iload_n C (i := 1) (pc' := 29) dX11_led_28 rfl rfl rfl ?_
        refine z_iload_n C (i := 2) (pc' := 30) dX11_led_29 rfl rfl rfl ?_
        refine z_callV1 C (pc' := 33) lvRX11_216 lc_X11_placeOf rfl dX11_led_30 rfl (by decide) (rX11_placeOf l w x0 x1 x2 u6) rfl (Nat.le_of_ble_eq_true rfl) (fun v7 u8 => ?_)
        refine z_goto C (pc' := 38) dX11_led_33 rfl ?_
        exact z_ireturn C dX11_led_38
    ·
      refine z_iconst C (pc' := 17) dX11_led_16 kc_m1 rfl ?_
      exact z_ireturn C dX11_led_17
def fX11_hadBy (x0 x1 : Int) (u0 : zMem) : zRs := zlp (fun _ _ _ => none) (fun k4 (v1 : Int) (v2 : Int) (u3 : zMem) => zgf 11 20 x0 u3 (fun v5 => if v2 ≥ v5 then (some (v1, u3)) else (zvc 11 x0 (fX11_has x0 v2 x1 u3) (fun v6 u7 => zjn (fun (v8 : Int) (u9 : zMem) => k4 (zw32 (v1 + v8)) (zw32 (v2 + 1)) u9) (fun k10 => if v6 = 0 then (k10 0 u7) else (k10 1 u7)))))) 1000000 0 0 u0
set_option maxRecDepth 100000 in
set_option maxHeartbeats 4000000 in
theorem rX11_hadBy (l : Launch) (w : zW) (x0 x1 : Int) (u0 : zMem) : zSpc l w 3 yX11_hadBy cX11_hadBy 4 (some .int) 1 [zR x0, zI x1] u0 (fX11_hadBy x0 x1 u0) := by
  refine zSpc_of (own := RX11) pnRX11 rfl (Nat.le_of_ble_eq_true rfl) (fun G p e R s m args below meth c C hini => ?_)
  unfold fX11_hadBy
  refine zlocs (lb := [(0, zR x0), (1, zI x1)]) ⟨rfl, rfl, trivial⟩ ?_
  refine z_iconst C (pc' := 1) dX11_hadBy_0 kc_0 rfl ?_
  refine z_istore_n C (i := 2) (la' := [(2, zI 0), (0, zR x0), (1, zI x1)]) (pc' := 2) dX11_hadBy_1 rfl (by decide) rfl rfl ?_
  refine z_iconst C (pc' := 3) dX11_hadBy_2 kc_0 rfl ?_
  refine z_istore_n C (i := 3) (la' := [(3, zI 0), (2, zI 0), (0, zR x0), (1, zI x1)]) (pc' := 4) dX11_hadBy_3 rfl (by decide) rfl rfl ?_
  refine zlocs (lb := [(0, zR x0), (1, zI x1), (2, zI 0), (3, zI 0)]) ⟨rfl, rfl, rfl, rfl, trivial⟩ ?_
  refine zlp_ind (fun (f : Int → Int → zMem → zRs) => ∀ (v1 : Int) (v2 : Int) (u3 : zMem), zSim G p l e R s m args below meth c w 4 (znc u0) (zM w 1 (znc u0) below args s) 4 [(0, zR x0), (1, zI x1), (2, zI v1), (3, zI v2)] [] u3 (f v1 v2 u3)) (fun _ _ _ => znone) (fun k4 hk4 v1 v2 u3 => ?_) _ _ _ _
  refine z_iload_n C (i := 3) (pc' := 5) dX11_hadBy_4 rfl rfl rfl ?_
  refine z_aload_n C (i := 0) (pc' := 6) dX11_hadBy_5 rfl rfl rfl ?_
  refine z_getf C (pc' := 9) flRX11_190 dX11_hadBy_6 rfl (fun v5 => ?_)
  refine z_icmp_ge C (pc' := 35) (pf := 12) dX11_hadBy_9 rfl rfl (fun _ => ?_) (fun _ => ?_)
  ·
    refine z_iload_n C (i := 2) (pc' := 36) dX11_hadBy_35 rfl rfl rfl ?_
    exact z_ireturn C dX11_hadBy_36
  ·
    refine z_iload_n C (i := 2) (pc' := 13) dX11_hadBy_12 rfl rfl rfl ?_
    refine z_aload_n C (i := 0) (pc' := 14) dX11_hadBy_13 rfl rfl rfl ?_
    refine z_iload_n C (i := 3) (pc' := 15) dX11_hadBy_14 rfl rfl rfl ?_
    refine z_iload_n C (i := 1) (pc' := 16) dX11_hadBy_15 rfl rfl rfl ?_
    refine z_callV1 C (pc' := 19) lvRX11_222 lc_X11_has rfl dX11_hadBy_16 rfl (by decide) (rX11_has l w x0 v2 x1 u3) rfl (Nat.le_of_ble_eq_true rfl) (fun v6 u7 => ?_)
    refine zjoin (P := fun (f : Int → zMem → zRs) => ∀ (v8 : Int) (u9 : zMem), zSim G p l e R s m args below meth c w 4 (znc u0) (zM w 1 (znc u0) below args s) 27 [(0, zR x0), (1, zI x1), (3, zI v2)] [zI v8, zI v1] u9 (f v8 u9)) (fun v8 u9 => ?_) (fun k10 hk10 => ?_)
    ·
      refine z_iadd C (pc' := 28) dX11_hadBy_27 rfl ?_
      refine z_istore_n C (i := 2) (la' := [(2, zI (zw32 (v1 + v8))), (0, zR x0), (1, zI x1), (3, zI v2)]) (pc' := 29) dX11_hadBy_28 rfl (by decide) rfl rfl ?_
      refine z_iinc C (i := 3) (la' := [(3, zI (zw32 (v2 + 1))), (2, zI (zw32 (v1 + v8))), (0, zR x0), (1, zI x1)]) (pc' := 32) dX11_hadBy_29 rfl (by decide) rfl rfl ?_
      refine z_goto C (pc' := 4) dX11_hadBy_32 rfl ?_
      exact zlocs (lb := [(0, zR x0), (1, zI x1), (2, zI (zw32 (v1 + v8))), (3, zI (zw32 (v2 + 1)))]) ⟨rfl, rfl, rfl, rfl, trivial⟩ (hk4 _ _ _)
    ·
      refine z_if_eq C (pc' := 26) (pf := 22) dX11_hadBy_19 rfl rfl (fun _ => ?_) (fun _ => ?_)
      ·
        refine z_iconst C (pc' := 27) dX11_hadBy_26 kc_0 rfl ?_
        exact zlocs (lb := [(0, zR x0), (1, zI x1), (3, zI v2)]) ⟨rfl, rfl, rfl, trivial⟩ (hk10 _ _)
      ·
        refine z_iconst C (pc' := 23) dX11_hadBy_22 kc_1 rfl ?_
        refine z_goto C (pc' := 27) dX11_hadBy_23 rfl ?_
        exact zlocs (lb := [(0, zR x0), (1, zI x1), (3, zI v2)]) ⟨rfl, rfl, rfl, trivial⟩ (hk10 _ _)
def fX11_sure (x0 x1 x2 : Int) (u0 : zMem) : zRs := zvc 11 x0 (fX11_isSaying x0 x1 u0) (fun v1 u2 => if v1 = 0 then (some ((-1), u2)) else (zcall (fX11_within x2 0 1 u2) (fun v3 u4 => if v3 ≠ 0 then (zlp (fun _ _ _ => none) (fun k8 (v5 : Int) (v6 : Int) (u7 : zMem) => zgf 11 20 x0 u7 (fun v9 => if v6 ≥ v9 then (zlp (fun _ _ _ => none) (fun k13 (v10 : Int) (v11 : Int) (u12 : zMem) => zgf 11 9 x0 u12 (fun v14 => if v11 ≥ v14 then (if x2 ≠ 0 then (some (v10, u12)) else (zvc 11 x0 (fX11_hadBy x0 x1 u12) (fun v15 u16 => some (v15, u16)))) else (k13 (zw32 (v10 + (zand (zshr v5 v11) 1))) (zw32 (v11 + 1)) u12))) 1000000 0 0 u7) else (zgf 11 21 x0 u7 (fun v17 => zald 20 v17 v6 u7 (fun v18 => zjn (fun (v19 : Int) (u20 : zMem) => k8 (zor v5 v19) (zw32 (v6 + 1)) u20) (fun k21 => zjn (fun (u22 : zMem) => k21 0 u22) (fun k23 => if v18 < 0 then (k23 u7) else (zvc 11 x0 (fX11_has x0 v6 x1 u7) (fun v24 u25 => if v24 = 0 then (k23 u25) else (zgf 11 21 x0 u25 (fun v26 => zald 20 v26 v6 u25 (fun v27 => k21 (zshl 1 v27) u25)))))))))))) 1000000 0 0 u4) else (some ((-1), u4)))))
set_option maxRecDepth 100000 in
set_option maxHeartbeats 4000000 in
theorem rX11_sure (l : Launch) (w : zW) (x0 x1 x2 : Int) (u0 : zMem) : zSpc l w 4 yX11_sure cX11_sure 6 (some .int) 1 [zR x0, zI x1, zI x2] u0 (fX11_sure x0 x1 x2 u0) := by
  refine zSpc_of (own := RX11) pnRX11 rfl (Nat.le_of_ble_eq_true rfl) (fun G p e R s m args below meth c C hini => ?_)
  unfold fX11_sure
  refine zlocs (lb := [(0, zR x0), (1, zI x1), (2, zI x2)]) ⟨rfl, rfl, rfl, trivial⟩ ?_
  refine z_aload_n C (i := 0) (pc' := 1) dX11_sure_0 rfl rfl rfl ?_
  refine z_iload_n C (i := 1) (pc' := 2) dX11_sure_1 rfl rfl rfl ?_
  refine z_callV1 C (pc' := 5) lvRX11_114 lc_X11_isSaying rfl dX11_sure_2 rfl (by decide) (rX11_isSaying l w x0 x1 u0) rfl (Nat.le_of_ble_eq_true rfl) (fun v1 u2 => ?_)
  refine z_if_eq C (pc' := 18) (pf := 8) dX11_sure_5 rfl rfl (fun _ => ?_) (fun _ => ?_)
  ·
    refine z_iconst C (pc' := 19) dX11_sure_18 kc_m1 rfl ?_
    exact z_ireturn C dX11_sure_19
  ·
    refine z_iload_n C (i := 2) (pc' := 9) dX11_sure_8 rfl rfl rfl ?_
    refine z_i2l C (pc' := 10) dX11_sure_9 rfl ?_
    refine z_lconst C (pc' := 11) dX11_sure_10 kl_0 rfl ?_
    refine z_lconst C (pc' := 12) dX11_sure_11 kl_1 rfl ?_
    refine z_callS1 C (pc' := 15) lsRX11_88 lc_X11_within rfl dX11_sure_12 rfl (by decide) (rX11_within l w x2 0 1 u2) rfl (Nat.le_of_ble_eq_true rfl) (fun v3 u4 => ?_)
    refine z_if_ne C (pc' := 20) (pf := 18) dX11_sure_15 rfl rfl (fun _ => ?_) (fun _ => ?_)
    ·
      refine z_iconst C (pc' := 21) dX11_sure_20 kc_0 rfl ?_
      refine z_istore_n C (i := 3) (la' := [(3, zI 0), (0, zR x0), (1, zI x1), (2, zI x2)]) (pc' := 22) dX11_sure_21 rfl (by decide) rfl rfl ?_
      refine z_iconst C (pc' := 23) dX11_sure_22 kc_0 rfl ?_
      refine z_istore C (i := 4) (la' := [(4, zI 0), (3, zI 0), (0, zR x0), (1, zI x1), (2, zI x2)]) (pc' := 25) dX11_sure_23 (by decide) rfl rfl ?_
      refine zlocs (lb := [(0, zR x0), (1, zI x1), (2, zI x2), (3, zI 0), (4, zI 0)]) ⟨rfl, rfl, rfl, rfl, rfl, trivial⟩ ?_
      refine zlp_ind (fun (f : Int → Int → zMem → zRs) => ∀ (v5 : Int) (v6 : Int) (u7 : zMem), zSim G p l e R s m args below meth c w 6 (znc u0) (zM w 1 (znc u0) below args s) 25 [(0, zR x0), (1, zI x1), (2, zI x2), (3, zI v5), (4, zI v6)] [] u7 (f v5 v6 u7)) (fun _ _ _ => znone) (fun k8 hk8 v5 v6 u7 => ?_) _ _ _ _
      refine z_iload C (pc' := 27) dX11_sure_25 rfl rfl ?_
      refine z_aload_n C (i := 0) (pc' := 28) dX11_sure_27 rfl rfl rfl ?_
      refine z_getf C (pc' := 31) flRX11_190 dX11_sure_28 rfl (fun v9 => ?_)
      refine z_icmp_ge C (pc' := 76) (pf := 34) dX11_sure_31 rfl rfl (fun _ => ?_) (fun _ => ?_)
      ·
        refine z_iconst C (pc' := 77) dX11_sure_76 kc_0 rfl ?_
        refine z_istore C (i := 4) (la' := [(4, zI 0), (0, zR x0), (1, zI x1), (2, zI x2), (3, zI v5)]) (pc' := 79) dX11_sure_77 (by decide) rfl rfl ?_
        refine z_iconst C (pc' := 80) dX11_sure_79 kc_0 rfl ?_
        refine z_istore C (i := 5) (la' := [(5, zI 0), (4, zI 0), (0, zR x0), (1, zI x1), (2, zI x2), (3, zI v5)]) (pc' := 82) dX11_sure_80 (by decide) rfl rfl ?_
        refine zlocs (lb := [(0, zR x0), (1, zI x1), (2, zI x2), (3, zI v5), (4, zI 0), (5, zI 0)]) ⟨rfl, rfl, rfl, rfl, rfl, rfl, trivial⟩ ?_
        refine zlp_ind (fun (f : Int → Int → zMem → zRs) => ∀ (v10 : Int) (v11 : Int) (u12 : zMem), zSim G p l e R s m args below meth c w 6 (znc u0) (zM w 1 (znc u0) below args s) 82 [(0, zR x0), (1, zI x1), (2, zI x2), (3, zI v5), (4, zI v10), (5, zI v11)] [] u12 (f v10 v11 u12)) (fun _ _ _ => znone) (fun k13 hk13 v10 v11 u12 => ?_) _ _ _ _
        refine z_iload C (pc' := 84) dX11_sure_82 rfl rfl ?_
        refine z_aload_n C (i := 0) (pc' := 85) dX11_sure_84 rfl rfl rfl ?_
        refine z_getf C (pc' := 88) flRX11_127 dX11_sure_85 rfl (fun v14 => ?_)
        refine z_icmp_ge C (pc' := 108) (pf := 91) dX11_sure_88 rfl rfl (fun _ => ?_) (fun _ => ?_)
        ·
          refine z_iload_n C (i := 2) (pc' := 109) dX11_sure_108 rfl rfl rfl ?_
          refine z_if_ne C (pc' := 120) (pf := 112) dX11_sure_109 rfl rfl (fun _ => ?_) (fun _ => ?_)
          ·
            refine z_iload C (pc' := 122) dX11_sure_120 rfl rfl ?_
            exact z_ireturn C dX11_sure_122
          ·
            refine z_aload_n C (i := 0) (pc' := 113) dX11_sure_112 rfl rfl rfl ?_
            refine z_iload_n C (i := 1) (pc' := 114) dX11_sure_113 rfl rfl rfl ?_
            refine z_callV1 C (pc' := 117) lvRX11_235 lc_X11_hadBy rfl dX11_sure_114 rfl (by decide) (rX11_hadBy l w x0 x1 u12) rfl (Nat.le_of_ble_eq_true rfl) (fun v15 u16 => ?_)
            refine z_goto C (pc' := 122) dX11_sure_117 rfl ?_
            exact z_ireturn C dX11_sure_122
        ·
          refine z_iload C (pc' := 93) dX11_sure_91 rfl rfl ?_
          refine z_iload_n C (i := 3) (pc' := 94) dX11_sure_93 rfl rfl rfl ?_
          refine z_iload C (pc' := 96) dX11_sure_94 rfl rfl ?_
          refine z_ishr C (pc' := 97) dX11_sure_96 rfl ?_
          refine z_iconst C (pc' := 98) dX11_sure_97 kc_1 rfl ?_
          refine z_iand C (pc' := 99) dX11_sure_98 rfl ?_
          refine z_iadd C (pc' := 100) dX11_sure_99 rfl ?_
          refine z_istore C (i := 4) (la' := [(4, zI (zw32 (v10 + (zand (zshr v5 v11) 1)))), (0, zR x0), (1, zI x1), (2, zI x2), (3, zI v5), (5, zI v11)]) (pc' := 102) dX11_sure_100 (by decide) rfl rfl ?_
          refine z_iinc C (i := 5) (la' := [(5, zI (zw32 (v11 + 1))), (4, zI (zw32 (v10 + (zand (zshr v5 v11) 1)))), (0, zR x0), (1, zI x1), (2, zI x2), (3, zI v5)]) (pc' := 105) dX11_sure_102 rfl (by decide) rfl rfl ?_
          refine z_goto C (pc' := 82) dX11_sure_105 rfl ?_
          exact zlocs (lb := [(0, zR x0), (1, zI x1), (2, zI x2), (3, zI v5), (4, zI (zw32 (v10 + (zand (zshr v5 v11) 1)))), (5, zI (zw32 (v11 + 1)))]) ⟨rfl, rfl, rfl, rfl, rfl, rfl, trivial⟩ (hk13 _ _ _)
      ·
        refine z_iload_n C (i := 3) (pc' := 35) dX11_sure_34 rfl rfl rfl ?_
        refine z_aload_n C (i := 0) (pc' := 36) dX11_sure_35 rfl rfl rfl ?_
        refine z_getfR C (pc' := 39) flRX11_40 dX11_sure_36 rfl (fun v17 => ?_)
        refine z_iload C (pc' := 41) dX11_sure_39 rfl rfl ?_
        refine z_iald C (pc' := 42) dX11_sure_41 rfl (fun v18 => ?_)
        refine zjoin (P := fun (f : Int → zMem → zRs) => ∀ (v19 : Int) (u20 : zMem), zSim G p l e R s m args below meth c w 6 (znc u0) (zM w 1 (znc u0) below args s) 68 [(0, zR x0), (1, zI x1), (2, zI x2), (4, zI v6)] [zI v19, zI v5] u20 (f v19 u20)) (fun v19 u20 => ?_) (fun k21 hk21 => ?_)
        ·
          refine z_ior C (pc' := 69) dX11_sure_68 rfl ?_
          refine z_istore_n C (i := 3) (la' := [(3, zI (zor v5 v19)), (0, zR x0), (1, zI x1), (2, zI x2), (4, zI v6)]) (pc' := 70) dX11_sure_69 rfl (by decide) rfl rfl ?_
          refine z_iinc C (i := 4) (la' := [(4, zI (zw32 (v6 + 1))), (3, zI (zor v5 v19)), (0, zR x0), (1, zI x1), (2, zI x2)]) (pc' := 73) dX11_sure_70 rfl (by decide) rfl rfl ?_
          refine z_goto C (pc' := 25) dX11_sure_73 rfl ?_
          exact zlocs (lb := [(0, zR x0), (1, zI x1), (2, zI x2), (3, zI (zor v5 v19)), (4, zI (zw32 (v6 + 1)))]) ⟨rfl, rfl, rfl, rfl, rfl, trivial⟩ (hk8 _ _ _)
        ·
          refine zjoin (P := fun (f : zMem → zRs) => ∀ (u22 : zMem), zSim G p l e R s m args below meth c w 6 (znc u0) (zM w 1 (znc u0) below args s) 67 [(0, zR x0), (1, zI x1), (2, zI x2), (4, zI v6)] [zI v5] u22 (f u22)) (fun u22 => ?_) (fun k23 hk23 => ?_)
          ·
            refine z_iconst C (pc' := 68) dX11_sure_67 kc_0 rfl ?_
            exact zlocs (lb := [(0, zR x0), (1, zI x1), (2, zI x2), (4, zI v6)]) ⟨rfl, rfl, rfl, rfl, trivial⟩ (hk21 _ _)
          ·
            refine z_if_lt C (pc' := 67) (pf := 45) dX11_sure_42 rfl rfl (fun _ => ?_) (fun _ => ?_)
            ·
              exact zlocs (lb := [(0, zR x0), (1, zI x1), (2, zI x2), (4, zI v6)]) ⟨rfl, rfl, rfl, rfl, trivial⟩ (hk23 _)
            ·
              refine z_aload_n C (i := 0) (pc' := 46) dX11_sure_45 rfl rfl rfl ?_
              refine z_iload C (pc' := 48) dX11_sure_46 rfl rfl ?_
              refine z_iload_n C (i := 1) (pc' := 49) dX11_sure_48 rfl rfl rfl ?_
              refine z_callV1 C (pc' := 52) lvRX11_222 lc_X11_has rfl dX11_sure_49 rfl (by decide) (rX11_has l w x0 v6 x1 u7) rfl (Nat.le_of_ble_eq_true rfl) (fun v24 u25 => ?_)
              refine z_if_eq C (pc' := 67) (pf := 55) dX11_sure_52 rfl rfl (fun _ => ?_) (fun _ => ?_)
              ·
                exact zlocs (lb := [(0, zR x0), (1, zI x1), (2, zI x2), (4, zI v6)]) ⟨rfl, rfl, rfl, rfl, trivial⟩ (hk23 _)
              ·
                refine z_iconst C (pc' := 56) dX11_sure_55 kc_1 rfl ?_
                refine z_aload_n C (i := 0) (pc' := 57) dX11_sure_56 rfl rfl rfl ?_
                refine z_getfR C (pc' := 60) flRX11_40 dX11_sure_57 rfl (fun v26 => ?_)
                refine z_iload C (pc' := 62) dX11_sure_60 rfl rfl ?_
                refine z_iald C (pc' := 63) dX11_sure_62 rfl (fun v27 => ?_)
                refine z_ishl C (pc' := 64) dX11_sure_63 rfl ?_
                refine z_goto C (pc' := 68) dX11_sure_64 rfl ?_
                exact zlocs (lb := [(0, zR x0), (1, zI x1), (2, zI x2), (4, zI v6)]) ⟨rfl, rfl, rfl, rfl, trivial⟩ (hk21 _ _)
    ·
      refine z_iconst C (pc' := 19) dX11_sure_18 kc_m1 rfl ?_
      exact z_ireturn C dX11_sure_19
def fX11_only (x0 : Int) (u0 : zMem) : zRs := zlp (fun _ _ _ => none) (fun k4 (v1 : Int) (v2 : Int) (u3 : zMem) => zgf 11 6 x0 u3 (fun v5 => if v2 ≥ v5 then (some (v1, u3)) else (zvc 11 x0 (fX11_hadBy x0 v2 u3) (fun v6 u7 => zjn (fun (v8 : Int) (u9 : zMem) => k4 (zor v1 v8) (zw32 (v2 + 1)) u9) (fun k10 => if v6 ≠ 1 then (k10 0 u7) else (k10 (zshl 1 v2) u7)))))) 1000000 0 0 u0
set_option maxRecDepth 100000 in
set_option maxHeartbeats 4000000 in
theorem rX11_only (l : Launch) (w : zW) (x0 : Int) (u0 : zMem) : zSpc l w 4 yX11_only cX11_only 3 (some .int) 1 [zR x0] u0 (fX11_only x0 u0) := by
  refine zSpc_of (own := RX11) pnRX11 rfl (Nat.le_of_ble_eq_true rfl) (fun G p e R s m args below meth c C hini => ?_)
  unfold fX11_only
  refine zlocs (lb := [(0, zR x0)]) ⟨rfl, trivial⟩ ?_
  refine z_iconst C (pc' := 1) dX11_only_0 kc_0 rfl ?_
  refine z_istore_n C (i := 1) (la' := [(1, zI 0), (0, zR x0)]) (pc' := 2) dX11_only_1 rfl (by decide) rfl rfl ?_
  refine z_iconst C (pc' := 3) dX11_only_2 kc_0 rfl ?_
  refine z_istore_n C (i := 2) (la' := [(2, zI 0), (1, zI 0), (0, zR x0)]) (pc' := 4) dX11_only_3 rfl (by decide) rfl rfl ?_
  refine zlocs (lb := [(0, zR x0), (1, zI 0), (2, zI 0)]) ⟨rfl, rfl, rfl, trivial⟩ ?_
  refine zlp_ind (fun (f : Int → Int → zMem → zRs) => ∀ (v1 : Int) (v2 : Int) (u3 : zMem), zSim G p l e R s m args below meth c w 3 (znc u0) (zM w 1 (znc u0) below args s) 4 [(0, zR x0), (1, zI v1), (2, zI v2)] [] u3 (f v1 v2 u3)) (fun _ _ _ => znone) (fun k4 hk4 v1 v2 u3 => ?_) _ _ _ _
  refine z_iload_n C (i := 2) (pc' := 5) dX11_only_4 rfl rfl rfl ?_
  refine z_aload_n C (i := 0) (pc' := 6) dX11_only_5 rfl rfl rfl ?_
  refine z_getf C (pc' := 9) flRX11_85 dX11_only_6 rfl (fun v5 => ?_)
  refine z_icmp_ge C (pc' := 37) (pf := 12) dX11_only_9 rfl rfl (fun _ => ?_) (fun _ => ?_)
  ·
    refine z_iload_n C (i := 1) (pc' := 38) dX11_only_37 rfl rfl rfl ?_
    exact z_ireturn C dX11_only_38
  ·
    refine z_iload_n C (i := 1) (pc' := 13) dX11_only_12 rfl rfl rfl ?_
    refine z_aload_n C (i := 0) (pc' := 14) dX11_only_13 rfl rfl rfl ?_
    refine z_iload_n C (i := 2) (pc' := 15) dX11_only_14 rfl rfl rfl ?_
    refine z_callV1 C (pc' := 18) lvRX11_235 lc_X11_hadBy rfl dX11_only_15 rfl (by decide) (rX11_hadBy l w x0 v2 u3) rfl (Nat.le_of_ble_eq_true rfl) (fun v6 u7 => ?_)
    refine z_iconst C (pc' := 19) dX11_only_18 kc_1 rfl ?_
    refine zjoin (P := fun (f : Int → zMem → zRs) => ∀ (v8 : Int) (u9 : zMem), zSim G p l e R s m args below meth c w 3 (znc u0) (zM w 1 (znc u0) below args s) 29 [(0, zR x0), (2, zI v2)] [zI v8, zI v1] u9 (f v8 u9)) (fun v8 u9 => ?_) (fun k10 hk10 => ?_)
    ·
      refine z_ior C (pc' := 30) dX11_only_29 rfl ?_
      refine z_istore_n C (i := 1) (la' := [(1, zI (zor v1 v8)), (0, zR x0), (2, zI v2)]) (pc' := 31) dX11_only_30 rfl (by decide) rfl rfl ?_
      refine z_iinc C (i := 2) (la' := [(2, zI (zw32 (v2 + 1))), (1, zI (zor v1 v8)), (0, zR x0)]) (pc' := 34) dX11_only_31 rfl (by decide) rfl rfl ?_
      refine z_goto C (pc' := 4) dX11_only_34 rfl ?_
      exact zlocs (lb := [(0, zR x0), (1, zI (zor v1 v8)), (2, zI (zw32 (v2 + 1)))]) ⟨rfl, rfl, rfl, trivial⟩ (hk4 _ _ _)
    ·
      refine z_icmp_ne C (pc' := 28) (pf := 22) dX11_only_19 rfl rfl (fun _ => ?_) (fun _ => ?_)
      ·
        refine z_iconst C (pc' := 29) dX11_only_28 kc_0 rfl ?_
        exact zlocs (lb := [(0, zR x0), (2, zI v2)]) ⟨rfl, rfl, trivial⟩ (hk10 _ _)
      ·
        refine z_iconst C (pc' := 23) dX11_only_22 kc_1 rfl ?_
        refine z_iload_n C (i := 2) (pc' := 24) dX11_only_23 rfl rfl rfl ?_
        refine z_ishl C (pc' := 25) dX11_only_24 rfl ?_
        refine z_goto C (pc' := 29) dX11_only_25 rfl ?_
        exact zlocs (lb := [(0, zR x0), (2, zI v2)]) ⟨rfl, rfl, trivial⟩ (hk10 _ _)
def fX11_fight (x0 x1 x2 : Int) (u0 : zMem) : zRs := if x1 < 0 then (some ((-1), u0)) else (znz 10 (zvc 11 x0 (fX11_isPaper x0 (zw32 (Int.tdiv x1 10)) u0) (fun v1 u2 => if v1 = 0 then (some ((-1), u2)) else (znz 10 (zvc 11 x0 (fX11_isPaper x0 (Int.tmod x1 10) u2) (fun v3 u4 => if v3 = 0 then (some ((-1), u4)) else (znz 10 (znz 10 (if (zw32 (Int.tdiv x1 10)) = (Int.tmod x1 10) then (some ((-1), u4)) else (zcall (fX11_within x2 0 1 u4) (fun v5 u6 => if v5 ≠ 0 then (znz 10 (znz 10 (zlp (fun _ _ _ _ => none) (fun k11 (v7 : Int) (v8 : Int) (v9 : Int) (u10 : zMem) => zgf 11 6 x0 u10 (fun v12 => if v9 ≥ v12 then (if x2 ≠ 0 then (some (v8, u10)) else (some (v7, u10))) else (zlp (fun _ _ _ _ => none) (fun k17 (v13 : Int) (v14 : Int) (v15 : Int) (u16 : zMem) => zgf 11 6 x0 u16 (fun v18 => if v15 ≥ v18 then (k11 v13 v14 (zw32 (v9 + 1)) u16) else (zvc 11 x0 (fX11_has x0 (zw32 (Int.tdiv x1 10)) v9 u16) (fun v19 u20 => zjn (fun (v21 : Int) (u22 : zMem) => zjn (fun (v24 : Int) (u25 : zMem) => zjn (fun (v27 : Int) (u28 : zMem) => zjn (fun (v30 : Int) (u31 : zMem) => k17 (zw32 (v13 + v30)) v27 (zw32 (v15 + 1)) u31) (fun k32 => if v24 = 0 then (k32 0 u28) else (k32 1 u28))) (fun k29 => zjn (fun (u33 : zMem) => k29 v14 u33) (fun k34 => if v24 = 0 then (k34 u25) else (if v13 ≠ 0 then (k34 u25) else (k29 (zw32 ((zw32 (100 * v9)) + v15)) u25))))) (fun k26 => zjn (fun (u35 : zMem) => k26 0 u35) (fun k36 => if v21 = 0 then (k36 u22) else (zvc 11 x0 (fX11_placeOf x0 (zw32 (Int.tdiv x1 10)) v9 u22) (fun v37 u38 => zvc 11 x0 (fX11_placeOf x0 (zw32 (Int.tdiv x1 10)) v15 u38) (fun v39 u40 => zjn (fun (v41 : Int) (u42 : zMem) => zvc 11 x0 (fX11_placeOf x0 (Int.tmod x1 10) v9 u42) (fun v44 u45 => zvc 11 x0 (fX11_placeOf x0 (Int.tmod x1 10) v15 u45) (fun v46 u47 => zjn (fun (v48 : Int) (u49 : zMem) => if v41 = v48 then (k36 u49) else (k26 1 u49)) (fun k50 => if v44 ≥ v46 then (k50 0 u47) else (k50 1 u47))))) (fun k43 => if v37 ≥ v39 then (k43 0 u40) else (k43 1 u40)))))))) (fun k23 => zjn (fun (u51 : zMem) => k23 0 u51) (fun k52 => if v19 = 0 then (k52 u20) else (zvc 11 x0 (fX11_has x0 (zw32 (Int.tdiv x1 10)) v15 u20) (fun v53 u54 => if v53 = 0 then (k52 u54) else (zvc 11 x0 (fX11_has x0 (Int.tmod x1 10) v9 u54) (fun v55 u56 => if v55 = 0 then (k52 u56) else (zvc 11 x0 (fX11_has x0 (Int.tmod x1 10) v15 u56) (fun v57 u58 => if v57 = 0 then (k52 u58) else (k23 1 u58))))))))))))) 1000000 v7 v8 (zw32 (v9 + 1)) u10))) 1000000 0 (-2) 0 u6))) else (some ((-1), u6)))))))))))))
set_option maxRecDepth 100000 in
set_option maxHeartbeats 4000000 in
theorem rX11_fight (l : Launch) (w : zW) (x0 x1 x2 : Int) (u0 : zMem) : zSpc l w 3 yX11_fight cX11_fight 11 (some .int) 1 [zR x0, zI x1, zI x2] u0 (fX11_fight x0 x1 x2 u0) := by
  refine zSpc_of (own := RX11) pnRX11 rfl (Nat.le_of_ble_eq_true rfl) (fun G p e R s m args below meth c C hini => ?_)
  unfold fX11_fight
  refine zlocs (lb := [(0, zR x0), (1, zI x1), (2, zI x2)]) ⟨rfl, rfl, rfl, trivial⟩ ?_
  refine z_iload_n C (i := 1) (pc' := 1) dX11_fight_0 rfl rfl rfl ?_
  refine z_if_lt C (pc' := 47) (pf := 4) dX11_fight_1 rfl rfl (fun _ => ?_) (fun _ => ?_)
  ·
    refine z_iconst C (pc' := 48) dX11_fight_47 kc_m1 rfl ?_
    exact z_ireturn C dX11_fight_48
  ·
    refine z_aload_n C (i := 0) (pc' := 5) dX11_fight_4 rfl rfl rfl ?_
    refine z_iload_n C (i := 1) (pc' := 6) dX11_fight_5 rfl rfl rfl ?_
    refine z_bipush C (pc' := 8) dX11_fight_6 kb_10 rfl ?_
    refine z_idiv C (pc' := 9) dX11_fight_8 rfl (fun _ => ?_)
    refine z_callV1 C (pc' := 12) lvRX11_219 lc_X11_isPaper rfl dX11_fight_9 rfl (by decide) (rX11_isPaper l w x0 (zw32 (Int.tdiv x1 10)) u0) rfl (Nat.le_of_ble_eq_true rfl) (fun v1 u2 => ?_)
    refine z_if_eq C (pc' := 47) (pf := 15) dX11_fight_12 rfl rfl (fun _ => ?_) (fun _ => ?_)
    ·
      refine z_iconst C (pc' := 48) dX11_fight_47 kc_m1 rfl ?_
      exact z_ireturn C dX11_fight_48
    ·
      refine z_aload_n C (i := 0) (pc' := 16) dX11_fight_15 rfl rfl rfl ?_
      refine z_iload_n C (i := 1) (pc' := 17) dX11_fight_16 rfl rfl rfl ?_
      refine z_bipush C (pc' := 19) dX11_fight_17 kb_10 rfl ?_
      refine z_irem C (pc' := 20) dX11_fight_19 rfl (fun _ => ?_)
      refine z_callV1 C (pc' := 23) lvRX11_219 lc_X11_isPaper rfl dX11_fight_20 rfl (by decide) (rX11_isPaper l w x0 (Int.tmod x1 10) u2) rfl (Nat.le_of_ble_eq_true rfl) (fun v3 u4 => ?_)
      refine z_if_eq C (pc' := 47) (pf := 26) dX11_fight_23 rfl rfl (fun _ => ?_) (fun _ => ?_)
      ·
        refine z_iconst C (pc' := 48) dX11_fight_47 kc_m1 rfl ?_
        exact z_ireturn C dX11_fight_48
      ·
        refine z_iload_n C (i := 1) (pc' := 27) dX11_fight_26 rfl rfl rfl ?_
        refine z_bipush C (pc' := 29) dX11_fight_27 kb_10 rfl ?_
        refine z_idiv C (pc' := 30) dX11_fight_29 rfl (fun _ => ?_)
        refine z_iload_n C (i := 1) (pc' := 31) dX11_fight_30 rfl rfl rfl ?_
        refine z_bipush C (pc' := 33) dX11_fight_31 kb_10 rfl ?_
        refine z_irem C (pc' := 34) dX11_fight_33 rfl (fun _ => ?_)
        refine z_icmp_eq C (pc' := 47) (pf := 37) dX11_fight_34 rfl rfl (fun _ => ?_) (fun _ => ?_)
        ·
          refine z_iconst C (pc' := 48) dX11_fight_47 kc_m1 rfl ?_
          exact z_ireturn C dX11_fight_48
        ·
          refine z_iload_n C (i := 2) (pc' := 38) dX11_fight_37 rfl rfl rfl ?_
          refine z_i2l C (pc' := 39) dX11_fight_38 rfl ?_
          refine z_lconst C (pc' := 40) dX11_fight_39 kl_0 rfl ?_
          refine z_lconst C (pc' := 41) dX11_fight_40 kl_1 rfl ?_
          refine z_callS1 C (pc' := 44) lsRX11_88 lc_X11_within rfl dX11_fight_41 rfl (by decide) (rX11_within l w x2 0 1 u4) rfl (Nat.le_of_ble_eq_true rfl) (fun v5 u6 => ?_)
          refine z_if_ne C (pc' := 49) (pf := 47) dX11_fight_44 rfl rfl (fun _ => ?_) (fun _ => ?_)
          ·
            refine z_iload_n C (i := 1) (pc' := 50) dX11_fight_49 rfl rfl rfl ?_
            refine z_bipush C (pc' := 52) dX11_fight_50 kb_10 rfl ?_
            refine z_idiv C (pc' := 53) dX11_fight_52 rfl (fun _ => ?_)
            refine z_istore_n C (i := 3) (la' := [(3, zI (zw32 (Int.tdiv x1 10))), (0, zR x0), (1, zI x1), (2, zI x2)]) (pc' := 54) dX11_fight_53 rfl (by decide) rfl rfl ?_
            refine z_iload_n C (i := 1) (pc' := 55) dX11_fight_54 rfl rfl rfl ?_
            refine z_bipush C (pc' := 57) dX11_fight_55 kb_10 rfl ?_
            refine z_irem C (pc' := 58) dX11_fight_57 rfl (fun _ => ?_)
            refine z_istore C (i := 4) (la' := [(4, zI (Int.tmod x1 10)), (3, zI (zw32 (Int.tdiv x1 10))), (0, zR x0), (1, zI x1), (2, zI x2)]) (pc' := 60) dX11_fight_58 (by decide) rfl rfl ?_
            refine z_iconst C (pc' := 61) dX11_fight_60 kc_0 rfl ?_
            refine z_istore C (i := 5) (la' := [(5, zI 0), (4, zI (Int.tmod x1 10)), (3, zI (zw32 (Int.tdiv x1 10))), (0, zR x0), (1, zI x1), (2, zI x2)]) (pc' := 63) dX11_fight_61 (by decide) rfl rfl ?_
            refine z_bipush C (pc' := 65) dX11_fight_63 kb_m2 rfl ?_
            refine z_istore C (i := 6) (la' := [(6, zI (-2)), (5, zI 0), (4, zI (Int.tmod x1 10)), (3, zI (zw32 (Int.tdiv x1 10))), (0, zR x0), (1, zI x1), (2, zI x2)]) (pc' := 67) dX11_fight_65 (by decide) rfl rfl ?_
            refine z_iconst C (pc' := 68) dX11_fight_67 kc_0 rfl ?_
            refine z_istore C (i := 7) (la' := [(7, zI 0), (6, zI (-2)), (5, zI 0), (4, zI (Int.tmod x1 10)), (3, zI (zw32 (Int.tdiv x1 10))), (0, zR x0), (1, zI x1), (2, zI x2)]) (pc' := 70) dX11_fight_68 (by decide) rfl rfl ?_
            refine zlocs (lb := [(0, zR x0), (2, zI x2), (3, zI (zw32 (Int.tdiv x1 10))), (4, zI (Int.tmod x1 10)), (5, zI 0), (6, zI (-2)), (7, zI 0)]) ⟨rfl, rfl, rfl, rfl, rfl, rfl, rfl, trivial⟩ ?_
            refine zlp_ind (fun (f : Int → Int → Int → zMem → zRs) => ∀ (v7 : Int) (v8 : Int) (v9 : Int) (u10 : zMem), zSim G p l e R s m args below meth c w 11 (znc u0) (zM w 1 (znc u0) below args s) 70 [(0, zR x0), (2, zI x2), (3, zI (zw32 (Int.tdiv x1 10))), (4, zI (Int.tmod x1 10)), (5, zI v7), (6, zI v8), (7, zI v9)] [] u10 (f v7 v8 v9 u10)) (fun _ _ _ _ => znone) (fun k11 hk11 v7 v8 v9 u10 => ?_) _ _ _ _ _
            refine z_iload C (pc' := 72) dX11_fight_70 rfl rfl ?_
            refine z_aload_n C (i := 0) (pc' := 73) dX11_fight_72 rfl rfl rfl ?_
            refine z_getf C (pc' := 76) flRX11_85 dX11_fight_73 rfl (fun v12 => ?_)
            refine z_icmp_ge C (pc' := 256) (pf := 79) dX11_fight_76 rfl rfl (fun _ => ?_) (fun _ => ?_)
            ·
              refine z_iload_n C (i := 2) (pc' := 257) dX11_fight_256 rfl rfl rfl ?_
              refine z_if_ne C (pc' := 265) (pf := 260) dX11_fight_257 rfl rfl (fun _ => ?_) (fun _ => ?_)
              ·
                refine z_iload C (pc' := 267) dX11_fight_265 rfl rfl ?_
                exact z_ireturn C dX11_fight_267
              ·
                refine z_iload C (pc' := 262) dX11_fight_260 rfl rfl ?_
                refine z_goto C (pc' := 267) dX11_fight_262 rfl ?_
                exact z_ireturn C dX11_fight_267
            ·
              refine z_iload C (pc' := 81) dX11_fight_79 rfl rfl ?_
              refine z_iconst C (pc' := 82) dX11_fight_81 kc_1 rfl ?_
              refine z_iadd C (pc' := 83) dX11_fight_82 rfl ?_
              refine z_istore C (i := 8) (la' := [(8, zI (zw32 (v9 + 1))), (0, zR x0), (2, zI x2), (3, zI (zw32 (Int.tdiv x1 10))), (4, zI (Int.tmod x1 10)), (5, zI v7), (6, zI v8), (7, zI v9)]) (pc' := 85) dX11_fight_83 (by decide) rfl rfl ?_
              refine zlocs (lb := [(0, zR x0), (2, zI x2), (3, zI (zw32 (Int.tdiv x1 10))), (4, zI (Int.tmod x1 10)), (5, zI v7), (6, zI v8), (7, zI v9), (8, zI (zw32 (v9 + 1)))]) ⟨rfl, rfl, rfl, rfl, rfl, rfl, rfl, rfl, trivial⟩ ?_
              refine zlp_ind (fun (f : Int → Int → Int → zMem → zRs) => ∀ (v13 : Int) (v14 : Int) (v15 : Int) (u16 : zMem), zSim G p l e R s m args below meth c w 11 (znc u0) (zM w 1 (znc u0) below args s) 85 [(0, zR x0), (2, zI x2), (3, zI (zw32 (Int.tdiv x1 10))), (4, zI (Int.tmod x1 10)), (5, zI v13), (6, zI v14), (7, zI v9), (8, zI v15)] [] u16 (f v13 v14 v15 u16)) (fun _ _ _ _ => znone) (fun k17 hk17 v13 v14 v15 u16 => ?_) _ _ _ _ _
              refine z_iload C (pc' := 87) dX11_fight_85 rfl rfl ?_
              refine z_aload_n C (i := 0) (pc' := 88) dX11_fight_87 rfl rfl rfl ?_
              refine z_getf C (pc' := 91) flRX11_85 dX11_fight_88 rfl (fun v18 => ?_)
              refine z_icmp_ge C (pc' := 250) (pf := 94) dX11_fight_91 rfl rfl (fun _ => ?_) (fun _ => ?_)
              ·
                refine z_iinc C (i := 7) (la' := [(7, zI (zw32 (v9 + 1))), (0, zR x0), (2, zI x2), (3, zI (zw32 (Int.tdiv x1 10))), (4, zI (Int.tmod x1 10)), (5, zI v13), (6, zI v14), (8, zI v15)]) (pc' := 253) dX11_fight_250 rfl (by decide) rfl rfl ?_
                refine z_goto C (pc' := 70) dX11_fight_253 rfl ?_
                exact zlocs (lb := [(0, zR x0), (2, zI x2), (3, zI (zw32 (Int.tdiv x1 10))), (4, zI (Int.tmod x1 10)), (5, zI v13), (6, zI v14), (7, zI (zw32 (v9 + 1)))]) ⟨rfl, rfl, rfl, rfl, rfl, rfl, rfl, trivial⟩ (hk11 _ _ _ _)
              ·
                refine z_aload_n C (i := 0) (pc' := 95) dX11_fight_94 rfl rfl rfl ?_
                refine z_iload_n C (i := 3) (pc' := 96) dX11_fight_95 rfl rfl rfl ?_
                refine z_iload C (pc' := 98) dX11_fight_96 rfl rfl ?_
                refine z_callV1 C (pc' := 101) lvRX11_222 lc_X11_has rfl dX11_fight_98 rfl (by decide) (rX11_has l w x0 (zw32 (Int.tdiv x1 10)) v9 u16) rfl (Nat.le_of_ble_eq_true rfl) (fun v19 u20 => ?_)
                refine zjoin (P := fun (f : Int → zMem → zRs) => ∀ (v21 : Int) (u22 : zMem), zSim G p l e R s m args below meth c w 11 (znc u0) (zM w 1 (znc u0) below args s) 141 [(0, zR x0), (2, zI x2), (3, zI (zw32 (Int.tdiv x1 10))), (4, zI (Int.tmod x1 10)), (5, zI v13), (6, zI v14), (7, zI v9), (8, zI v15)] [zI v21] u22 (f v21 u22)) (fun v21 u22 => ?_) (fun k23 hk23 => ?_)
                ·
                  refine z_istore C (i := 9) (la' := [(9, zI v21), (0, zR x0), (2, zI x2), (3, zI (zw32 (Int.tdiv x1 10))), (4, zI (Int.tmod x1 10)), (5, zI v13), (6, zI v14), (7, zI v9), (8, zI v15)]) (pc' := 143) dX11_fight_141 (by decide) rfl rfl ?_
                  refine z_iload C (pc' := 145) dX11_fight_143 rfl rfl ?_
                  refine zjoin (P := fun (f : Int → zMem → zRs) => ∀ (v24 : Int) (u25 : zMem), zSim G p l e R s m args below meth c w 11 (znc u0) (zM w 1 (znc u0) below args s) 202 [(0, zR x0), (2, zI x2), (3, zI (zw32 (Int.tdiv x1 10))), (4, zI (Int.tmod x1 10)), (5, zI v13), (6, zI v14), (7, zI v9), (8, zI v15)] [zI v24] u25 (f v24 u25)) (fun v24 u25 => ?_) (fun k26 hk26 => ?_)
                  ·
                    refine z_istore C (i := 10) (la' := [(10, zI v24), (0, zR x0), (2, zI x2), (3, zI (zw32 (Int.tdiv x1 10))), (4, zI (Int.tmod x1 10)), (5, zI v13), (6, zI v14), (7, zI v9), (8, zI v15)]) (pc' := 204) dX11_fight_202 (by decide) rfl rfl ?_
                    refine z_iload C (pc' := 206) dX11_fight_204 rfl rfl ?_
                    refine zjoin (P := fun (f : Int → zMem → zRs) => ∀ (v27 : Int) (u28 : zMem), zSim G p l e R s m args below meth c w 11 (znc u0) (zM w 1 (znc u0) below args s) 227 [(0, zR x0), (2, zI x2), (3, zI (zw32 (Int.tdiv x1 10))), (4, zI (Int.tmod x1 10)), (5, zI v13), (7, zI v9), (8, zI v15), (10, zI v24)] [zI v27] u28 (f v27 u28)) (fun v27 u28 => ?_) (fun k29 hk29 => ?_)
                    ·
                      refine z_istore C (i := 6) (la' := [(6, zI v27), (0, zR x0), (2, zI x2), (3, zI (zw32 (Int.tdiv x1 10))), (4, zI (Int.tmod x1 10)), (5, zI v13), (7, zI v9), (8, zI v15), (10, zI v24)]) (pc' := 229) dX11_fight_227 (by decide) rfl rfl ?_
                      refine z_iload C (pc' := 231) dX11_fight_229 rfl rfl ?_
                      refine z_iload C (pc' := 233) dX11_fight_231 rfl rfl ?_
                      refine zjoin (P := fun (f : Int → zMem → zRs) => ∀ (v30 : Int) (u31 : zMem), zSim G p l e R s m args below meth c w 11 (znc u0) (zM w 1 (znc u0) below args s) 241 [(0, zR x0), (2, zI x2), (3, zI (zw32 (Int.tdiv x1 10))), (4, zI (Int.tmod x1 10)), (6, zI v27), (7, zI v9), (8, zI v15)] [zI v30, zI v13] u31 (f v30 u31)) (fun v30 u31 => ?_) (fun k32 hk32 => ?_)
                      ·
                        refine z_iadd C (pc' := 242) dX11_fight_241 rfl ?_
                        refine z_istore C (i := 5) (la' := [(5, zI (zw32 (v13 + v30))), (0, zR x0), (2, zI x2), (3, zI (zw32 (Int.tdiv x1 10))), (4, zI (Int.tmod x1 10)), (6, zI v27), (7, zI v9), (8, zI v15)]) (pc' := 244) dX11_fight_242 (by decide) rfl rfl ?_
                        refine z_iinc C (i := 8) (la' := [(8, zI (zw32 (v15 + 1))), (5, zI (zw32 (v13 + v30))), (0, zR x0), (2, zI x2), (3, zI (zw32 (Int.tdiv x1 10))), (4, zI (Int.tmod x1 10)), (6, zI v27), (7, zI v9)]) (pc' := 247) dX11_fight_244 rfl (by decide) rfl rfl ?_
                        refine z_goto C (pc' := 85) dX11_fight_247 rfl ?_
                        exact zlocs (lb := [(0, zR x0), (2, zI x2), (3, zI (zw32 (Int.tdiv x1 10))), (4, zI (Int.tmod x1 10)), (5, zI (zw32 (v13 + v30))), (6, zI v27), (7, zI v9), (8, zI (zw32 (v15 + 1)))]) ⟨rfl, rfl, rfl, rfl, rfl, rfl, rfl, rfl, trivial⟩ (hk17 _ _ _ _)
                      ·
                        refine z_if_eq C (pc' := 240) (pf := 236) dX11_fight_233 rfl rfl (fun _ => ?_) (fun _ => ?_)
                        ·
                          refine z_iconst C (pc' := 241) dX11_fight_240 kc_0 rfl ?_
                          exact zlocs (lb := [(0, zR x0), (2, zI x2), (3, zI (zw32 (Int.tdiv x1 10))), (4, zI (Int.tmod x1 10)), (6, zI v27), (7, zI v9), (8, zI v15)]) ⟨rfl, rfl, rfl, rfl, rfl, rfl, rfl, trivial⟩ (hk32 _ _)
                        ·
                          refine z_iconst C (pc' := 237) dX11_fight_236 kc_1 rfl ?_
                          refine z_goto C (pc' := 241) dX11_fight_237 rfl ?_
                          exact zlocs (lb := [(0, zR x0), (2, zI x2), (3, zI (zw32 (Int.tdiv x1 10))), (4, zI (Int.tmod x1 10)), (6, zI v27), (7, zI v9), (8, zI v15)]) ⟨rfl, rfl, rfl, rfl, rfl, rfl, rfl, trivial⟩ (hk32 _ _)
                    ·
                      refine zjoin (P := fun (f : zMem → zRs) => ∀ (u33 : zMem), zSim G p l e R s m args below meth c w 11 (znc u0) (zM w 1 (znc u0) below args s) 225 [(0, zR x0), (2, zI x2), (3, zI (zw32 (Int.tdiv x1 10))), (4, zI (Int.tmod x1 10)), (5, zI v13), (6, zI v14), (7, zI v9), (8, zI v15), (10, zI v24)] [] u33 (f u33)) (fun u33 => ?_) (fun k34 hk34 => ?_)
                      ·
                        refine z_iload C (pc' := 227) dX11_fight_225 rfl rfl ?_
                        exact zlocs (lb := [(0, zR x0), (2, zI x2), (3, zI (zw32 (Int.tdiv x1 10))), (4, zI (Int.tmod x1 10)), (5, zI v13), (7, zI v9), (8, zI v15), (10, zI v24)]) ⟨rfl, rfl, rfl, rfl, rfl, rfl, rfl, rfl, trivial⟩ (hk29 _ _)
                      ·
                        refine z_if_eq C (pc' := 225) (pf := 209) dX11_fight_206 rfl rfl (fun _ => ?_) (fun _ => ?_)
                        ·
                          exact zlocs (lb := [(0, zR x0), (2, zI x2), (3, zI (zw32 (Int.tdiv x1 10))), (4, zI (Int.tmod x1 10)), (5, zI v13), (6, zI v14), (7, zI v9), (8, zI v15), (10, zI v24)]) ⟨rfl, rfl, rfl, rfl, rfl, rfl, rfl, rfl, rfl, trivial⟩ (hk34 _)
                        ·
                          refine z_iload C (pc' := 211) dX11_fight_209 rfl rfl ?_
                          refine z_if_ne C (pc' := 225) (pf := 214) dX11_fight_211 rfl rfl (fun _ => ?_) (fun _ => ?_)
                          ·
                            exact zlocs (lb := [(0, zR x0), (2, zI x2), (3, zI (zw32 (Int.tdiv x1 10))), (4, zI (Int.tmod x1 10)), (5, zI v13), (6, zI v14), (7, zI v9), (8, zI v15), (10, zI v24)]) ⟨rfl, rfl, rfl, rfl, rfl, rfl, rfl, rfl, rfl, trivial⟩ (hk34 _)
                          ·
                            refine z_bipush C (pc' := 216) dX11_fight_214 kb_100 rfl ?_
                            refine z_iload C (pc' := 218) dX11_fight_216 rfl rfl ?_
                            refine z_imul C (pc' := 219) dX11_fight_218 rfl ?_
                            refine z_iload C (pc' := 221) dX11_fight_219 rfl rfl ?_
                            refine z_iadd C (pc' := 222) dX11_fight_221 rfl ?_
                            refine z_goto C (pc' := 227) dX11_fight_222 rfl ?_
                            exact zlocs (lb := [(0, zR x0), (2, zI x2), (3, zI (zw32 (Int.tdiv x1 10))), (4, zI (Int.tmod x1 10)), (5, zI v13), (7, zI v9), (8, zI v15), (10, zI v24)]) ⟨rfl, rfl, rfl, rfl, rfl, rfl, rfl, rfl, trivial⟩ (hk29 _ _)
                  ·
                    refine zjoin (P := fun (f : zMem → zRs) => ∀ (u35 : zMem), zSim G p l e R s m args below meth c w 11 (znc u0) (zM w 1 (znc u0) below args s) 201 [(0, zR x0), (2, zI x2), (3, zI (zw32 (Int.tdiv x1 10))), (4, zI (Int.tmod x1 10)), (5, zI v13), (6, zI v14), (7, zI v9), (8, zI v15)] [] u35 (f u35)) (fun u35 => ?_) (fun k36 hk36 => ?_)
                    ·
                      refine z_iconst C (pc' := 202) dX11_fight_201 kc_0 rfl ?_
                      exact zlocs (lb := [(0, zR x0), (2, zI x2), (3, zI (zw32 (Int.tdiv x1 10))), (4, zI (Int.tmod x1 10)), (5, zI v13), (6, zI v14), (7, zI v9), (8, zI v15)]) ⟨rfl, rfl, rfl, rfl, rfl, rfl, rfl, rfl, trivial⟩ (hk26 _ _)
                    ·
                      refine z_if_eq C (pc' := 201) (pf := 148) dX11_fight_145 rfl rfl (fun _ => ?_) (fun _ => ?_)
                      ·
                        exact zlocs (lb := [(0, zR x0), (2, zI x2), (3, zI (zw32 (Int.tdiv x1 10))), (4, zI (Int.tmod x1 10)), (5, zI v13), (6, zI v14), (7, zI v9), (8, zI v15)]) ⟨rfl, rfl, rfl, rfl, rfl, rfl, rfl, rfl, trivial⟩ (hk36 _)
                      ·
                        refine z_aload_n C (i := 0) (pc' := 149) dX11_fight_148 rfl rfl rfl ?_
                        refine z_iload_n C (i := 3) (pc' := 150) dX11_fight_149 rfl rfl rfl ?_
                        refine z_iload C (pc' := 152) dX11_fight_150 rfl rfl ?_
                        refine z_callV1 C (pc' := 155) lvRX11_216 lc_X11_placeOf rfl dX11_fight_152 rfl (by decide) (rX11_placeOf l w x0 (zw32 (Int.tdiv x1 10)) v9 u22) rfl (Nat.le_of_ble_eq_true rfl) (fun v37 u38 => ?_)
                        refine z_aload_n C (i := 0) (pc' := 156) dX11_fight_155 rfl rfl rfl ?_
                        refine z_iload_n C (i := 3) (pc' := 157) dX11_fight_156 rfl rfl rfl ?_
                        refine z_iload C (pc' := 159) dX11_fight_157 rfl rfl ?_
                        refine z_callV1 C (pc' := 162) lvRX11_216 lc_X11_placeOf rfl dX11_fight_159 rfl (by decide) (rX11_placeOf l w x0 (zw32 (Int.tdiv x1 10)) v15 u38) rfl (Nat.le_of_ble_eq_true rfl) (fun v39 u40 => ?_)
                        refine zjoin (P := fun (f : Int → zMem → zRs) => ∀ (v41 : Int) (u42 : zMem), zSim G p l e R s m args below meth c w 11 (znc u0) (zM w 1 (znc u0) below args s) 170 [(0, zR x0), (2, zI x2), (3, zI (zw32 (Int.tdiv x1 10))), (4, zI (Int.tmod x1 10)), (5, zI v13), (6, zI v14), (7, zI v9), (8, zI v15)] [zI v41] u42 (f v41 u42)) (fun v41 u42 => ?_) (fun k43 hk43 => ?_)
                        ·
                          refine z_aload_n C (i := 0) (pc' := 171) dX11_fight_170 rfl rfl rfl ?_
                          refine z_iload C (pc' := 173) dX11_fight_171 rfl rfl ?_
                          refine z_iload C (pc' := 175) dX11_fight_173 rfl rfl ?_
                          refine z_callV1 C (pc' := 178) lvRX11_216 lc_X11_placeOf rfl dX11_fight_175 rfl (by decide) (rX11_placeOf l w x0 (Int.tmod x1 10) v9 u42) rfl (Nat.le_of_ble_eq_true rfl) (fun v44 u45 => ?_)
                          refine z_aload_n C (i := 0) (pc' := 179) dX11_fight_178 rfl rfl rfl ?_
                          refine z_iload C (pc' := 181) dX11_fight_179 rfl rfl ?_
                          refine z_iload C (pc' := 183) dX11_fight_181 rfl rfl ?_
                          refine z_callV1 C (pc' := 186) lvRX11_216 lc_X11_placeOf rfl dX11_fight_183 rfl (by decide) (rX11_placeOf l w x0 (Int.tmod x1 10) v15 u45) rfl (Nat.le_of_ble_eq_true rfl) (fun v46 u47 => ?_)
                          refine zjoin (P := fun (f : Int → zMem → zRs) => ∀ (v48 : Int) (u49 : zMem), zSim G p l e R s m args below meth c w 11 (znc u0) (zM w 1 (znc u0) below args s) 194 [(0, zR x0), (2, zI x2), (3, zI (zw32 (Int.tdiv x1 10))), (4, zI (Int.tmod x1 10)), (5, zI v13), (6, zI v14), (7, zI v9), (8, zI v15)] [zI v48, zI v41] u49 (f v48 u49)) (fun v48 u49 => ?_) (fun k50 hk50 => ?_)
                          ·
                            refine z_icmp_eq C (pc' := 201) (pf := 197) dX11_fight_194 rfl rfl (fun _ => ?_) (fun _ => ?_)
                            ·
                              exact zlocs (lb := [(0, zR x0), (2, zI x2), (3, zI (zw32 (Int.tdiv x1 10))), (4, zI (Int.tmod x1 10)), (5, zI v13), (6, zI v14), (7, zI v9), (8, zI v15)]) ⟨rfl, rfl, rfl, rfl, rfl, rfl, rfl, rfl, trivial⟩ (hk36 _)
                            ·
                              refine z_iconst C (pc' := 198) dX11_fight_197 kc_1 rfl ?_
                              refine z_goto C (pc' := 202) dX11_fight_198 rfl ?_
                              exact zlocs (lb := [(0, zR x0), (2, zI x2), (3, zI (zw32 (Int.tdiv x1 10))), (4, zI (Int.tmod x1 10)), (5, zI v13), (6, zI v14), (7, zI v9), (8, zI v15)]) ⟨rfl, rfl, rfl, rfl, rfl, rfl, rfl, rfl, trivial⟩ (hk26 _ _)
                          ·
                            refine z_icmp_ge C (pc' := 193) (pf := 189) dX11_fight_186 rfl rfl (fun _ => ?_) (fun _ => ?_)
                            ·
                              refine z_iconst C (pc' := 194) dX11_fight_193 kc_0 rfl ?_
                              exact zlocs (lb := [(0, zR x0), (2, zI x2), (3, zI (zw32 (Int.tdiv x1 10))), (4, zI (Int.tmod x1 10)), (5, zI v13), (6, zI v14), (7, zI v9), (8, zI v15)]) ⟨rfl, rfl, rfl, rfl, rfl, rfl, rfl, rfl, trivial⟩ (hk50 _ _)
                            ·
                              refine z_iconst C (pc' := 190) dX11_fight_189 kc_1 rfl ?_
                              refine z_goto C (pc' := 194) dX11_fight_190 rfl ?_
                              exact zlocs (lb := [(0, zR x0), (2, zI x2), (3, zI (zw32 (Int.tdiv x1 10))), (4, zI (Int.tmod x1 10)), (5, zI v13), (6, zI v14), (7, zI v9), (8, zI v15)]) ⟨rfl, rfl, rfl, rfl, rfl, rfl, rfl, rfl, trivial⟩ (hk50 _ _)
                        ·
                          refine z_icmp_ge C (pc' := 169) (pf := 165) dX11_fight_162 rfl rfl (fun _ => ?_) (fun _ => ?_)
                          ·
                            refine z_iconst C (pc' := 170) dX11_fight_169 kc_0 rfl ?_
                            exact zlocs (lb := [(0, zR x0), (2, zI x2), (3, zI (zw32 (Int.tdiv x1 10))), (4, zI (Int.tmod x1 10)), (5, zI v13), (6, zI v14), (7, zI v9), (8, zI v15)]) ⟨rfl, rfl, rfl, rfl, rfl, rfl, rfl, rfl, trivial⟩ (hk43 _ _)
                          ·
                            refine z_iconst C (pc' := 166) dX11_fight_165 kc_1 rfl ?_
                            refine z_goto C (pc' := 170) dX11_fight_166 rfl ?_
                            exact zlocs (lb := [(0, zR x0), (2, zI x2), (3, zI (zw32 (Int.tdiv x1 10))), (4, zI (Int.tmod x1 10)), (5, zI v13), (6, zI v14), (7, zI v9), (8, zI v15)]) ⟨rfl, rfl, rfl, rfl, rfl, rfl, rfl, rfl, trivial⟩ (hk43 _ _)
                ·
                  refine zjoin (P := fun (f : zMem → zRs) => ∀ (u51 : zMem), zSim G p l e R s m args below meth c w 11 (znc u0) (zM w 1 (znc u0) below args s) 140 [(0, zR x0), (2, zI x2), (3, zI (zw32 (Int.tdiv x1 10))), (4, zI (Int.tmod x1 10)), (5, zI v13), (6, zI v14), (7, zI v9), (8, zI v15)] [] u51 (f u51)) (fun u51 => ?_) (fun k52 hk52 => ?_)
                  ·
                    refine z_iconst C (pc' := 141) dX11_fight_140 kc_0 rfl ?_
                    exact zlocs (lb := [(0, zR x0), (2, zI x2), (3, zI (zw32 (Int.tdiv x1 10))), (4, zI (Int.tmod x1 10)), (5, zI v13), (6, zI v14), (7, zI v9), (8, zI v15)]) ⟨rfl, rfl, rfl, rfl, rfl, rfl, rfl, rfl, trivial⟩ (hk23 _ _)
                  ·
                    refine z_if_eq C (pc' := 140) (pf := 104) dX11_fight_101 rfl rfl (fun _ => ?_) (fun _ => ?_)
                    ·
                      exact zlocs (lb := [(0, zR x0), (2, zI x2), (3, zI (zw32 (Int.tdiv x1 10))), (4, zI (Int.tmod x1 10)), (5, zI v13), (6, zI v14), (7, zI v9), (8, zI v15)]) ⟨rfl, rfl, rfl, rfl, rfl, rfl, rfl, rfl, trivial⟩ (hk52 _)
                    ·
                      refine z_aload_n C (i := 0) (pc' := 105) dX11_fight_104 rfl rfl rfl ?_
                      refine z_iload_n C (i := 3) (pc' := 106) dX11_fight_105 rfl rfl rfl ?_
                      refine z_iload C (pc' := 108) dX11_fight_106 rfl rfl ?_
                      refine z_callV1 C (pc' := 111) lvRX11_222 lc_X11_has rfl dX11_fight_108 rfl (by decide) (rX11_has l w x0 (zw32 (Int.tdiv x1 10)) v15 u20) rfl (Nat.le_of_ble_eq_true rfl) (fun v53 u54 => ?_)
                      refine z_if_eq C (pc' := 140) (pf := 114) dX11_fight_111 rfl rfl (fun _ => ?_) (fun _ => ?_)
                      ·
                        exact zlocs (lb := [(0, zR x0), (2, zI x2), (3, zI (zw32 (Int.tdiv x1 10))), (4, zI (Int.tmod x1 10)), (5, zI v13), (6, zI v14), (7, zI v9), (8, zI v15)]) ⟨rfl, rfl, rfl, rfl, rfl, rfl, rfl, rfl, trivial⟩ (hk52 _)
                      ·
                        refine z_aload_n C (i := 0) (pc' := 115) dX11_fight_114 rfl rfl rfl ?_
                        refine z_iload C (pc' := 117) dX11_fight_115 rfl rfl ?_
                        refine z_iload C (pc' := 119) dX11_fight_117 rfl rfl ?_
                        refine z_callV1 C (pc' := 122) lvRX11_222 lc_X11_has rfl dX11_fight_119 rfl (by decide) (rX11_has l w x0 (Int.tmod x1 10) v9 u54) rfl (Nat.le_of_ble_eq_true rfl) (fun v55 u56 => ?_)
                        refine z_if_eq C (pc' := 140) (pf := 125) dX11_fight_122 rfl rfl (fun _ => ?_) (fun _ => ?_)
                        ·
                          exact zlocs (lb := [(0, zR x0), (2, zI x2), (3, zI (zw32 (Int.tdiv x1 10))), (4, zI (Int.tmod x1 10)), (5, zI v13), (6, zI v14), (7, zI v9), (8, zI v15)]) ⟨rfl, rfl, rfl, rfl, rfl, rfl, rfl, rfl, trivial⟩ (hk52 _)
                        ·
                          refine z_aload_n C (i := 0) (pc' := 126) dX11_fight_125 rfl rfl rfl ?_
                          refine z_iload C (pc' := 128) dX11_fight_126 rfl rfl ?_
                          refine z_iload C (pc' := 130) dX11_fight_128 rfl rfl ?_
                          refine z_callV1 C (pc' := 133) lvRX11_222 lc_X11_has rfl dX11_fight_130 rfl (by decide) (rX11_has l w x0 (Int.tmod x1 10) v15 u56) rfl (Nat.le_of_ble_eq_true rfl) (fun v57 u58 => ?_)
                          refine z_if_eq C (pc' := 140) (pf := 136) dX11_fight_133 rfl rfl (fun _ => ?_) (fun _ => ?_)
                          ·
                            exact zlocs (lb := [(0, zR x0), (2, zI x2), (3, zI (zw32 (Int.tdiv x1 10))), (4, zI (Int.tmod x1 10)), (5, zI v13), (6, zI v14), (7, zI v9), (8, zI v15)]) ⟨rfl, rfl, rfl, rfl, rfl, rfl, rfl, rfl, trivial⟩ (hk52 _)
                          ·
                            refine z_iconst C (pc' := 137) dX11_fight_136 kc_1 rfl ?_
                            refine z_goto C (pc' := 141) dX11_fight_137 rfl ?_
                            exact zlocs (lb := [(0, zR x0), (2, zI x2), (3, zI (zw32 (Int.tdiv x1 10))), (4, zI (Int.tmod x1 10)), (5, zI v13), (6, zI v14), (7, zI v9), (8, zI v15)]) ⟨rfl, rfl, rfl, rfl, rfl, rfl, rfl, rfl, trivial⟩ (hk23 _ _)
          ·
            refine z_iconst C (pc' := 48) dX11_fight_47 kc_m1 rfl ?_
            exact z_ireturn C dX11_fight_48
def fX11_beats (x0 x1 x2 : Int) (u0 : zMem) : zRs := zlp (fun _ _ _ => none) (fun k4 (v1 : Int) (v2 : Int) (u3 : zMem) => zgf 11 20 x0 u3 (fun v5 => if v2 ≥ v5 then (if v1 ≤ 0 then (zbl 0 (some (0, u3))) else (zbl 1 (some (1, u3)))) else (zvc 11 x0 (fX11_has x0 v2 x1 u3) (fun v6 u7 => zjn (fun (v8 : Int) (u9 : zMem) => k4 v8 (zw32 (v2 + 1)) u9) (fun k10 => if v6 = 0 then (k10 v1 u7) else (zvc 11 x0 (fX11_has x0 v2 x2 u7) (fun v11 u12 => if v11 = 0 then (k10 v1 u12) else (zvc 11 x0 (fX11_placeOf x0 v2 x1 u12) (fun v13 u14 => zvc 11 x0 (fX11_placeOf x0 v2 x2 u14) (fun v15 u16 => zjn (fun (v17 : Int) (u18 : zMem) => k10 (zw32 (v1 + v17)) u18) (fun k19 => if v13 ≥ v15 then (k19 (-1) u16) else (k19 1 u16)))))))))))) 1000000 0 0 u0
set_option maxRecDepth 100000 in
set_option maxHeartbeats 4000000 in
theorem rX11_beats (l : Launch) (w : zW) (x0 x1 x2 : Int) (u0 : zMem) : zSpc l w 3 yX11_beats cX11_beats 5 (some .boolean) 1 [zR x0, zI x1, zI x2] u0 (fX11_beats x0 x1 x2 u0) := by
  refine zSpc_of (own := RX11) pnRX11 rfl (Nat.le_of_ble_eq_true rfl) (fun G p e R s m args below meth c C hini => ?_)
  unfold fX11_beats
  refine zlocs (lb := [(0, zR x0), (1, zI x1), (2, zI x2)]) ⟨rfl, rfl, rfl, trivial⟩ ?_
  refine z_iconst C (pc' := 1) dX11_beats_0 kc_0 rfl ?_
  refine z_istore_n C (i := 3) (la' := [(3, zI 0), (0, zR x0), (1, zI x1), (2, zI x2)]) (pc' := 2) dX11_beats_1 rfl (by decide) rfl rfl ?_
  refine z_iconst C (pc' := 3) dX11_beats_2 kc_0 rfl ?_
  refine z_istore C (i := 4) (la' := [(4, zI 0), (3, zI 0), (0, zR x0), (1, zI x1), (2, zI x2)]) (pc' := 5) dX11_beats_3 (by decide) rfl rfl ?_
  refine zlocs (lb := [(0, zR x0), (1, zI x1), (2, zI x2), (3, zI 0), (4, zI 0)]) ⟨rfl, rfl, rfl, rfl, rfl, trivial⟩ ?_
  refine zlp_ind (fun (f : Int → Int → zMem → zRs) => ∀ (v1 : Int) (v2 : Int) (u3 : zMem), zSim G p l e R s m args below meth c w 5 (znc u0) (zM w 1 (znc u0) below args s) 5 [(0, zR x0), (1, zI x1), (2, zI x2), (3, zI v1), (4, zI v2)] [] u3 (f v1 v2 u3)) (fun _ _ _ => znone) (fun k4 hk4 v1 v2 u3 => ?_) _ _ _ _
  refine z_iload C (pc' := 7) dX11_beats_5 rfl rfl ?_
  refine z_aload_n C (i := 0) (pc' := 8) dX11_beats_7 rfl rfl rfl ?_
  refine z_getf C (pc' := 11) flRX11_190 dX11_beats_8 rfl (fun v5 => ?_)
  refine z_icmp_ge C (pc' := 65) (pf := 14) dX11_beats_11 rfl rfl (fun _ => ?_) (fun _ => ?_)
  ·
    refine z_iload_n C (i := 3) (pc' := 66) dX11_beats_65 rfl rfl rfl ?_
    refine z_if_le C (pc' := 73) (pf := 69) dX11_beats_66 rfl rfl (fun _ => ?_) (fun _ => ?_)
    ·
      refine z_iconst C (pc' := 74) dX11_beats_73 kc_0 rfl ?_
      exact z_zreturn C dX11_beats_74
    ·
      refine z_iconst C (pc' := 70) dX11_beats_69 kc_1 rfl ?_
      refine z_goto C (pc' := 74) dX11_beats_70 rfl ?_
      exact z_zreturn C dX11_beats_74
  ·
    refine z_aload_n C (i := 0) (pc' := 15) dX11_beats_14 rfl rfl rfl ?_
    refine z_iload C (pc' := 17) dX11_beats_15 rfl rfl ?_
    refine z_iload_n C (i := 1) (pc' := 18) dX11_beats_17 rfl rfl rfl ?_
    refine z_callV1 C (pc' := 21) lvRX11_222 lc_X11_has rfl dX11_beats_18 rfl (by decide) (rX11_has l w x0 v2 x1 u3) rfl (Nat.le_of_ble_eq_true rfl) (fun v6 u7 => ?_)
    refine zjoin (P := fun (f : Int → zMem → zRs) => ∀ (v8 : Int) (u9 : zMem), zSim G p l e R s m args below meth c w 5 (znc u0) (zM w 1 (znc u0) below args s) 59 [(0, zR x0), (1, zI x1), (2, zI x2), (3, zI v8), (4, zI v2)] [] u9 (f v8 u9)) (fun v8 u9 => ?_) (fun k10 hk10 => ?_)
    ·
      refine z_iinc C (i := 4) (la' := [(4, zI (zw32 (v2 + 1))), (0, zR x0), (1, zI x1), (2, zI x2), (3, zI v8)]) (pc' := 62) dX11_beats_59 rfl (by decide) rfl rfl ?_
      refine z_goto C (pc' := 5) dX11_beats_62 rfl ?_
      exact zlocs (lb := [(0, zR x0), (1, zI x1), (2, zI x2), (3, zI v8), (4, zI (zw32 (v2 + 1)))]) ⟨rfl, rfl, rfl, rfl, rfl, trivial⟩ (hk4 _ _ _)
    ·
      refine z_if_eq C (pc' := 59) (pf := 24) dX11_beats_21 rfl rfl (fun _ => ?_) (fun _ => ?_)
      ·
        exact zlocs (lb := [(0, zR x0), (1, zI x1), (2, zI x2), (3, zI v1), (4, zI v2)]) ⟨rfl, rfl, rfl, rfl, rfl, trivial⟩ (hk10 _ _)
      ·
        refine z_aload_n C (i := 0) (pc' := 25) dX11_beats_24 rfl rfl rfl ?_
        refine z_iload C (pc' := 27) dX11_beats_25 rfl rfl ?_
        refine z_iload_n C (i := 2) (pc' := 28) dX11_beats_27 rfl rfl rfl ?_
        refine z_callV1 C (pc' := 31) lvRX11_222 lc_X11_has rfl dX11_beats_28 rfl (by decide) (rX11_has l w x0 v2 x2 u7) rfl (Nat.le_of_ble_eq_true rfl) (fun v11 u12 => ?_)
        refine z_if_eq C (pc' := 59) (pf := 34) dX11_beats_31 rfl rfl (fun _ => ?_) (fun _ => ?_)
        ·
          exact zlocs (lb := [(0, zR x0), (1, zI x1), (2, zI x2), (3, zI v1), (4, zI v2)]) ⟨rfl, rfl, rfl, rfl, rfl, trivial⟩ (hk10 _ _)
        ·
          refine z_iload_n C (i := 3) (pc' := 35) dX11_beats_34 rfl rfl rfl ?_
          refine z_aload_n C (i := 0) (pc' := 36) dX11_beats_35 rfl rfl rfl ?_
          refine z_iload C (pc' := 38) dX11_beats_36 rfl rfl ?_
          refine z_iload_n C (i := 1) (pc' := 39) dX11_beats_38 rfl rfl rfl ?_
          refine z_callV1 C (pc' := 42) lvRX11_216 lc_X11_placeOf rfl dX11_beats_39 rfl (by decide) (rX11_placeOf l w x0 v2 x1 u12) rfl (Nat.le_of_ble_eq_true rfl) (fun v13 u14 => ?_)
          refine z_aload_n C (i := 0) (pc' := 43) dX11_beats_42 rfl rfl rfl ?_
          refine z_iload C (pc' := 45) dX11_beats_43 rfl rfl ?_
          refine z_iload_n C (i := 2) (pc' := 46) dX11_beats_45 rfl rfl rfl ?_
          refine z_callV1 C (pc' := 49) lvRX11_216 lc_X11_placeOf rfl dX11_beats_46 rfl (by decide) (rX11_placeOf l w x0 v2 x2 u14) rfl (Nat.le_of_ble_eq_true rfl) (fun v15 u16 => ?_)
          refine zjoin (P := fun (f : Int → zMem → zRs) => ∀ (v17 : Int) (u18 : zMem), zSim G p l e R s m args below meth c w 5 (znc u0) (zM w 1 (znc u0) below args s) 57 [(0, zR x0), (1, zI x1), (2, zI x2), (4, zI v2)] [zI v17, zI v1] u18 (f v17 u18)) (fun v17 u18 => ?_) (fun k19 hk19 => ?_)
          ·
            refine z_iadd C (pc' := 58) dX11_beats_57 rfl ?_
            refine z_istore_n C (i := 3) (la' := [(3, zI (zw32 (v1 + v17))), (0, zR x0), (1, zI x1), (2, zI x2), (4, zI v2)]) (pc' := 59) dX11_beats_58 rfl (by decide) rfl rfl ?_
            exact zlocs (lb := [(0, zR x0), (1, zI x1), (2, zI x2), (3, zI (zw32 (v1 + v17))), (4, zI v2)]) ⟨rfl, rfl, rfl, rfl, rfl, trivial⟩ (hk10 _ _)
          ·
            refine z_icmp_ge C (pc' := 56) (pf := 52) dX11_beats_49 rfl rfl (fun _ => ?_) (fun _ => ?_)
            ·
              refine z_iconst C (pc' := 57) dX11_beats_56 kc_m1 rfl ?_
              exact zlocs (lb := [(0, zR x0), (1, zI x1), (2, zI x2), (4, zI v2)]) ⟨rfl, rfl, rfl, rfl, trivial⟩ (hk19 _ _)
            ·
              refine z_iconst C (pc' := 53) dX11_beats_52 kc_1 rfl ?_
              refine z_goto C (pc' := 57) dX11_beats_53 rfl ?_
              exact zlocs (lb := [(0, zR x0), (1, zI x1), (2, zI x2), (4, zI v2)]) ⟨rfl, rfl, rfl, rfl, trivial⟩ (hk19 _ _)
def fX11_nextOf (x0 x1 : Int) (u0 : zMem) : zRs := zlp (fun _ _ _ _ => none) (fun k5 (v1 : Int) (v2 : Int) (v3 : Int) (u4 : zMem) => zgf 11 6 x0 u4 (fun v6 => if v3 ≥ v6 then (some (v1, u4)) else (zjn (fun (v7 : Int) (v8 : Int) (u9 : zMem) => k5 v7 v8 (zw32 (v3 + 1)) u9) (fun k10 => if (zand (zshr x1 v3) 1) ≠ 0 then (zlp (fun _ _ _ => none) (fun k14 (v11 : Int) (v12 : Int) (u13 : zMem) => zgf 11 6 x0 u13 (fun v15 => if v12 ≥ v15 then (zjn (fun (u16 : zMem) => k10 v3 v11 u16) (fun k17 => if v1 < 0 then (k17 u13) else (if v11 ≤ v2 then (k10 v1 v2 u13) else (k17 u13)))) else (zjn (fun (v18 : Int) (u19 : zMem) => k14 (zw32 (v11 + v18)) (zw32 (v12 + 1)) u19) (fun k20 => zjn (fun (u21 : zMem) => k20 0 u21) (fun k22 => if (zand (zshr x1 v12) 1) ≠ 1 then (k22 u13) else (if v12 = v3 then (k22 u13) else (zvc 11 x0 (fX11_beats x0 v3 v12 u13) (fun v23 u24 => if v23 = 0 then (k22 u24) else (k20 1 u24))))))))) 1000000 0 0 u4) else (k10 v1 v2 u4))))) 1000000 (-1) 0 0 u0
set_option maxRecDepth 100000 in
set_option maxHeartbeats 4000000 in
theorem rX11_nextOf (l : Launch) (w : zW) (x0 x1 : Int) (u0 : zMem) : zSpc l w 4 yX11_nextOf cX11_nextOf 7 (some .int) 1 [zR x0, zI x1] u0 (fX11_nextOf x0 x1 u0) := by
  refine zSpc_of (own := RX11) pnRX11 rfl (Nat.le_of_ble_eq_true rfl) (fun G p e R s m args below meth c C hini => ?_)
  unfold fX11_nextOf
  refine zlocs (lb := [(0, zR x0), (1, zI x1)]) ⟨rfl, rfl, trivial⟩ ?_
  refine z_iconst C (pc' := 1) dX11_nextOf_0 kc_m1 rfl ?_
  refine z_istore_n C (i := 2) (la' := [(2, zI (-1)), (0, zR x0), (1, zI x1)]) (pc' := 2) dX11_nextOf_1 rfl (by decide) rfl rfl ?_
  refine z_iconst C (pc' := 3) dX11_nextOf_2 kc_0 rfl ?_
  refine z_istore_n C (i := 3) (la' := [(3, zI 0), (2, zI (-1)), (0, zR x0), (1, zI x1)]) (pc' := 4) dX11_nextOf_3 rfl (by decide) rfl rfl ?_
  refine z_iconst C (pc' := 5) dX11_nextOf_4 kc_0 rfl ?_
  refine z_istore C (i := 4) (la' := [(4, zI 0), (3, zI 0), (2, zI (-1)), (0, zR x0), (1, zI x1)]) (pc' := 7) dX11_nextOf_5 (by decide) rfl rfl ?_
  refine zlocs (lb := [(0, zR x0), (1, zI x1), (2, zI (-1)), (3, zI 0), (4, zI 0)]) ⟨rfl, rfl, rfl, rfl, rfl, trivial⟩ ?_
  refine zlp_ind (fun (f : Int → Int → Int → zMem → zRs) => ∀ (v1 : Int) (v2 : Int) (v3 : Int) (u4 : zMem), zSim G p l e R s m args below meth c w 7 (znc u0) (zM w 1 (znc u0) below args s) 7 [(0, zR x0), (1, zI x1), (2, zI v1), (3, zI v2), (4, zI v3)] [] u4 (f v1 v2 v3 u4)) (fun _ _ _ _ => znone) (fun k5 hk5 v1 v2 v3 u4 => ?_) _ _ _ _ _
  refine z_iload C (pc' := 9) dX11_nextOf_7 rfl rfl ?_
  refine z_aload_n C (i := 0) (pc' := 10) dX11_nextOf_9 rfl rfl rfl ?_
  refine z_getf C (pc' := 13) flRX11_85 dX11_nextOf_10 rfl (fun v6 => ?_)
  refine z_icmp_ge C (pc' := 109) (pf := 16) dX11_nextOf_13 rfl rfl (fun _ => ?_) (fun _ => ?_)
  ·
    refine z_iload_n C (i := 2) (pc' := 110) dX11_nextOf_109 rfl rfl rfl ?_
    exact z_ireturn C dX11_nextOf_110
  ·
    refine z_iload_n C (i := 1) (pc' := 17) dX11_nextOf_16 rfl rfl rfl ?_
    refine z_iload C (pc' := 19) dX11_nextOf_17 rfl rfl ?_
    refine z_ishr C (pc' := 20) dX11_nextOf_19 rfl ?_
    refine z_iconst C (pc' := 21) dX11_nextOf_20 kc_1 rfl ?_
    refine z_iand C (pc' := 22) dX11_nextOf_21 rfl ?_
    refine zjoin (P := fun (f : Int → Int → zMem → zRs) => ∀ (v7 : Int) (v8 : Int) (u9 : zMem), zSim G p l e R s m args below meth c w 7 (znc u0) (zM w 1 (znc u0) below args s) 103 [(0, zR x0), (1, zI x1), (2, zI v7), (3, zI v8), (4, zI v3)] [] u9 (f v7 v8 u9)) (fun v7 v8 u9 => ?_) (fun k10 hk10 => ?_)
    ·
      refine z_iinc C (i := 4) (la' := [(4, zI (zw32 (v3 + 1))), (0, zR x0), (1, zI x1), (2, zI v7), (3, zI v8)]) (pc' := 106) dX11_nextOf_103 rfl (by decide) rfl rfl ?_
      refine z_goto C (pc' := 7) dX11_nextOf_106 rfl ?_
      exact zlocs (lb := [(0, zR x0), (1, zI x1), (2, zI v7), (3, zI v8), (4, zI (zw32 (v3 + 1)))]) ⟨rfl, rfl, rfl, rfl, rfl, trivial⟩ (hk5 _ _ _ _)
    ·
      refine z_if_ne C (pc' := 28) (pf := 25) dX11_nextOf_22 rfl rfl (fun _ => ?_) (fun _ => ?_)
      ·
        refine z_iconst C (pc' := 29) dX11_nextOf_28 kc_0 rfl ?_
        refine z_istore C (i := 5) (la' := [(5, zI 0), (0, zR x0), (1, zI x1), (2, zI v1), (3, zI v2), (4, zI v3)]) (pc' := 31) dX11_nextOf_29 (by decide) rfl rfl ?_
        refine z_iconst C (pc' := 32) dX11_nextOf_31 kc_0 rfl ?_
        refine z_istore C (i := 6) (la' := [(6, zI 0), (5, zI 0), (0, zR x0), (1, zI x1), (2, zI v1), (3, zI v2), (4, zI v3)]) (pc' := 34) dX11_nextOf_32 (by decide) rfl rfl ?_
        refine zlocs (lb := [(0, zR x0), (1, zI x1), (2, zI v1), (3, zI v2), (4, zI v3), (5, zI 0), (6, zI 0)]) ⟨rfl, rfl, rfl, rfl, rfl, rfl, rfl, trivial⟩ ?_
        refine zlp_ind (fun (f : Int → Int → zMem → zRs) => ∀ (v11 : Int) (v12 : Int) (u13 : zMem), zSim G p l e R s m args below meth c w 7 (znc u0) (zM w 1 (znc u0) below args s) 34 [(0, zR x0), (1, zI x1), (2, zI v1), (3, zI v2), (4, zI v3), (5, zI v11), (6, zI v12)] [] u13 (f v11 v12 u13)) (fun _ _ _ => znone) (fun k14 hk14 v11 v12 u13 => ?_) _ _ _ _
        refine z_iload C (pc' := 36) dX11_nextOf_34 rfl rfl ?_
        refine z_aload_n C (i := 0) (pc' := 37) dX11_nextOf_36 rfl rfl rfl ?_
        refine z_getf C (pc' := 40) flRX11_85 dX11_nextOf_37 rfl (fun v15 => ?_)
        refine z_icmp_ge C (pc' := 87) (pf := 43) dX11_nextOf_40 rfl rfl (fun _ => ?_) (fun _ => ?_)
        ·
          refine z_iload_n C (i := 2) (pc' := 88) dX11_nextOf_87 rfl rfl rfl ?_
          refine zjoin (P := fun (f : zMem → zRs) => ∀ (u16 : zMem), zSim G p l e R s m args below meth c w 7 (znc u0) (zM w 1 (znc u0) below args s) 97 [(0, zR x0), (1, zI x1), (4, zI v3), (5, zI v11)] [] u16 (f u16)) (fun u16 => ?_) (fun k17 hk17 => ?_)
          ·
            refine z_iload C (pc' := 99) dX11_nextOf_97 rfl rfl ?_
            refine z_istore_n C (i := 2) (la' := [(2, zI v3), (0, zR x0), (1, zI x1), (4, zI v3), (5, zI v11)]) (pc' := 100) dX11_nextOf_99 rfl (by decide) rfl rfl ?_
            refine z_iload C (pc' := 102) dX11_nextOf_100 rfl rfl ?_
            refine z_istore_n C (i := 3) (la' := [(3, zI v11), (2, zI v3), (0, zR x0), (1, zI x1), (4, zI v3), (5, zI v11)]) (pc' := 103) dX11_nextOf_102 rfl (by decide) rfl rfl ?_
            exact zlocs (lb := [(0, zR x0), (1, zI x1), (2, zI v3), (3, zI v11), (4, zI v3)]) ⟨rfl, rfl, rfl, rfl, rfl, trivial⟩ (hk10 _ _ _)
          ·
            refine z_if_lt C (pc' := 97) (pf := 91) dX11_nextOf_88 rfl rfl (fun _ => ?_) (fun _ => ?_)
            ·
              exact zlocs (lb := [(0, zR x0), (1, zI x1), (4, zI v3), (5, zI v11)]) ⟨rfl, rfl, rfl, rfl, trivial⟩ (hk17 _)
            ·
              refine z_iload C (pc' := 93) dX11_nextOf_91 rfl rfl ?_
              refine z_iload_n C (i := 3) (pc' := 94) dX11_nextOf_93 rfl rfl rfl ?_
              refine z_icmp_le C (pc' := 103) (pf := 97) dX11_nextOf_94 rfl rfl (fun _ => ?_) (fun _ => ?_)
              ·
                exact zlocs (lb := [(0, zR x0), (1, zI x1), (2, zI v1), (3, zI v2), (4, zI v3)]) ⟨rfl, rfl, rfl, rfl, rfl, trivial⟩ (hk10 _ _ _)
              ·
                exact zlocs (lb := [(0, zR x0), (1, zI x1), (4, zI v3), (5, zI v11)]) ⟨rfl, rfl, rfl, rfl, trivial⟩ (hk17 _)
        ·
          refine z_iload C (pc' := 45) dX11_nextOf_43 rfl rfl ?_
          refine z_iload_n C (i := 1) (pc' := 46) dX11_nextOf_45 rfl rfl rfl ?_
          refine z_iload C (pc' := 48) dX11_nextOf_46 rfl rfl ?_
          refine z_ishr C (pc' := 49) dX11_nextOf_48 rfl ?_
          refine z_iconst C (pc' := 50) dX11_nextOf_49 kc_1 rfl ?_
          refine z_iand C (pc' := 51) dX11_nextOf_50 rfl ?_
          refine z_iconst C (pc' := 52) dX11_nextOf_51 kc_1 rfl ?_
          refine zjoin (P := fun (f : Int → zMem → zRs) => ∀ (v18 : Int) (u19 : zMem), zSim G p l e R s m args below meth c w 7 (znc u0) (zM w 1 (znc u0) below args s) 78 [(0, zR x0), (1, zI x1), (2, zI v1), (3, zI v2), (4, zI v3), (6, zI v12)] [zI v18, zI v11] u19 (f v18 u19)) (fun v18 u19 => ?_) (fun k20 hk20 => ?_)
          ·
            refine z_iadd C (pc' := 79) dX11_nextOf_78 rfl ?_
            refine z_istore C (i := 5) (la' := [(5, zI (zw32 (v11 + v18))), (0, zR x0), (1, zI x1), (2, zI v1), (3, zI v2), (4, zI v3), (6, zI v12)]) (pc' := 81) dX11_nextOf_79 (by decide) rfl rfl ?_
            refine z_iinc C (i := 6) (la' := [(6, zI (zw32 (v12 + 1))), (5, zI (zw32 (v11 + v18))), (0, zR x0), (1, zI x1), (2, zI v1), (3, zI v2), (4, zI v3)]) (pc' := 84) dX11_nextOf_81 rfl (by decide) rfl rfl ?_
            refine z_goto C (pc' := 34) dX11_nextOf_84 rfl ?_
            exact zlocs (lb := [(0, zR x0), (1, zI x1), (2, zI v1), (3, zI v2), (4, zI v3), (5, zI (zw32 (v11 + v18))), (6, zI (zw32 (v12 + 1)))]) ⟨rfl, rfl, rfl, rfl, rfl, rfl, rfl, trivial⟩ (hk14 _ _ _)
          ·
            refine zjoin (P := fun (f : zMem → zRs) => ∀ (u21 : zMem), zSim G p l e R s m args below meth c w 7 (znc u0) (zM w 1 (znc u0) below args s) 77 [(0, zR x0), (1, zI x1), (2, zI v1), (3, zI v2), (4, zI v3), (6, zI v12)] [zI v11] u21 (f u21)) (fun u21 => ?_) (fun k22 hk22 => ?_)
            ·
              refine z_iconst C (pc' := 78) dX11_nextOf_77 kc_0 rfl ?_
              exact zlocs (lb := [(0, zR x0), (1, zI x1), (2, zI v1), (3, zI v2), (4, zI v3), (6, zI v12)]) ⟨rfl, rfl, rfl, rfl, rfl, rfl, trivial⟩ (hk20 _ _)
            ·
              refine z_icmp_ne C (pc' := 77) (pf := 55) dX11_nextOf_52 rfl rfl (fun _ => ?_) (fun _ => ?_)
              ·
                exact zlocs (lb := [(0, zR x0), (1, zI x1), (2, zI v1), (3, zI v2), (4, zI v3), (6, zI v12)]) ⟨rfl, rfl, rfl, rfl, rfl, rfl, trivial⟩ (hk22 _)
              ·
                refine z_iload C (pc' := 57) dX11_nextOf_55 rfl rfl ?_
                refine z_iload C (pc' := 59) dX11_nextOf_57 rfl rfl ?_
                refine z_icmp_eq C (pc' := 77) (pf := 62) dX11_nextOf_59 rfl rfl (fun _ => ?_) (fun _ => ?_)
                ·
                  exact zlocs (lb := [(0, zR x0), (1, zI x1), (2, zI v1), (3, zI v2), (4, zI v3), (6, zI v12)]) ⟨rfl, rfl, rfl, rfl, rfl, rfl, trivial⟩ (hk22 _)
                ·
                  refine z_aload_n C (i := 0) (pc' := 63) dX11_nextOf_62 rfl rfl rfl ?_
                  refine z_iload C (pc' := 65) dX11_nextOf_63 rfl rfl ?_
                  refine z_iload C (pc' := 67) dX11_nextOf_65 rfl rfl ?_
                  refine z_callV1 C (pc' := 70) lvRX11_238 lc_X11_beats rfl dX11_nextOf_67 rfl (by decide) (rX11_beats l w x0 v3 v12 u13) rfl (Nat.le_of_ble_eq_true rfl) (fun v23 u24 => ?_)
                  refine z_if_eq C (pc' := 77) (pf := 73) dX11_nextOf_70 rfl rfl (fun _ => ?_) (fun _ => ?_)
                  ·
                    exact zlocs (lb := [(0, zR x0), (1, zI x1), (2, zI v1), (3, zI v2), (4, zI v3), (6, zI v12)]) ⟨rfl, rfl, rfl, rfl, rfl, rfl, trivial⟩ (hk22 _)
                  ·
                    refine z_iconst C (pc' := 74) dX11_nextOf_73 kc_1 rfl ?_
                    refine z_goto C (pc' := 78) dX11_nextOf_74 rfl ?_
                    exact zlocs (lb := [(0, zR x0), (1, zI x1), (2, zI v1), (3, zI v2), (4, zI v3), (6, zI v12)]) ⟨rfl, rfl, rfl, rfl, rfl, rfl, trivial⟩ (hk20 _ _)
      ·
        refine z_goto C (pc' := 103) dX11_nextOf_25 rfl ?_
        exact zlocs (lb := [(0, zR x0), (1, zI x1), (2, zI v1), (3, zI v2), (4, zI v3)]) ⟨rfl, rfl, rfl, rfl, rfl, trivial⟩ (hk10 _ _ _)
def fX11_order (x0 x1 : Int) (u0 : zMem) : zRs := zlp (fun _ _ _ => none) (fun k4 (v1 : Int) (v2 : Int) (u3 : zMem) => zgf 11 6 x0 u3 (fun v5 => if v2 ≥ v5 then (if x1 ≥ 0 then (zlp (fun _ _ _ => none) (fun k9 (v6 : Int) (v7 : Int) (u8 : zMem) => if v7 > x1 then (some ((-1), u8)) else (if v6 = 0 then (some ((-1), u8)) else (zvc 11 x0 (fX11_nextOf x0 v6 u8) (fun v10 u11 => if v7 ≠ x1 then (k9 (zand v6 (zxor (zshl 1 v10) (-1))) (zw32 (v7 + 1)) u11) else (some (v10, u11)))))) 1000000 v1 0 u3) else (some ((-1), u3))) else (zvc 11 x0 (fX11_hadBy x0 v2 u3) (fun v12 u13 => zjn (fun (v14 : Int) (u15 : zMem) => k4 (zor v1 v14) (zw32 (v2 + 1)) u15) (fun k16 => if v12 ≤ 0 then (k16 0 u13) else (k16 (zshl 1 v2) u13)))))) 1000000 0 0 u0
set_option maxRecDepth 100000 in
set_option maxHeartbeats 4000000 in
theorem rX11_order (l : Launch) (w : zW) (x0 x1 : Int) (u0 : zMem) : zSpc l w 5 yX11_order cX11_order 5 (some .int) 1 [zR x0, zI x1] u0 (fX11_order x0 x1 u0) := by
  refine zSpc_of (own := RX11) pnRX11 rfl (Nat.le_of_ble_eq_true rfl) (fun G p e R s m args below meth c C hini => ?_)
  unfold fX11_order
  refine zlocs (lb := [(0, zR x0), (1, zI x1)]) ⟨rfl, rfl, trivial⟩ ?_
  refine z_iconst C (pc' := 1) dX11_order_0 kc_0 rfl ?_
  refine z_istore_n C (i := 2) (la' := [(2, zI 0), (0, zR x0), (1, zI x1)]) (pc' := 2) dX11_order_1 rfl (by decide) rfl rfl ?_
  refine z_iconst C (pc' := 3) dX11_order_2 kc_0 rfl ?_
  refine z_istore_n C (i := 3) (la' := [(3, zI 0), (2, zI 0), (0, zR x0), (1, zI x1)]) (pc' := 4) dX11_order_3 rfl (by decide) rfl rfl ?_
  refine zlocs (lb := [(0, zR x0), (1, zI x1), (2, zI 0), (3, zI 0)]) ⟨rfl, rfl, rfl, rfl, trivial⟩ ?_
  refine zlp_ind (fun (f : Int → Int → zMem → zRs) => ∀ (v1 : Int) (v2 : Int) (u3 : zMem), zSim G p l e R s m args below meth c w 5 (znc u0) (zM w 1 (znc u0) below args s) 4 [(0, zR x0), (1, zI x1), (2, zI v1), (3, zI v2)] [] u3 (f v1 v2 u3)) (fun _ _ _ => znone) (fun k4 hk4 v1 v2 u3 => ?_) _ _ _ _
  refine z_iload_n C (i := 3) (pc' := 5) dX11_order_4 rfl rfl rfl ?_
  refine z_aload_n C (i := 0) (pc' := 6) dX11_order_5 rfl rfl rfl ?_
  refine z_getf C (pc' := 9) flRX11_85 dX11_order_6 rfl (fun v5 => ?_)
  refine z_icmp_ge C (pc' := 36) (pf := 12) dX11_order_9 rfl rfl (fun _ => ?_) (fun _ => ?_)
  ·
    refine z_iload_n C (i := 1) (pc' := 37) dX11_order_36 rfl rfl rfl ?_
    refine z_if_ge C (pc' := 42) (pf := 40) dX11_order_37 rfl rfl (fun _ => ?_) (fun _ => ?_)
    ·
      refine z_iconst C (pc' := 43) dX11_order_42 kc_0 rfl ?_
      refine z_istore_n C (i := 3) (la' := [(3, zI 0), (0, zR x0), (1, zI x1), (2, zI v1)]) (pc' := 44) dX11_order_43 rfl (by decide) rfl rfl ?_
      refine zlocs (lb := [(0, zR x0), (1, zI x1), (2, zI v1), (3, zI 0)]) ⟨rfl, rfl, rfl, rfl, trivial⟩ ?_
      refine zlp_ind (fun (f : Int → Int → zMem → zRs) => ∀ (v6 : Int) (v7 : Int) (u8 : zMem), zSim G p l e R s m args below meth c w 5 (znc u0) (zM w 1 (znc u0) below args s) 44 [(0, zR x0), (1, zI x1), (2, zI v6), (3, zI v7)] [] u8 (f v6 v7 u8)) (fun _ _ _ => znone) (fun k9 hk9 v6 v7 u8 => ?_) _ _ _ _
      refine z_iload_n C (i := 3) (pc' := 45) dX11_order_44 rfl rfl rfl ?_
      refine z_iload_n C (i := 1) (pc' := 46) dX11_order_45 rfl rfl rfl ?_
      refine z_icmp_gt C (pc' := 83) (pf := 49) dX11_order_46 rfl rfl (fun _ => ?_) (fun _ => ?_)
      ·
        refine z_iconst C (pc' := 84) dX11_order_83 kc_m1 rfl ?_
        exact z_ireturn C dX11_order_84
      ·
        refine z_iload_n C (i := 2) (pc' := 50) dX11_order_49 rfl rfl rfl ?_
        refine z_if_eq C (pc' := 83) (pf := 53) dX11_order_50 rfl rfl (fun _ => ?_) (fun _ => ?_)
        ·
          refine z_iconst C (pc' := 84) dX11_order_83 kc_m1 rfl ?_
          exact z_ireturn C dX11_order_84
        ·
          refine z_aload_n C (i := 0) (pc' := 54) dX11_order_53 rfl rfl rfl ?_
          refine z_iload_n C (i := 2) (pc' := 55) dX11_order_54 rfl rfl rfl ?_
          refine z_callV1 C (pc' := 58) lvRX11_241 lc_X11_nextOf rfl dX11_order_55 rfl (by decide) (rX11_nextOf l w x0 v6 u8) rfl (Nat.le_of_ble_eq_true rfl) (fun v10 u11 => ?_)
          refine z_istore C (i := 4) (la' := [(4, zI v10), (0, zR x0), (1, zI x1), (2, zI v6), (3, zI v7)]) (pc' := 60) dX11_order_58 (by decide) rfl rfl ?_
          refine z_iload_n C (i := 3) (pc' := 61) dX11_order_60 rfl rfl rfl ?_
          refine z_iload_n C (i := 1) (pc' := 62) dX11_order_61 rfl rfl rfl ?_
          refine z_icmp_ne C (pc' := 68) (pf := 65) dX11_order_62 rfl rfl (fun _ => ?_) (fun _ => ?_)
          ·
            refine z_iload_n C (i := 2) (pc' := 69) dX11_order_68 rfl rfl rfl ?_
            refine z_iconst C (pc' := 70) dX11_order_69 kc_1 rfl ?_
            refine z_iload C (pc' := 72) dX11_order_70 rfl rfl ?_
            refine z_ishl C (pc' := 73) dX11_order_72 rfl ?_
            refine z_iconst C (pc' := 74) dX11_order_73 kc_m1 rfl ?_
            refine z_ixor C (pc' := 75) dX11_order_74 rfl ?_
            refine z_iand C (pc' := 76) dX11_order_75 rfl ?_
            refine z_istore_n C (i := 2) (la' := [(2, zI (zand v6 (zxor (zshl 1 v10) (-1)))), (4, zI v10), (0, zR x0), (1, zI x1), (3, zI v7)]) (pc' := 77) dX11_order_76 rfl (by decide) rfl rfl ?_
            refine z_iinc C (i := 3) (la' := [(3, zI (zw32 (v7 + 1))), (2, zI (zand v6 (zxor (zshl 1 v10) (-1)))), (4, zI v10), (0, zR x0), (1, zI x1)]) (pc' := 80) dX11_order_77 rfl (by decide) rfl rfl ?_
            refine z_goto C (pc' := 44) dX11_order_80 rfl ?_
            exact zlocs (lb := [(0, zR x0), (1, zI x1), (2, zI (zand v6 (zxor (zshl 1 v10) (-1)))), (3, zI (zw32 (v7 + 1)))]) ⟨rfl, rfl, rfl, rfl, trivial⟩ (hk9 _ _ _)
          ·
            refine z_iload C (pc' := 67) dX11_order_65 rfl rfl ?_
            exact z_ireturn C dX11_order_67
    ·
      refine z_iconst C (pc' := 41) dX11_order_40 kc_m1 rfl ?_
      exact z_ireturn C dX11_order_41
  ·
    refine z_iload_n C (i := 2) (pc' := 13) dX11_order_12 rfl rfl rfl ?_
    refine z_aload_n C (i := 0) (pc' := 14) dX11_order_13 rfl rfl rfl ?_
    refine z_iload_n C (i := 3) (pc' := 15) dX11_order_14 rfl rfl rfl ?_
    refine z_callV1 C (pc' := 18) lvRX11_235 lc_X11_hadBy rfl dX11_order_15 rfl (by decide) (rX11_hadBy l w x0 v2 u3) rfl (Nat.le_of_ble_eq_true rfl) (fun v12 u13 => ?_)
    refine zjoin (P := fun (f : Int → zMem → zRs) => ∀ (v14 : Int) (u15 : zMem), zSim G p l e R s m args below meth c w 5 (znc u0) (zM w 1 (znc u0) below args s) 28 [(0, zR x0), (1, zI x1), (3, zI v2)] [zI v14, zI v1] u15 (f v14 u15)) (fun v14 u15 => ?_) (fun k16 hk16 => ?_)
    ·
      refine z_ior C (pc' := 29) dX11_order_28 rfl ?_
      refine z_istore_n C (i := 2) (la' := [(2, zI (zor v1 v14)), (0, zR x0), (1, zI x1), (3, zI v2)]) (pc' := 30) dX11_order_29 rfl (by decide) rfl rfl ?_
      refine z_iinc C (i := 3) (la' := [(3, zI (zw32 (v2 + 1))), (2, zI (zor v1 v14)), (0, zR x0), (1, zI x1)]) (pc' := 33) dX11_order_30 rfl (by decide) rfl rfl ?_
      refine z_goto C (pc' := 4) dX11_order_33 rfl ?_
      exact zlocs (lb := [(0, zR x0), (1, zI x1), (2, zI (zor v1 v14)), (3, zI (zw32 (v2 + 1)))]) ⟨rfl, rfl, rfl, rfl, trivial⟩ (hk4 _ _ _)
    ·
      refine z_if_le C (pc' := 27) (pf := 21) dX11_order_18 rfl rfl (fun _ => ?_) (fun _ => ?_)
      ·
        refine z_iconst C (pc' := 28) dX11_order_27 kc_0 rfl ?_
        exact zlocs (lb := [(0, zR x0), (1, zI x1), (3, zI v2)]) ⟨rfl, rfl, rfl, trivial⟩ (hk16 _ _)
      ·
        refine z_iconst C (pc' := 22) dX11_order_21 kc_1 rfl ?_
        refine z_iload_n C (i := 3) (pc' := 23) dX11_order_22 rfl rfl rfl ?_
        refine z_ishl C (pc' := 24) dX11_order_23 rfl ?_
        refine z_goto C (pc' := 28) dX11_order_24 rfl ?_
        exact zlocs (lb := [(0, zR x0), (1, zI x1), (3, zI v2)]) ⟨rfl, rfl, rfl, trivial⟩ (hk16 _ _)
def fX11_common (x0 x1 : Int) (u0 : zMem) : zRs := zlp (fun _ _ _ => none) (fun k4 (v1 : Int) (v2 : Int) (u3 : zMem) => if (zcmp v2 0) = 0 then (some (v1, u3)) else (znz v2 (k4 v2 (Int.tmod v1 v2) u3))) 1000000 x0 x1 u0
set_option maxRecDepth 100000 in
set_option maxHeartbeats 4000000 in
theorem rX11_common (l : Launch) (w : zW) (x0 x1 : Int) (u0 : zMem) : zSpc l w 1 yX11_common cX11_common 10 (some .long) 2 [zL x0, zL x1] u0 (fX11_common x0 x1 u0) := by
  refine zSpc_of (own := RX11) pnRX11 rfl (Nat.le_of_ble_eq_true rfl) (fun G p e R s m args below meth c C hini => ?_)
  unfold fX11_common
  refine zlocs (lb := [(0, zL x0), (2, zL x1)]) ⟨rfl, rfl, trivial⟩ ?_
  refine z_lload_n C (i := 0) (pc' := 1) dX11_common_0 rfl rfl rfl ?_
  refine z_lstore C (i := 4) (la' := [(4, zL x0), (0, zL x0), (2, zL x1)]) (pc' := 3) dX11_common_1 (by decide) rfl rfl ?_
  refine z_lload_n C (i := 2) (pc' := 4) dX11_common_3 rfl rfl rfl ?_
  refine z_lstore C (i := 6) (la' := [(6, zL x1), (4, zL x0), (0, zL x0), (2, zL x1)]) (pc' := 6) dX11_common_4 (by decide) rfl rfl ?_
  refine zlocs (lb := [(4, zL x0), (6, zL x1)]) ⟨rfl, rfl, trivial⟩ ?_
  refine zlp_ind (fun (f : Int → Int → zMem → zRs) => ∀ (v1 : Int) (v2 : Int) (u3 : zMem), zSim G p l e R s m args below meth c w 10 (znc u0) (zM w 2 (znc u0) below args s) 6 [(4, zL v1), (6, zL v2)] [] u3 (f v1 v2 u3)) (fun _ _ _ => znone) (fun k4 hk4 v1 v2 u3 => ?_) _ _ _ _
  refine z_lload C (pc' := 8) dX11_common_6 rfl rfl ?_
  refine z_lconst C (pc' := 9) dX11_common_8 kl_0 rfl ?_
  refine z_lcmp C (pc' := 10) dX11_common_9 rfl ?_
  refine z_if_eq C (pc' := 31) (pf := 13) dX11_common_10 rfl rfl (fun _ => ?_) (fun _ => ?_)
  ·
    refine z_lload C (pc' := 33) dX11_common_31 rfl rfl ?_
    exact z_lreturn C dX11_common_33
  ·
    refine z_lload C (pc' := 15) dX11_common_13 rfl rfl ?_
    refine z_lload C (pc' := 17) dX11_common_15 rfl rfl ?_
    refine z_lrem C (pc' := 18) dX11_common_17 rfl (fun _ => ?_)
    refine z_lstore C (i := 8) (la' := [(8, zL (Int.tmod v1 v2)), (4, zL v1), (6, zL v2)]) (pc' := 20) dX11_common_18 (by decide) rfl rfl ?_
    refine z_lload C (pc' := 22) dX11_common_20 rfl rfl ?_
    refine z_lstore C (i := 4) (la' := [(4, zL v2), (8, zL (Int.tmod v1 v2)), (6, zL v2)]) (pc' := 24) dX11_common_22 (by decide) rfl rfl ?_
    refine z_lload C (pc' := 26) dX11_common_24 rfl rfl ?_
    refine z_lstore C (i := 6) (la' := [(6, zL (Int.tmod v1 v2)), (4, zL v2), (8, zL (Int.tmod v1 v2))]) (pc' := 28) dX11_common_26 (by decide) rfl rfl ?_
    refine z_goto C (pc' := 6) dX11_common_28 rfl ?_
    exact zlocs (lb := [(4, zL v2), (6, zL (Int.tmod v1 v2))]) ⟨rfl, rfl, trivial⟩ (hk4 _ _ _)
def fX11_said (x0 x1 x2 x3 : Int) (u0 : zMem) : zRs := zvc 11 x0 (fX11_isSaying x0 x1 u0) (fun v1 u2 => if v1 = 0 then (some ((-9223372036854775808), u2)) else (zcall (fX11_within x2 1 99 u2) (fun v3 u4 => if v3 = 0 then (some ((-9223372036854775808), u4)) else (zcall (fX11_within x3 0 1 u4) (fun v5 u6 => if v5 ≠ 0 then (zlp (fun _ _ _ _ _ => none) (fun k12 (v7 : Int) (v8 : Int) (v9 : Int) (v10 : Int) (u11 : zMem) => zgf 11 20 x0 u11 (fun v13 => zjn (fun (u14 : zMem) => if (zcmp v7 0) ≠ 0 then (zcall (fX11_common v7 (zw64 (v7 + v8)) u14) (fun v16 u17 => if x3 ≠ 0 then (znz v16 (some ((zw64 (Int.tdiv (zw64 (v7 + v8)) v16)), u17))) else (znz v16 (some ((zw64 (Int.tdiv v7 v16)), u17))))) else (some (x3, u14))) (fun k15 => if v10 ≥ v13 then (k15 u11) else (if v9 ≥ 7 then (k15 u11) else (zgf 11 21 x0 u11 (fun v18 => zald 20 v18 v10 u11 (fun v19 => zjn (fun (v20 : Int) (v21 : Int) (v22 : Int) (u23 : zMem) => k12 v20 v21 v22 (zw32 (v10 + 1)) u23) (fun k24 => if v19 < 0 then (k24 v7 v8 v9 u11) else (zgf 11 21 x0 u11 (fun v25 => zald 20 v25 v10 u11 (fun v26 => zvc 11 x0 (fX11_heedOf x0 v26 x1 u11) (fun v27 u28 => zvc 11 x0 (fX11_has x0 v10 x1 u28) (fun v29 u30 => zjn (fun (v31 : Int) (u32 : zMem) => zvc 11 x0 (fX11_has x0 v10 x1 u32) (fun v34 u35 => zjn (fun (v36 : Int) (u37 : zMem) => k24 (zw64 (v7 * v31)) (zw64 (v8 * v36)) (zw32 (v9 + 1)) u37) (fun k38 => if v34 = 0 then (k38 100 u35) else (k38 0 u35)))) (fun k33 => if v29 = 0 then (k33 (zw32 (100 - v27)) u30) else (k33 v27 u30))))))))))))))) 1000000 x2 (zw32 (100 - x2)) 0 0 u6) else (some ((-9223372036854775808), u6)))))))
set_option maxRecDepth 100000 in
set_option maxHeartbeats 4000000 in
theorem rX11_said (l : Launch) (w : zW) (x0 x1 x2 x3 : Int) (u0 : zMem) : zSpc l w 206 yX11_said cX11_said 11 (some .long) 2 [zR x0, zI x1, zI x2, zI x3] u0 (fX11_said x0 x1 x2 x3 u0) := by
  refine zSpc_of (own := RX11) pnRX11 rfl (Nat.le_of_ble_eq_true rfl) (fun G p e R s m args below meth c C hini => ?_)
  unfold fX11_said
  refine zlocs (lb := [(0, zR x0), (1, zI x1), (2, zI x2), (3, zI x3)]) ⟨rfl, rfl, rfl, rfl, trivial⟩ ?_
  refine z_aload_n C (i := 0) (pc' := 1) dX11_said_0 rfl rfl rfl ?_
  refine z_iload_n C (i := 1) (pc' := 2) dX11_said_1 rfl rfl rfl ?_
  refine z_callV1 C (pc' := 5) lvRX11_114 lc_X11_isSaying rfl dX11_said_2 rfl (by decide) (rX11_isSaying l w x0 x1 u0) rfl (Nat.le_of_ble_eq_true rfl) (fun v1 u2 => ?_)
  refine z_if_eq C (pc' := 30) (pf := 8) dX11_said_5 rfl rfl (fun _ => ?_) (fun _ => ?_)
  ·
    refine z_ldc2 C (pc' := 33) dX11_said_30 wlRX11_248 kj_m9223372036854775808 rfl ?_
    exact z_lreturn C dX11_said_33
  ·
    refine z_iload_n C (i := 2) (pc' := 9) dX11_said_8 rfl rfl rfl ?_
    refine z_i2l C (pc' := 10) dX11_said_9 rfl ?_
    refine z_lconst C (pc' := 11) dX11_said_10 kl_1 rfl ?_
    refine z_ldc2 C (pc' := 14) dX11_said_11 wlRX11_244 kj_99 rfl ?_
    refine z_callS1 C (pc' := 17) lsRX11_88 lc_X11_within rfl dX11_said_14 rfl (by decide) (rX11_within l w x2 1 99 u2) rfl (Nat.le_of_ble_eq_true rfl) (fun v3 u4 => ?_)
    refine z_if_eq C (pc' := 30) (pf := 20) dX11_said_17 rfl rfl (fun _ => ?_) (fun _ => ?_)
    ·
      refine z_ldc2 C (pc' := 33) dX11_said_30 wlRX11_248 kj_m9223372036854775808 rfl ?_
      exact z_lreturn C dX11_said_33
    ·
      refine z_iload_n C (i := 3) (pc' := 21) dX11_said_20 rfl rfl rfl ?_
      refine z_i2l C (pc' := 22) dX11_said_21 rfl ?_
      refine z_lconst C (pc' := 23) dX11_said_22 kl_0 rfl ?_
      refine z_lconst C (pc' := 24) dX11_said_23 kl_1 rfl ?_
      refine z_callS1 C (pc' := 27) lsRX11_88 lc_X11_within rfl dX11_said_24 rfl (by decide) (rX11_within l w x3 0 1 u4) rfl (Nat.le_of_ble_eq_true rfl) (fun v5 u6 => ?_)
      refine z_if_ne C (pc' := 34) (pf := 30) dX11_said_27 rfl rfl (fun _ => ?_) (fun _ => ?_)
      ·
        refine z_iload_n C (i := 2) (pc' := 35) dX11_said_34 rfl rfl rfl ?_
        refine z_i2l C (pc' := 36) dX11_said_35 rfl ?_
        refine z_lstore C (i := 4) (la' := [(4, zL x2), (0, zR x0), (1, zI x1), (2, zI x2), (3, zI x3)]) (pc' := 38) dX11_said_36 (by decide) rfl rfl ?_
        refine z_bipush C (pc' := 40) dX11_said_38 kb_100 rfl ?_
        refine z_iload_n C (i := 2) (pc' := 41) dX11_said_40 rfl rfl rfl ?_
        refine z_isub C (pc' := 42) dX11_said_41 rfl ?_
        refine z_i2l C (pc' := 43) dX11_said_42 rfl ?_
        refine z_lstore C (i := 6) (la' := [(6, zL (zw32 (100 - x2))), (4, zL x2), (0, zR x0), (1, zI x1), (2, zI x2), (3, zI x3)]) (pc' := 45) dX11_said_43 (by decide) rfl rfl ?_
        refine z_iconst C (pc' := 46) dX11_said_45 kc_0 rfl ?_
        refine z_istore C (i := 8) (la' := [(8, zI 0), (6, zL (zw32 (100 - x2))), (4, zL x2), (0, zR x0), (1, zI x1), (2, zI x2), (3, zI x3)]) (pc' := 48) dX11_said_46 (by decide) rfl rfl ?_
        refine z_iconst C (pc' := 49) dX11_said_48 kc_0 rfl ?_
        refine z_istore C (i := 9) (la' := [(9, zI 0), (8, zI 0), (6, zL (zw32 (100 - x2))), (4, zL x2), (0, zR x0), (1, zI x1), (2, zI x2), (3, zI x3)]) (pc' := 51) dX11_said_49 (by decide) rfl rfl ?_
        refine zlocs (lb := [(0, zR x0), (1, zI x1), (3, zI x3), (4, zL x2), (6, zL (zw32 (100 - x2))), (8, zI 0), (9, zI 0)]) ⟨rfl, rfl, rfl, rfl, rfl, rfl, rfl, trivial⟩ ?_
        refine zlp_ind (fun (f : Int → Int → Int → Int → zMem → zRs) => ∀ (v7 : Int) (v8 : Int) (v9 : Int) (v10 : Int) (u11 : zMem), zSim G p l e R s m args below meth c w 11 (znc u0) (zM w 2 (znc u0) below args s) 51 [(0, zR x0), (1, zI x1), (3, zI x3), (4, zL v7), (6, zL v8), (8, zI v9), (9, zI v10)] [] u11 (f v7 v8 v9 v10 u11)) (fun _ _ _ _ _ => znone) (fun k12 hk12 v7 v8 v9 v10 u11 => ?_) _ _ _ _ _ _
        refine z_iload C (pc' := 53) dX11_said_51 rfl rfl ?_
        refine z_aload_n C (i := 0) (pc' := 54) dX11_said_53 rfl rfl rfl ?_
        refine z_getf C (pc' := 57) flRX11_190 dX11_said_54 rfl (fun v13 => ?_)
        refine zjoin (P := fun (f : zMem → zRs) => ∀ (u14 : zMem), zSim G p l e R s m args below meth c w 11 (znc u0) (zM w 2 (znc u0) below args s) 149 [(3, zI x3), (4, zL v7), (6, zL v8)] [] u14 (f u14)) (fun u14 => ?_) (fun k15 hk15 => ?_)
        ·
          refine z_lload C (pc' := 151) dX11_said_149 rfl rfl ?_
          refine z_lconst C (pc' := 152) dX11_said_151 kl_0 rfl ?_
          refine z_lcmp C (pc' := 153) dX11_said_152 rfl ?_
          refine z_if_ne C (pc' := 159) (pf := 156) dX11_said_153 rfl rfl (fun _ => ?_) (fun _ => ?_)
          ·
            refine z_lload C (pc' := 161) dX11_said_159 rfl rfl ?_
            refine z_lload C (pc' := 163) dX11_said_161 rfl rfl ?_
            refine z_lload C (pc' := 165) dX11_said_163 rfl rfl ?_
            refine z_ladd C (pc' := 166) dX11_said_165 rfl ?_
            refine z_callS2 C (pc' := 169) lsRX11_252 lc_X11_common rfl dX11_said_166 rfl (by decide) (rX11_common l w v7 (zw64 (v7 + v8)) u14) rfl (Nat.le_of_ble_eq_true rfl) (fun v16 u17 => ?_)
            refine z_lstore C (i := 9) (la' := [(9, zL v16), (3, zI x3), (4, zL v7), (6, zL v8)]) (pc' := 171) dX11_said_169 (by decide) rfl rfl ?_
            refine z_iload_n C (i := 3) (pc' := 172) dX11_said_171 rfl rfl rfl ?_
            refine z_if_ne C (pc' := 183) (pf := 175) dX11_said_172 rfl rfl (fun _ => ?_) (fun _ => ?_)
            ·
              refine z_lload C (pc' := 185) dX11_said_183 rfl rfl ?_
              refine z_lload C (pc' := 187) dX11_said_185 rfl rfl ?_
              refine z_ladd C (pc' := 188) dX11_said_187 rfl ?_
              refine z_lload C (pc' := 190) dX11_said_188 rfl rfl ?_
              refine z_ldiv C (pc' := 191) dX11_said_190 rfl (fun _ => ?_)
              exact z_lreturn C dX11_said_191
            ·
              refine z_lload C (pc' := 177) dX11_said_175 rfl rfl ?_
              refine z_lload C (pc' := 179) dX11_said_177 rfl rfl ?_
              refine z_ldiv C (pc' := 180) dX11_said_179 rfl (fun _ => ?_)
              refine z_goto C (pc' := 191) dX11_said_180 rfl ?_
              exact z_lreturn C dX11_said_191
          ·
            refine z_iload_n C (i := 3) (pc' := 157) dX11_said_156 rfl rfl rfl ?_
            refine z_i2l C (pc' := 158) dX11_said_157 rfl ?_
            exact z_lreturn C dX11_said_158
        ·
          refine z_icmp_ge C (pc' := 149) (pf := 60) dX11_said_57 rfl rfl (fun _ => ?_) (fun _ => ?_)
          ·
            exact zlocs (lb := [(3, zI x3), (4, zL v7), (6, zL v8)]) ⟨rfl, rfl, rfl, trivial⟩ (hk15 _)
          ·
            refine z_iload C (pc' := 62) dX11_said_60 rfl rfl ?_
            refine z_bipush C (pc' := 64) dX11_said_62 kb_7 rfl ?_
            refine z_icmp_ge C (pc' := 149) (pf := 67) dX11_said_64 rfl rfl (fun _ => ?_) (fun _ => ?_)
            ·
              exact zlocs (lb := [(3, zI x3), (4, zL v7), (6, zL v8)]) ⟨rfl, rfl, rfl, trivial⟩ (hk15 _)
            ·
              refine z_aload_n C (i := 0) (pc' := 68) dX11_said_67 rfl rfl rfl ?_
              refine z_getfR C (pc' := 71) flRX11_40 dX11_said_68 rfl (fun v18 => ?_)
              refine z_iload C (pc' := 73) dX11_said_71 rfl rfl ?_
              refine z_iald C (pc' := 74) dX11_said_73 rfl (fun v19 => ?_)
              refine zjoin (P := fun (f : Int → Int → Int → zMem → zRs) => ∀ (v20 : Int) (v21 : Int) (v22 : Int) (u23 : zMem), zSim G p l e R s m args below meth c w 11 (znc u0) (zM w 2 (znc u0) below args s) 143 [(0, zR x0), (1, zI x1), (3, zI x3), (4, zL v20), (6, zL v21), (8, zI v22), (9, zI v10)] [] u23 (f v20 v21 v22 u23)) (fun v20 v21 v22 u23 => ?_) (fun k24 hk24 => ?_)
              ·
                refine z_iinc C (i := 9) (la' := [(9, zI (zw32 (v10 + 1))), (0, zR x0), (1, zI x1), (3, zI x3), (4, zL v20), (6, zL v21), (8, zI v22)]) (pc' := 146) dX11_said_143 rfl (by decide) rfl rfl ?_
                refine z_goto C (pc' := 51) dX11_said_146 rfl ?_
                exact zlocs (lb := [(0, zR x0), (1, zI x1), (3, zI x3), (4, zL v20), (6, zL v21), (8, zI v22), (9, zI (zw32 (v10 + 1)))]) ⟨rfl, rfl, rfl, rfl, rfl, rfl, rfl, trivial⟩ (hk12 _ _ _ _ _)
              ·
                refine z_if_lt C (pc' := 143) (pf := 77) dX11_said_74 rfl rfl (fun _ => ?_) (fun _ => ?_)
                ·
                  exact zlocs (lb := [(0, zR x0), (1, zI x1), (3, zI x3), (4, zL v7), (6, zL v8), (8, zI v9), (9, zI v10)]) ⟨rfl, rfl, rfl, rfl, rfl, rfl, rfl, trivial⟩ (hk24 _ _ _ _)
                ·
                  refine z_aload_n C (i := 0) (pc' := 78) dX11_said_77 rfl rfl rfl ?_
                  refine z_aload_n C (i := 0) (pc' := 79) dX11_said_78 rfl rfl rfl ?_
                  refine z_getfR C (pc' := 82) flRX11_40 dX11_said_79 rfl (fun v25 => ?_)
                  refine z_iload C (pc' := 84) dX11_said_82 rfl rfl ?_
                  refine z_iald C (pc' := 85) dX11_said_84 rfl (fun v26 => ?_)
                  refine z_iload_n C (i := 1) (pc' := 86) dX11_said_85 rfl rfl rfl ?_
                  refine z_callV1 C (pc' := 89) lvRX11_187 lc_X11_heedOf rfl dX11_said_86 rfl (by decide) (rX11_heedOf l w x0 v26 x1 u11) rfl (Nat.le_of_ble_eq_true rfl) (fun v27 u28 => ?_)
                  refine z_istore C (i := 10) (la' := [(10, zI v27), (0, zR x0), (1, zI x1), (3, zI x3), (4, zL v7), (6, zL v8), (8, zI v9), (9, zI v10)]) (pc' := 91) dX11_said_89 (by decide) rfl rfl ?_
                  refine z_lload C (pc' := 93) dX11_said_91 rfl rfl ?_
                  refine z_aload_n C (i := 0) (pc' := 94) dX11_said_93 rfl rfl rfl ?_
                  refine z_iload C (pc' := 96) dX11_said_94 rfl rfl ?_
                  refine z_iload_n C (i := 1) (pc' := 97) dX11_said_96 rfl rfl rfl ?_
                  refine z_callV1 C (pc' := 100) lvRX11_222 lc_X11_has rfl dX11_said_97 rfl (by decide) (rX11_has l w x0 v10 x1 u28) rfl (Nat.le_of_ble_eq_true rfl) (fun v29 u30 => ?_)
                  refine zjoin (P := fun (f : Int → zMem → zRs) => ∀ (v31 : Int) (u32 : zMem), zSim G p l e R s m args below meth c w 11 (znc u0) (zM w 2 (znc u0) below args s) 115 [(0, zR x0), (1, zI x1), (3, zI x3), (6, zL v8), (8, zI v9), (9, zI v10)] [zL v31, zL v7] u32 (f v31 u32)) (fun v31 u32 => ?_) (fun k33 hk33 => ?_)
                  ·
                    refine z_lmul C (pc' := 116) dX11_said_115 rfl ?_
                    refine z_lstore C (i := 4) (la' := [(4, zL (zw64 (v7 * v31))), (0, zR x0), (1, zI x1), (3, zI x3), (6, zL v8), (8, zI v9), (9, zI v10)]) (pc' := 118) dX11_said_116 (by decide) rfl rfl ?_
                    refine z_lload C (pc' := 120) dX11_said_118 rfl rfl ?_
                    refine z_aload_n C (i := 0) (pc' := 121) dX11_said_120 rfl rfl rfl ?_
                    refine z_iload C (pc' := 123) dX11_said_121 rfl rfl ?_
                    refine z_iload_n C (i := 1) (pc' := 124) dX11_said_123 rfl rfl rfl ?_
                    refine z_callV1 C (pc' := 127) lvRX11_222 lc_X11_has rfl dX11_said_124 rfl (by decide) (rX11_has l w x0 v10 x1 u32) rfl (Nat.le_of_ble_eq_true rfl) (fun v34 u35 => ?_)
                    refine zjoin (P := fun (f : Int → zMem → zRs) => ∀ (v36 : Int) (u37 : zMem), zSim G p l e R s m args below meth c w 11 (znc u0) (zM w 2 (znc u0) below args s) 137 [(0, zR x0), (1, zI x1), (3, zI x3), (4, zL (zw64 (v7 * v31))), (8, zI v9), (9, zI v10)] [zL v36, zL v8] u37 (f v36 u37)) (fun v36 u37 => ?_) (fun k38 hk38 => ?_)
                    ·
                      refine z_lmul C (pc' := 138) dX11_said_137 rfl ?_
                      refine z_lstore C (i := 6) (la' := [(6, zL (zw64 (v8 * v36))), (0, zR x0), (1, zI x1), (3, zI x3), (4, zL (zw64 (v7 * v31))), (8, zI v9), (9, zI v10)]) (pc' := 140) dX11_said_138 (by decide) rfl rfl ?_
                      refine z_iinc C (i := 8) (la' := [(8, zI (zw32 (v9 + 1))), (6, zL (zw64 (v8 * v36))), (0, zR x0), (1, zI x1), (3, zI x3), (4, zL (zw64 (v7 * v31))), (9, zI v10)]) (pc' := 143) dX11_said_140 rfl (by decide) rfl rfl ?_
                      exact zlocs (lb := [(0, zR x0), (1, zI x1), (3, zI x3), (4, zL (zw64 (v7 * v31))), (6, zL (zw64 (v8 * v36))), (8, zI (zw32 (v9 + 1))), (9, zI v10)]) ⟨rfl, rfl, rfl, rfl, rfl, rfl, rfl, trivial⟩ (hk24 _ _ _ _)
                    ·
                      refine z_if_eq C (pc' := 134) (pf := 130) dX11_said_127 rfl rfl (fun _ => ?_) (fun _ => ?_)
                      ·
                        refine z_ldc2 C (pc' := 137) dX11_said_134 wlRX11_250 kj_100 rfl ?_
                        exact zlocs (lb := [(0, zR x0), (1, zI x1), (3, zI x3), (4, zL (zw64 (v7 * v31))), (8, zI v9), (9, zI v10)]) ⟨rfl, rfl, rfl, rfl, rfl, rfl, trivial⟩ (hk38 _ _)
                      ·
                        refine z_lconst C (pc' := 131) dX11_said_130 kl_0 rfl ?_
                        refine z_goto C (pc' := 137) dX11_said_131 rfl ?_
                        exact zlocs (lb := [(0, zR x0), (1, zI x1), (3, zI x3), (4, zL (zw64 (v7 * v31))), (8, zI v9), (9, zI v10)]) ⟨rfl, rfl, rfl, rfl, rfl, rfl, trivial⟩ (hk38 _ _)
                  ·
                    refine z_if_eq C (pc' := 109) (pf := 103) dX11_said_100 rfl rfl (fun _ => ?_) (fun _ => ?_)
                    ·
                      refine z_bipush C (pc' := 111) dX11_said_109 kb_100 rfl ?_
                      refine z_iload C (pc' := 113) dX11_said_111 rfl rfl ?_
                      refine z_isub C (pc' := 114) dX11_said_113 rfl ?_
                      refine z_i2l C (pc' := 115) dX11_said_114 rfl ?_
                      exact zlocs (lb := [(0, zR x0), (1, zI x1), (3, zI x3), (6, zL v8), (8, zI v9), (9, zI v10)]) ⟨rfl, rfl, rfl, rfl, rfl, rfl, trivial⟩ (hk33 _ _)
                    ·
                      refine z_iload C (pc' := 105) dX11_said_103 rfl rfl ?_
                      refine z_i2l C (pc' := 106) dX11_said_105 rfl ?_
                      refine z_goto C (pc' := 115) dX11_said_106 rfl ?_
                      exact zlocs (lb := [(0, zR x0), (1, zI x1), (3, zI x3), (6, zL v8), (8, zI v9), (9, zI v10)]) ⟨rfl, rfl, rfl, rfl, rfl, rfl, trivial⟩ (hk33 _ _)
      ·
        refine z_ldc2 C (pc' := 33) dX11_said_30 wlRX11_248 kj_m9223372036854775808 rfl ?_
        exact z_lreturn C dX11_said_33
def fX11_likeOf (x0 x1 x2 : Int) (u0 : zMem) : zRs := zlp (fun _ _ _ => none) (fun k4 (v1 : Int) (v2 : Int) (u3 : zMem) => zgf 11 6 x0 u3 (fun v5 => if v2 ≥ v5 then (some (v1, u3)) else (zvc 11 x0 (fX11_heedOf x0 x1 v2 u3) (fun v6 u7 => zvc 11 x0 (fX11_has x0 x2 v2 u7) (fun v8 u9 => zjn (fun (v10 : Int) (u11 : zMem) => znz 100 (k4 (zw64 (Int.tdiv (zw64 (v1 * v10)) 100)) (zw32 (v2 + 1)) u11)) (fun k12 => if v8 = 0 then (k12 (zw32 (100 - v6)) u9) else (k12 v6 u9))))))) 1000000 1000000000 0 u0
set_option maxRecDepth 100000 in
set_option maxHeartbeats 4000000 in
theorem rX11_likeOf (l : Launch) (w : zW) (x0 x1 x2 : Int) (u0 : zMem) : zSpc l w 206 yX11_likeOf cX11_likeOf 7 (some .long) 2 [zR x0, zI x1, zI x2] u0 (fX11_likeOf x0 x1 x2 u0) := by
  refine zSpc_of (own := RX11) pnRX11 rfl (Nat.le_of_ble_eq_true rfl) (fun G p e R s m args below meth c C hini => ?_)
  unfold fX11_likeOf
  refine zlocs (lb := [(0, zR x0), (1, zI x1), (2, zI x2)]) ⟨rfl, rfl, rfl, trivial⟩ ?_
  refine z_ldc2 C (pc' := 3) dX11_likeOf_0 wlRX11_256 kj_1000000000 rfl ?_
  refine z_lstore_n C (i := 3) (la' := [(3, zL 1000000000), (0, zR x0), (1, zI x1), (2, zI x2)]) (pc' := 4) dX11_likeOf_3 rfl (by decide) rfl rfl ?_
  refine z_iconst C (pc' := 5) dX11_likeOf_4 kc_0 rfl ?_
  refine z_istore C (i := 5) (la' := [(5, zI 0), (3, zL 1000000000), (0, zR x0), (1, zI x1), (2, zI x2)]) (pc' := 7) dX11_likeOf_5 (by decide) rfl rfl ?_
  refine zlocs (lb := [(0, zR x0), (1, zI x1), (2, zI x2), (3, zL 1000000000), (5, zI 0)]) ⟨rfl, rfl, rfl, rfl, rfl, trivial⟩ ?_
  refine zlp_ind (fun (f : Int → Int → zMem → zRs) => ∀ (v1 : Int) (v2 : Int) (u3 : zMem), zSim G p l e R s m args below meth c w 7 (znc u0) (zM w 2 (znc u0) below args s) 7 [(0, zR x0), (1, zI x1), (2, zI x2), (3, zL v1), (5, zI v2)] [] u3 (f v1 v2 u3)) (fun _ _ _ => znone) (fun k4 hk4 v1 v2 u3 => ?_) _ _ _ _
  refine z_iload C (pc' := 9) dX11_likeOf_7 rfl rfl ?_
  refine z_aload_n C (i := 0) (pc' := 10) dX11_likeOf_9 rfl rfl rfl ?_
  refine z_getf C (pc' := 13) flRX11_85 dX11_likeOf_10 rfl (fun v5 => ?_)
  refine z_icmp_ge C (pc' := 59) (pf := 16) dX11_likeOf_13 rfl rfl (fun _ => ?_) (fun _ => ?_)
  ·
    refine z_lload_n C (i := 3) (pc' := 60) dX11_likeOf_59 rfl rfl rfl ?_
    exact z_lreturn C dX11_likeOf_60
  ·
    refine z_aload_n C (i := 0) (pc' := 17) dX11_likeOf_16 rfl rfl rfl ?_
    refine z_iload_n C (i := 1) (pc' := 18) dX11_likeOf_17 rfl rfl rfl ?_
    refine z_iload C (pc' := 20) dX11_likeOf_18 rfl rfl ?_
    refine z_callV1 C (pc' := 23) lvRX11_187 lc_X11_heedOf rfl dX11_likeOf_20 rfl (by decide) (rX11_heedOf l w x0 x1 v2 u3) rfl (Nat.le_of_ble_eq_true rfl) (fun v6 u7 => ?_)
    refine z_istore C (i := 6) (la' := [(6, zI v6), (0, zR x0), (1, zI x1), (2, zI x2), (3, zL v1), (5, zI v2)]) (pc' := 25) dX11_likeOf_23 (by decide) rfl rfl ?_
    refine z_lload_n C (i := 3) (pc' := 26) dX11_likeOf_25 rfl rfl rfl ?_
    refine z_aload_n C (i := 0) (pc' := 27) dX11_likeOf_26 rfl rfl rfl ?_
    refine z_iload_n C (i := 2) (pc' := 28) dX11_likeOf_27 rfl rfl rfl ?_
    refine z_iload C (pc' := 30) dX11_likeOf_28 rfl rfl ?_
    refine z_callV1 C (pc' := 33) lvRX11_222 lc_X11_has rfl dX11_likeOf_30 rfl (by decide) (rX11_has l w x0 x2 v2 u7) rfl (Nat.le_of_ble_eq_true rfl) (fun v8 u9 => ?_)
    refine zjoin (P := fun (f : Int → zMem → zRs) => ∀ (v10 : Int) (u11 : zMem), zSim G p l e R s m args below meth c w 7 (znc u0) (zM w 2 (znc u0) below args s) 46 [(0, zR x0), (1, zI x1), (2, zI x2), (5, zI v2)] [zI v10, zL v1] u11 (f v10 u11)) (fun v10 u11 => ?_) (fun k12 hk12 => ?_)
    ·
      refine z_i2l C (pc' := 47) dX11_likeOf_46 rfl ?_
      refine z_lmul C (pc' := 48) dX11_likeOf_47 rfl ?_
      refine z_ldc2 C (pc' := 51) dX11_likeOf_48 wlRX11_250 kj_100 rfl ?_
      refine z_ldiv C (pc' := 52) dX11_likeOf_51 rfl (fun _ => ?_)
      refine z_lstore_n C (i := 3) (la' := [(3, zL (zw64 (Int.tdiv (zw64 (v1 * v10)) 100))), (0, zR x0), (1, zI x1), (2, zI x2), (5, zI v2)]) (pc' := 53) dX11_likeOf_52 rfl (by decide) rfl rfl ?_
      refine z_iinc C (i := 5) (la' := [(5, zI (zw32 (v2 + 1))), (3, zL (zw64 (Int.tdiv (zw64 (v1 * v10)) 100))), (0, zR x0), (1, zI x1), (2, zI x2)]) (pc' := 56) dX11_likeOf_53 rfl (by decide) rfl rfl ?_
      refine z_goto C (pc' := 7) dX11_likeOf_56 rfl ?_
      exact zlocs (lb := [(0, zR x0), (1, zI x1), (2, zI x2), (3, zL (zw64 (Int.tdiv (zw64 (v1 * v10)) 100))), (5, zI (zw32 (v2 + 1)))]) ⟨rfl, rfl, rfl, rfl, rfl, trivial⟩ (hk4 _ _ _)
    ·
      refine z_if_eq C (pc' := 41) (pf := 36) dX11_likeOf_33 rfl rfl (fun _ => ?_) (fun _ => ?_)
      ·
        refine z_bipush C (pc' := 43) dX11_likeOf_41 kb_100 rfl ?_
        refine z_iload C (pc' := 45) dX11_likeOf_43 rfl rfl ?_
        refine z_isub C (pc' := 46) dX11_likeOf_45 rfl ?_
        exact zlocs (lb := [(0, zR x0), (1, zI x1), (2, zI x2), (5, zI v2)]) ⟨rfl, rfl, rfl, rfl, trivial⟩ (hk12 _ _)
      ·
        refine z_iload C (pc' := 38) dX11_likeOf_36 rfl rfl ?_
        refine z_goto C (pc' := 46) dX11_likeOf_38 rfl ?_
        exact zlocs (lb := [(0, zR x0), (1, zI x1), (2, zI x2), (5, zI v2)]) ⟨rfl, rfl, rfl, rfl, trivial⟩ (hk12 _ _)
def fX11_whose (x0 x1 : Int) (u0 : zMem) : zRs := zvc 11 x0 (fX11_isPaper x0 x1 u0) (fun v1 u2 => if v1 ≠ 0 then (zgf 11 9 x0 u2 (fun v3 => if v3 ≠ 0 then (zlp (fun _ _ _ _ => none) (fun k8 (v4 : Int) (v5 : Int) (v6 : Int) (u7 : zMem) => zgf 11 9 x0 u7 (fun v9 => if v6 ≥ v9 then (some (v4, u7)) else (zvc 11 x0 (fX11_likeOf x0 v6 x1 u7) (fun v10 u11 => zjn (fun (v12 : Int) (v13 : Int) (u14 : zMem) => k8 v12 v13 (zw32 (v6 + 1)) u14) (fun k15 => if (zcmp v10 v5) ≤ 0 then (k15 v4 v5 u11) else (k15 v6 v10 u11)))))) 1000000 (-2) 0 0 u2) else (some ((-5), u2)))) else (some ((-1), u2)))
set_option maxRecDepth 100000 in
set_option maxHeartbeats 4000000 in
theorem rX11_whose (l : Launch) (w : zW) (x0 x1 : Int) (u0 : zMem) : zSpc l w 207 yX11_whose cX11_whose 8 (some .int) 1 [zR x0, zI x1] u0 (fX11_whose x0 x1 u0) := by
  refine zSpc_of (own := RX11) pnRX11 rfl (Nat.le_of_ble_eq_true rfl) (fun G p e R s m args below meth c C hini => ?_)
  unfold fX11_whose
  refine zlocs (lb := [(0, zR x0), (1, zI x1)]) ⟨rfl, rfl, trivial⟩ ?_
  refine z_aload_n C (i := 0) (pc' := 1) dX11_whose_0 rfl rfl rfl ?_
  refine z_iload_n C (i := 1) (pc' := 2) dX11_whose_1 rfl rfl rfl ?_
  refine z_callV1 C (pc' := 5) lvRX11_219 lc_X11_isPaper rfl dX11_whose_2 rfl (by decide) (rX11_isPaper l w x0 x1 u0) rfl (Nat.le_of_ble_eq_true rfl) (fun v1 u2 => ?_)
  refine z_if_ne C (pc' := 10) (pf := 8) dX11_whose_5 rfl rfl (fun _ => ?_) (fun _ => ?_)
  ·
    refine z_aload_n C (i := 0) (pc' := 11) dX11_whose_10 rfl rfl rfl ?_
    refine z_getf C (pc' := 14) flRX11_127 dX11_whose_11 rfl (fun v3 => ?_)
    refine z_if_ne C (pc' := 20) (pf := 17) dX11_whose_14 rfl rfl (fun _ => ?_) (fun _ => ?_)
    ·
      refine z_bipush C (pc' := 22) dX11_whose_20 kb_m2 rfl ?_
      refine z_istore_n C (i := 2) (la' := [(2, zI (-2)), (0, zR x0), (1, zI x1)]) (pc' := 23) dX11_whose_22 rfl (by decide) rfl rfl ?_
      refine z_lconst C (pc' := 24) dX11_whose_23 kl_0 rfl ?_
      refine z_lstore_n C (i := 3) (la' := [(3, zL 0), (2, zI (-2)), (0, zR x0), (1, zI x1)]) (pc' := 25) dX11_whose_24 rfl (by decide) rfl rfl ?_
      refine z_iconst C (pc' := 26) dX11_whose_25 kc_0 rfl ?_
      refine z_istore C (i := 5) (la' := [(5, zI 0), (3, zL 0), (2, zI (-2)), (0, zR x0), (1, zI x1)]) (pc' := 28) dX11_whose_26 (by decide) rfl rfl ?_
      refine zlocs (lb := [(0, zR x0), (1, zI x1), (2, zI (-2)), (3, zL 0), (5, zI 0)]) ⟨rfl, rfl, rfl, rfl, rfl, trivial⟩ ?_
      refine zlp_ind (fun (f : Int → Int → Int → zMem → zRs) => ∀ (v4 : Int) (v5 : Int) (v6 : Int) (u7 : zMem), zSim G p l e R s m args below meth c w 8 (znc u0) (zM w 1 (znc u0) below args s) 28 [(0, zR x0), (1, zI x1), (2, zI v4), (3, zL v5), (5, zI v6)] [] u7 (f v4 v5 v6 u7)) (fun _ _ _ _ => znone) (fun k8 hk8 v4 v5 v6 u7 => ?_) _ _ _ _ _
      refine z_iload C (pc' := 30) dX11_whose_28 rfl rfl ?_
      refine z_aload_n C (i := 0) (pc' := 31) dX11_whose_30 rfl rfl rfl ?_
      refine z_getf C (pc' := 34) flRX11_127 dX11_whose_31 rfl (fun v9 => ?_)
      refine z_icmp_ge C (pc' := 65) (pf := 37) dX11_whose_34 rfl rfl (fun _ => ?_) (fun _ => ?_)
      ·
        refine z_iload_n C (i := 2) (pc' := 66) dX11_whose_65 rfl rfl rfl ?_
        exact z_ireturn C dX11_whose_66
      ·
        refine z_aload_n C (i := 0) (pc' := 38) dX11_whose_37 rfl rfl rfl ?_
        refine z_iload C (pc' := 40) dX11_whose_38 rfl rfl ?_
        refine z_iload_n C (i := 1) (pc' := 41) dX11_whose_40 rfl rfl rfl ?_
        refine z_callV2 C (pc' := 44) lvRX11_258 lc_X11_likeOf rfl dX11_whose_41 rfl (by decide) (rX11_likeOf l w x0 v6 x1 u7) rfl (Nat.le_of_ble_eq_true rfl) (fun v10 u11 => ?_)
        refine z_lstore C (i := 6) (la' := [(6, zL v10), (0, zR x0), (1, zI x1), (2, zI v4), (3, zL v5), (5, zI v6)]) (pc' := 46) dX11_whose_44 (by decide) rfl rfl ?_
        refine z_lload C (pc' := 48) dX11_whose_46 rfl rfl ?_
        refine z_lload_n C (i := 3) (pc' := 49) dX11_whose_48 rfl rfl rfl ?_
        refine z_lcmp C (pc' := 50) dX11_whose_49 rfl ?_
        refine zjoin (P := fun (f : Int → Int → zMem → zRs) => ∀ (v12 : Int) (v13 : Int) (u14 : zMem), zSim G p l e R s m args below meth c w 8 (znc u0) (zM w 1 (znc u0) below args s) 59 [(0, zR x0), (1, zI x1), (2, zI v12), (3, zL v13), (5, zI v6)] [] u14 (f v12 v13 u14)) (fun v12 v13 u14 => ?_) (fun k15 hk15 => ?_)
        ·
          refine z_iinc C (i := 5) (la' := [(5, zI (zw32 (v6 + 1))), (0, zR x0), (1, zI x1), (2, zI v12), (3, zL v13)]) (pc' := 62) dX11_whose_59 rfl (by decide) rfl rfl ?_
          refine z_goto C (pc' := 28) dX11_whose_62 rfl ?_
          exact zlocs (lb := [(0, zR x0), (1, zI x1), (2, zI v12), (3, zL v13), (5, zI (zw32 (v6 + 1)))]) ⟨rfl, rfl, rfl, rfl, rfl, trivial⟩ (hk8 _ _ _ _)
        ·
          refine z_if_le C (pc' := 59) (pf := 53) dX11_whose_50 rfl rfl (fun _ => ?_) (fun _ => ?_)
          ·
            exact zlocs (lb := [(0, zR x0), (1, zI x1), (2, zI v4), (3, zL v5), (5, zI v6)]) ⟨rfl, rfl, rfl, rfl, rfl, trivial⟩ (hk15 _ _ _)
          ·
            refine z_iload C (pc' := 55) dX11_whose_53 rfl rfl ?_
            refine z_istore_n C (i := 2) (la' := [(2, zI v6), (6, zL v10), (0, zR x0), (1, zI x1), (3, zL v5), (5, zI v6)]) (pc' := 56) dX11_whose_55 rfl (by decide) rfl rfl ?_
            refine z_lload C (pc' := 58) dX11_whose_56 rfl rfl ?_
            refine z_lstore_n C (i := 3) (la' := [(3, zL v10), (2, zI v6), (6, zL v10), (0, zR x0), (1, zI x1), (5, zI v6)]) (pc' := 59) dX11_whose_58 rfl (by decide) rfl rfl ?_
            exact zlocs (lb := [(0, zR x0), (1, zI x1), (2, zI v6), (3, zL v10), (5, zI v6)]) ⟨rfl, rfl, rfl, rfl, rfl, trivial⟩ (hk15 _ _ _)
    ·
      refine z_bipush C (pc' := 19) dX11_whose_17 kb_m5 rfl ?_
      exact z_ireturn C dX11_whose_19
  ·
    refine z_iconst C (pc' := 9) dX11_whose_8 kc_m1 rfl ?_
    exact z_ireturn C dX11_whose_9
def fX11_learnt (x0 x1 x2 : Int) (u0 : zMem) : zRs := if x1 < 1 then (some ((-1), u0)) else (zgf 11 20 x0 u0 (fun v1 => if (zshr x1 v1) ≠ 0 then (some ((-1), u0)) else (zcall (fX11_within x2 0 1 u0) (fun v2 u3 => if v2 ≠ 0 then (zgf 11 9 x0 u3 (fun v4 => if v4 ≠ 0 then (zlp (fun _ _ _ _ => none) (fun k9 (v5 : Int) (v6 : Int) (v7 : Int) (u8 : zMem) => zgf 11 9 x0 u8 (fun v10 => if v7 ≥ v10 then (if x2 ≠ 0 then (some (v6, u8)) else (some (v5, u8))) else (zlp (fun _ _ _ => none) (fun k14 (v11 : Int) (v12 : Int) (u13 : zMem) => zgf 11 6 x0 u13 (fun v15 => if v12 ≥ v15 then (zjn (fun (v16 : Int) (v17 : Int) (u18 : zMem) => k9 v16 v17 (zw32 (v7 + 1)) u18) (fun k19 => zjn (fun (u20 : zMem) => k19 v7 v11 u20) (fun k21 => if v5 < 0 then (k21 u13) else (if v11 ≥ v6 then (k19 v5 v6 u13) else (k21 u13))))) else (zlp (fun _ _ _ => none) (fun k25 (v22 : Int) (v23 : Int) (u24 : zMem) => zgf 11 20 x0 u24 (fun v26 => if v23 ≥ v26 then (zcall (fX11_size v22 u24) (fun v27 u28 => k14 (zw32 (v11 + v27)) (zw32 (v12 + 1)) u28)) else (zjn (fun (v29 : Int) (u30 : zMem) => k25 v29 (zw32 (v23 + 1)) u30) (fun k31 => if (zand (zshr x1 v23) 1) ≠ 1 then (k31 v22 u24) else (zvc 11 x0 (fX11_heedOf x0 v7 v12 u24) (fun v32 u33 => zvc 11 x0 (fX11_has x0 v23 v12 u33) (fun v34 u35 => zjn (fun (v36 : Int) (u37 : zMem) => k31 (zw32 (v22 + (zw32 (v32 - v36)))) u37) (fun k38 => if v34 = 0 then (k38 0 u35) else (k38 100 u35))))))))) 1000000 0 0 u13))) 1000000 0 0 u8))) 1000000 (-1) 0 0 u3) else (some ((-5), u3)))) else (some ((-1), u3))))))
set_option maxRecDepth 100000 in
set_option maxHeartbeats 4000000 in
theorem rX11_learnt (l : Launch) (w : zW) (x0 x1 x2 : Int) (u0 : zMem) : zSpc l w 206 yX11_learnt cX11_learnt 10 (some .int) 1 [zR x0, zI x1, zI x2] u0 (fX11_learnt x0 x1 x2 u0) := by
  refine zSpc_of (own := RX11) pnRX11 rfl (Nat.le_of_ble_eq_true rfl) (fun G p e R s m args below meth c C hini => ?_)
  unfold fX11_learnt
  refine zlocs (lb := [(0, zR x0), (1, zI x1), (2, zI x2)]) ⟨rfl, rfl, rfl, trivial⟩ ?_
  refine z_iload_n C (i := 1) (pc' := 1) dX11_learnt_0 rfl rfl rfl ?_
  refine z_iconst C (pc' := 2) dX11_learnt_1 kc_1 rfl ?_
  refine z_icmp_lt C (pc' := 24) (pf := 5) dX11_learnt_2 rfl rfl (fun _ => ?_) (fun _ => ?_)
  ·
    refine z_iconst C (pc' := 25) dX11_learnt_24 kc_m1 rfl ?_
    exact z_ireturn C dX11_learnt_25
  ·
    refine z_iload_n C (i := 1) (pc' := 6) dX11_learnt_5 rfl rfl rfl ?_
    refine z_aload_n C (i := 0) (pc' := 7) dX11_learnt_6 rfl rfl rfl ?_
    refine z_getf C (pc' := 10) flRX11_190 dX11_learnt_7 rfl (fun v1 => ?_)
    refine z_ishr C (pc' := 11) dX11_learnt_10 rfl ?_
    refine z_if_ne C (pc' := 24) (pf := 14) dX11_learnt_11 rfl rfl (fun _ => ?_) (fun _ => ?_)
    ·
      refine z_iconst C (pc' := 25) dX11_learnt_24 kc_m1 rfl ?_
      exact z_ireturn C dX11_learnt_25
    ·
      refine z_iload_n C (i := 2) (pc' := 15) dX11_learnt_14 rfl rfl rfl ?_
      refine z_i2l C (pc' := 16) dX11_learnt_15 rfl ?_
      refine z_lconst C (pc' := 17) dX11_learnt_16 kl_0 rfl ?_
      refine z_lconst C (pc' := 18) dX11_learnt_17 kl_1 rfl ?_
      refine z_callS1 C (pc' := 21) lsRX11_88 lc_X11_within rfl dX11_learnt_18 rfl (by decide) (rX11_within l w x2 0 1 u0) rfl (Nat.le_of_ble_eq_true rfl) (fun v2 u3 => ?_)
      refine z_if_ne C (pc' := 26) (pf := 24) dX11_learnt_21 rfl rfl (fun _ => ?_) (fun _ => ?_)
      ·
        refine z_aload_n C (i := 0) (pc' := 27) dX11_learnt_26 rfl rfl rfl ?_
        refine z_getf C (pc' := 30) flRX11_127 dX11_learnt_27 rfl (fun v4 => ?_)
        refine z_if_ne C (pc' := 36) (pf := 33) dX11_learnt_30 rfl rfl (fun _ => ?_) (fun _ => ?_)
        ·
          refine z_iconst C (pc' := 37) dX11_learnt_36 kc_m1 rfl ?_
          refine z_istore_n C (i := 3) (la' := [(3, zI (-1)), (0, zR x0), (1, zI x1), (2, zI x2)]) (pc' := 38) dX11_learnt_37 rfl (by decide) rfl rfl ?_
          refine z_iconst C (pc' := 39) dX11_learnt_38 kc_0 rfl ?_
          refine z_istore C (i := 4) (la' := [(4, zI 0), (3, zI (-1)), (0, zR x0), (1, zI x1), (2, zI x2)]) (pc' := 41) dX11_learnt_39 (by decide) rfl rfl ?_
          refine z_iconst C (pc' := 42) dX11_learnt_41 kc_0 rfl ?_
          refine z_istore C (i := 5) (la' := [(5, zI 0), (4, zI 0), (3, zI (-1)), (0, zR x0), (1, zI x1), (2, zI x2)]) (pc' := 44) dX11_learnt_42 (by decide) rfl rfl ?_
          refine zlocs (lb := [(0, zR x0), (1, zI x1), (2, zI x2), (3, zI (-1)), (4, zI 0), (5, zI 0)]) ⟨rfl, rfl, rfl, rfl, rfl, rfl, trivial⟩ ?_
          refine zlp_ind (fun (f : Int → Int → Int → zMem → zRs) => ∀ (v5 : Int) (v6 : Int) (v7 : Int) (u8 : zMem), zSim G p l e R s m args below meth c w 10 (znc u0) (zM w 1 (znc u0) below args s) 44 [(0, zR x0), (1, zI x1), (2, zI x2), (3, zI v5), (4, zI v6), (5, zI v7)] [] u8 (f v5 v6 v7 u8)) (fun _ _ _ _ => znone) (fun k9 hk9 v5 v6 v7 u8 => ?_) _ _ _ _ _
          refine z_iload C (pc' := 46) dX11_learnt_44 rfl rfl ?_
          refine z_aload_n C (i := 0) (pc' := 47) dX11_learnt_46 rfl rfl rfl ?_
          refine z_getf C (pc' := 50) flRX11_127 dX11_learnt_47 rfl (fun v10 => ?_)
          refine z_icmp_ge C (pc' := 170) (pf := 53) dX11_learnt_50 rfl rfl (fun _ => ?_) (fun _ => ?_)
          ·
            refine z_iload_n C (i := 2) (pc' := 171) dX11_learnt_170 rfl rfl rfl ?_
            refine z_if_ne C (pc' := 178) (pf := 174) dX11_learnt_171 rfl rfl (fun _ => ?_) (fun _ => ?_)
            ·
              refine z_iload C (pc' := 180) dX11_learnt_178 rfl rfl ?_
              exact z_ireturn C dX11_learnt_180
            ·
              refine z_iload_n C (i := 3) (pc' := 175) dX11_learnt_174 rfl rfl rfl ?_
              refine z_goto C (pc' := 180) dX11_learnt_175 rfl ?_
              exact z_ireturn C dX11_learnt_180
          ·
            refine z_iconst C (pc' := 54) dX11_learnt_53 kc_0 rfl ?_
            refine z_istore C (i := 6) (la' := [(6, zI 0), (0, zR x0), (1, zI x1), (2, zI x2), (3, zI v5), (4, zI v6), (5, zI v7)]) (pc' := 56) dX11_learnt_54 (by decide) rfl rfl ?_
            refine z_iconst C (pc' := 57) dX11_learnt_56 kc_0 rfl ?_
            refine z_istore C (i := 7) (la' := [(7, zI 0), (6, zI 0), (0, zR x0), (1, zI x1), (2, zI x2), (3, zI v5), (4, zI v6), (5, zI v7)]) (pc' := 59) dX11_learnt_57 (by decide) rfl rfl ?_
            refine zlocs (lb := [(0, zR x0), (1, zI x1), (2, zI x2), (3, zI v5), (4, zI v6), (5, zI v7), (6, zI 0), (7, zI 0)]) ⟨rfl, rfl, rfl, rfl, rfl, rfl, rfl, rfl, trivial⟩ ?_
            refine zlp_ind (fun (f : Int → Int → zMem → zRs) => ∀ (v11 : Int) (v12 : Int) (u13 : zMem), zSim G p l e R s m args below meth c w 10 (znc u0) (zM w 1 (znc u0) below args s) 59 [(0, zR x0), (1, zI x1), (2, zI x2), (3, zI v5), (4, zI v6), (5, zI v7), (6, zI v11), (7, zI v12)] [] u13 (f v11 v12 u13)) (fun _ _ _ => znone) (fun k14 hk14 v11 v12 u13 => ?_) _ _ _ _
            refine z_iload C (pc' := 61) dX11_learnt_59 rfl rfl ?_
            refine z_aload_n C (i := 0) (pc' := 62) dX11_learnt_61 rfl rfl rfl ?_
            refine z_getf C (pc' := 65) flRX11_85 dX11_learnt_62 rfl (fun v15 => ?_)
            refine z_icmp_ge C (pc' := 146) (pf := 68) dX11_learnt_65 rfl rfl (fun _ => ?_) (fun _ => ?_)
            ·
              refine z_iload_n C (i := 3) (pc' := 147) dX11_learnt_146 rfl rfl rfl ?_
              refine zjoin (P := fun (f : Int → Int → zMem → zRs) => ∀ (v16 : Int) (v17 : Int) (u18 : zMem), zSim G p l e R s m args below meth c w 10 (znc u0) (zM w 1 (znc u0) below args s) 164 [(0, zR x0), (1, zI x1), (2, zI x2), (3, zI v16), (4, zI v17), (5, zI v7)] [] u18 (f v16 v17 u18)) (fun v16 v17 u18 => ?_) (fun k19 hk19 => ?_)
              ·
                refine z_iinc C (i := 5) (la' := [(5, zI (zw32 (v7 + 1))), (0, zR x0), (1, zI x1), (2, zI x2), (3, zI v16), (4, zI v17)]) (pc' := 167) dX11_learnt_164 rfl (by decide) rfl rfl ?_
                refine z_goto C (pc' := 44) dX11_learnt_167 rfl ?_
                exact zlocs (lb := [(0, zR x0), (1, zI x1), (2, zI x2), (3, zI v16), (4, zI v17), (5, zI (zw32 (v7 + 1)))]) ⟨rfl, rfl, rfl, rfl, rfl, rfl, trivial⟩ (hk9 _ _ _ _)
              ·
                refine zjoin (P := fun (f : zMem → zRs) => ∀ (u20 : zMem), zSim G p l e R s m args below meth c w 10 (znc u0) (zM w 1 (znc u0) below args s) 157 [(0, zR x0), (1, zI x1), (2, zI x2), (5, zI v7), (6, zI v11)] [] u20 (f u20)) (fun u20 => ?_) (fun k21 hk21 => ?_)
                ·
                  refine z_iload C (pc' := 159) dX11_learnt_157 rfl rfl ?_
                  refine z_istore_n C (i := 3) (la' := [(3, zI v7), (0, zR x0), (1, zI x1), (2, zI x2), (5, zI v7), (6, zI v11)]) (pc' := 160) dX11_learnt_159 rfl (by decide) rfl rfl ?_
                  refine z_iload C (pc' := 162) dX11_learnt_160 rfl rfl ?_
                  refine z_istore C (i := 4) (la' := [(4, zI v11), (3, zI v7), (0, zR x0), (1, zI x1), (2, zI x2), (5, zI v7), (6, zI v11)]) (pc' := 164) dX11_learnt_162 (by decide) rfl rfl ?_
                  exact zlocs (lb := [(0, zR x0), (1, zI x1), (2, zI x2), (3, zI v7), (4, zI v11), (5, zI v7)]) ⟨rfl, rfl, rfl, rfl, rfl, rfl, trivial⟩ (hk19 _ _ _)
                ·
                  refine z_if_lt C (pc' := 157) (pf := 150) dX11_learnt_147 rfl rfl (fun _ => ?_) (fun _ => ?_)
                  ·
                    exact zlocs (lb := [(0, zR x0), (1, zI x1), (2, zI x2), (5, zI v7), (6, zI v11)]) ⟨rfl, rfl, rfl, rfl, rfl, trivial⟩ (hk21 _)
                  ·
                    refine z_iload C (pc' := 152) dX11_learnt_150 rfl rfl ?_
                    refine z_iload C (pc' := 154) dX11_learnt_152 rfl rfl ?_
                    refine z_icmp_ge C (pc' := 164) (pf := 157) dX11_learnt_154 rfl rfl (fun _ => ?_) (fun _ => ?_)
                    ·
                      exact zlocs (lb := [(0, zR x0), (1, zI x1), (2, zI x2), (3, zI v5), (4, zI v6), (5, zI v7)]) ⟨rfl, rfl, rfl, rfl, rfl, rfl, trivial⟩ (hk19 _ _ _)
                    ·
                      exact zlocs (lb := [(0, zR x0), (1, zI x1), (2, zI x2), (5, zI v7), (6, zI v11)]) ⟨rfl, rfl, rfl, rfl, rfl, trivial⟩ (hk21 _)
            ·
              refine z_iconst C (pc' := 69) dX11_learnt_68 kc_0 rfl ?_
              refine z_istore C (i := 8) (la' := [(8, zI 0), (0, zR x0), (1, zI x1), (2, zI x2), (3, zI v5), (4, zI v6), (5, zI v7), (6, zI v11), (7, zI v12)]) (pc' := 71) dX11_learnt_69 (by decide) rfl rfl ?_
              refine z_iconst C (pc' := 72) dX11_learnt_71 kc_0 rfl ?_
              refine z_istore C (i := 9) (la' := [(9, zI 0), (8, zI 0), (0, zR x0), (1, zI x1), (2, zI x2), (3, zI v5), (4, zI v6), (5, zI v7), (6, zI v11), (7, zI v12)]) (pc' := 74) dX11_learnt_72 (by decide) rfl rfl ?_
              refine zlocs (lb := [(0, zR x0), (1, zI x1), (2, zI x2), (3, zI v5), (4, zI v6), (5, zI v7), (6, zI v11), (7, zI v12), (8, zI 0), (9, zI 0)]) ⟨rfl, rfl, rfl, rfl, rfl, rfl, rfl, rfl, rfl, rfl, trivial⟩ ?_
              refine zlp_ind (fun (f : Int → Int → zMem → zRs) => ∀ (v22 : Int) (v23 : Int) (u24 : zMem), zSim G p l e R s m args below meth c w 10 (znc u0) (zM w 1 (znc u0) below args s) 74 [(0, zR x0), (1, zI x1), (2, zI x2), (3, zI v5), (4, zI v6), (5, zI v7), (6, zI v11), (7, zI v12), (8, zI v22), (9, zI v23)] [] u24 (f v22 v23 u24)) (fun _ _ _ => znone) (fun k25 hk25 v22 v23 u24 => ?_) _ _ _ _
              refine z_iload C (pc' := 76) dX11_learnt_74 rfl rfl ?_
              refine z_aload_n C (i := 0) (pc' := 77) dX11_learnt_76 rfl rfl rfl ?_
              refine z_getf C (pc' := 80) flRX11_190 dX11_learnt_77 rfl (fun v26 => ?_)
              refine z_icmp_ge C (pc' := 130) (pf := 83) dX11_learnt_80 rfl rfl (fun _ => ?_) (fun _ => ?_)
              ·
                refine z_iload C (pc' := 132) dX11_learnt_130 rfl rfl ?_
                refine z_iload C (pc' := 134) dX11_learnt_132 rfl rfl ?_
                refine z_callS1 C (pc' := 137) lsRX11_262 lc_X11_size rfl dX11_learnt_134 rfl (by decide) (rX11_size l w v22 u24) rfl (Nat.le_of_ble_eq_true rfl) (fun v27 u28 => ?_)
                refine z_iadd C (pc' := 138) dX11_learnt_137 rfl ?_
                refine z_istore C (i := 6) (la' := [(6, zI (zw32 (v11 + v27))), (0, zR x0), (1, zI x1), (2, zI x2), (3, zI v5), (4, zI v6), (5, zI v7), (7, zI v12), (8, zI v22), (9, zI v23)]) (pc' := 140) dX11_learnt_138 (by decide) rfl rfl ?_
                refine z_iinc C (i := 7) (la' := [(7, zI (zw32 (v12 + 1))), (6, zI (zw32 (v11 + v27))), (0, zR x0), (1, zI x1), (2, zI x2), (3, zI v5), (4, zI v6), (5, zI v7), (8, zI v22), (9, zI v23)]) (pc' := 143) dX11_learnt_140 rfl (by decide) rfl rfl ?_
                refine z_goto C (pc' := 59) dX11_learnt_143 rfl ?_
                exact zlocs (lb := [(0, zR x0), (1, zI x1), (2, zI x2), (3, zI v5), (4, zI v6), (5, zI v7), (6, zI (zw32 (v11 + v27))), (7, zI (zw32 (v12 + 1)))]) ⟨rfl, rfl, rfl, rfl, rfl, rfl, rfl, rfl, trivial⟩ (hk14 _ _ _)
              ·
                refine z_iload_n C (i := 1) (pc' := 84) dX11_learnt_83 rfl rfl rfl ?_
                refine z_iload C (pc' := 86) dX11_learnt_84 rfl rfl ?_
                refine z_ishr C (pc' := 87) dX11_learnt_86 rfl ?_
                refine z_iconst C (pc' := 88) dX11_learnt_87 kc_1 rfl ?_
                refine z_iand C (pc' := 89) dX11_learnt_88 rfl ?_
                refine z_iconst C (pc' := 90) dX11_learnt_89 kc_1 rfl ?_
                refine zjoin (P := fun (f : Int → zMem → zRs) => ∀ (v29 : Int) (u30 : zMem), zSim G p l e R s m args below meth c w 10 (znc u0) (zM w 1 (znc u0) below args s) 124 [(0, zR x0), (1, zI x1), (2, zI x2), (3, zI v5), (4, zI v6), (5, zI v7), (6, zI v11), (7, zI v12), (8, zI v29), (9, zI v23)] [] u30 (f v29 u30)) (fun v29 u30 => ?_) (fun k31 hk31 => ?_)
                ·
                  refine z_iinc C (i := 9) (la' := [(9, zI (zw32 (v23 + 1))), (0, zR x0), (1, zI x1), (2, zI x2), (3, zI v5), (4, zI v6), (5, zI v7), (6, zI v11), (7, zI v12), (8, zI v29)]) (pc' := 127) dX11_learnt_124 rfl (by decide) rfl rfl ?_
                  refine z_goto C (pc' := 74) dX11_learnt_127 rfl ?_
                  exact zlocs (lb := [(0, zR x0), (1, zI x1), (2, zI x2), (3, zI v5), (4, zI v6), (5, zI v7), (6, zI v11), (7, zI v12), (8, zI v29), (9, zI (zw32 (v23 + 1)))]) ⟨rfl, rfl, rfl, rfl, rfl, rfl, rfl, rfl, rfl, rfl, trivial⟩ (hk25 _ _ _)
                ·
                  refine z_icmp_ne C (pc' := 124) (pf := 93) dX11_learnt_90 rfl rfl (fun _ => ?_) (fun _ => ?_)
                  ·
                    exact zlocs (lb := [(0, zR x0), (1, zI x1), (2, zI x2), (3, zI v5), (4, zI v6), (5, zI v7), (6, zI v11), (7, zI v12), (8, zI v22), (9, zI v23)]) ⟨rfl, rfl, rfl, rfl, rfl, rfl, rfl, rfl, rfl, rfl, trivial⟩ (hk31 _ _)
                  ·
                    refine z_iload C (pc' := 95) dX11_learnt_93 rfl rfl ?_
                    refine z_aload_n C (i := 0) (pc' := 96) dX11_learnt_95 rfl rfl rfl ?_
                    refine z_iload C (pc' := 98) dX11_learnt_96 rfl rfl ?_
                    refine z_iload C (pc' := 100) dX11_learnt_98 rfl rfl ?_
                    refine z_callV1 C (pc' := 103) lvRX11_187 lc_X11_heedOf rfl dX11_learnt_100 rfl (by decide) (rX11_heedOf l w x0 v7 v12 u24) rfl (Nat.le_of_ble_eq_true rfl) (fun v32 u33 => ?_)
                    refine z_aload_n C (i := 0) (pc' := 104) dX11_learnt_103 rfl rfl rfl ?_
                    refine z_iload C (pc' := 106) dX11_learnt_104 rfl rfl ?_
                    refine z_iload C (pc' := 108) dX11_learnt_106 rfl rfl ?_
                    refine z_callV1 C (pc' := 111) lvRX11_222 lc_X11_has rfl dX11_learnt_108 rfl (by decide) (rX11_has l w x0 v23 v12 u33) rfl (Nat.le_of_ble_eq_true rfl) (fun v34 u35 => ?_)
                    refine zjoin (P := fun (f : Int → zMem → zRs) => ∀ (v36 : Int) (u37 : zMem), zSim G p l e R s m args below meth c w 10 (znc u0) (zM w 1 (znc u0) below args s) 120 [(0, zR x0), (1, zI x1), (2, zI x2), (3, zI v5), (4, zI v6), (5, zI v7), (6, zI v11), (7, zI v12), (9, zI v23)] [zI v36, zI v32, zI v22] u37 (f v36 u37)) (fun v36 u37 => ?_) (fun k38 hk38 => ?_)
                    ·
                      refine z_isub C (pc' := 121) dX11_learnt_120 rfl ?_
                      refine z_iadd C (pc' := 122) dX11_learnt_121 rfl ?_
                      refine z_istore C (i := 8) (la' := [(8, zI (zw32 (v22 + (zw32 (v32 - v36))))), (0, zR x0), (1, zI x1), (2, zI x2), (3, zI v5), (4, zI v6), (5, zI v7), (6, zI v11), (7, zI v12), (9, zI v23)]) (pc' := 124) dX11_learnt_122 (by decide) rfl rfl ?_
                      exact zlocs (lb := [(0, zR x0), (1, zI x1), (2, zI x2), (3, zI v5), (4, zI v6), (5, zI v7), (6, zI v11), (7, zI v12), (8, zI (zw32 (v22 + (zw32 (v32 - v36))))), (9, zI v23)]) ⟨rfl, rfl, rfl, rfl, rfl, rfl, rfl, rfl, rfl, rfl, trivial⟩ (hk31 _ _)
                    ·
                      refine z_if_eq C (pc' := 119) (pf := 114) dX11_learnt_111 rfl rfl (fun _ => ?_) (fun _ => ?_)
                      ·
                        refine z_iconst C (pc' := 120) dX11_learnt_119 kc_0 rfl ?_
                        exact zlocs (lb := [(0, zR x0), (1, zI x1), (2, zI x2), (3, zI v5), (4, zI v6), (5, zI v7), (6, zI v11), (7, zI v12), (9, zI v23)]) ⟨rfl, rfl, rfl, rfl, rfl, rfl, rfl, rfl, rfl, trivial⟩ (hk38 _ _)
                      ·
                        refine z_bipush C (pc' := 116) dX11_learnt_114 kb_100 rfl ?_
                        refine z_goto C (pc' := 120) dX11_learnt_116 rfl ?_
                        exact zlocs (lb := [(0, zR x0), (1, zI x1), (2, zI x2), (3, zI v5), (4, zI v6), (5, zI v7), (6, zI v11), (7, zI v12), (9, zI v23)]) ⟨rfl, rfl, rfl, rfl, rfl, rfl, rfl, rfl, rfl, trivial⟩ (hk38 _ _)
        ·
          refine z_bipush C (pc' := 35) dX11_learnt_33 kb_m5 rfl ?_
          exact z_ireturn C dX11_learnt_35
      ·
        refine z_iconst C (pc' := 25) dX11_learnt_24 kc_m1 rfl ?_
        exact z_ireturn C dX11_learnt_25
def fX11_asleep (x0 x1 x2 : Int) (u0 : zMem) : zRs := zvc 11 x0 (fX11_isPaper x0 x1 u0) (fun v1 u2 => if v1 = 0 then (some ((-1), u2)) else (zcall (fX11_within x2 0 1 u2) (fun v3 u4 => if v3 ≠ 0 then (zlp (fun _ _ _ _ _ _ => none) (fun k11 (v5 : Int) (v6 : Int) (v7 : Int) (v8 : Int) (v9 : Int) (u10 : zMem) => zgf 11 6 x0 u10 (fun v12 => if v9 ≥ v12 then (if x2 ≠ 0 then (some (v5, u10)) else (some (v6, u10))) else (zvc 11 x0 (fX11_has x0 x1 v9 u10) (fun v13 u14 => zjn (fun (v15 : Int) (v16 : Int) (v17 : Int) (v18 : Int) (u19 : zMem) => k11 v15 v16 v17 v18 (zw32 (v9 + 1)) u19) (fun k20 => if v13 = 0 then (zgf 11 0 x0 u14 (fun v21 => zald 20 v21 (zw32 (48 + v9)) u14 (fun v22 => if (zw32 (v7 + v22)) ≤ v5 then (k20 v5 v6 (zw32 (v7 + v22)) v8 u14) else (zvc 11 x0 (fX11_minuteOf x0 v8 u14) (fun v23 u24 => k20 (zw32 (v7 + v22)) v23 (zw32 (v7 + v22)) v8 u24))))) else (k20 v5 v6 0 (zw32 (v9 + 1)) u14)))))) 1000000 0 0 0 0 0 u4) else (some ((-1), u4)))))
set_option maxRecDepth 100000 in
set_option maxHeartbeats 4000000 in
theorem rX11_asleep (l : Launch) (w : zW) (x0 x1 x2 : Int) (u0 : zMem) : zSpc l w 3 yX11_asleep cX11_asleep 8 (some .int) 1 [zR x0, zI x1, zI x2] u0 (fX11_asleep x0 x1 x2 u0) := by
  refine zSpc_of (own := RX11) pnRX11 rfl (Nat.le_of_ble_eq_true rfl) (fun G p e R s m args below meth c C hini => ?_)
  unfold fX11_asleep
  refine zlocs (lb := [(0, zR x0), (1, zI x1), (2, zI x2)]) ⟨rfl, rfl, rfl, trivial⟩ ?_
  refine z_aload_n C (i := 0) (pc' := 1) dX11_asleep_0 rfl rfl rfl ?_
  refine z_iload_n C (i := 1) (pc' := 2) dX11_asleep_1 rfl rfl rfl ?_
  refine z_callV1 C (pc' := 5) lvRX11_219 lc_X11_isPaper rfl dX11_asleep_2 rfl (by decide) (rX11_isPaper l w x0 x1 u0) rfl (Nat.le_of_ble_eq_true rfl) (fun v1 u2 => ?_)
  refine z_if_eq C (pc' := 18) (pf := 8) dX11_asleep_5 rfl rfl (fun _ => ?_) (fun _ => ?_)
  ·
    refine z_iconst C (pc' := 19) dX11_asleep_18 kc_m1 rfl ?_
    exact z_ireturn C dX11_asleep_19
  ·
    refine z_iload_n C (i := 2) (pc' := 9) dX11_asleep_8 rfl rfl rfl ?_
    refine z_i2l C (pc' := 10) dX11_asleep_9 rfl ?_
    refine z_lconst C (pc' := 11) dX11_asleep_10 kl_0 rfl ?_
    refine z_lconst C (pc' := 12) dX11_asleep_11 kl_1 rfl ?_
    refine z_callS1 C (pc' := 15) lsRX11_88 lc_X11_within rfl dX11_asleep_12 rfl (by decide) (rX11_within l w x2 0 1 u2) rfl (Nat.le_of_ble_eq_true rfl) (fun v3 u4 => ?_)
    refine z_if_ne C (pc' := 20) (pf := 18) dX11_asleep_15 rfl rfl (fun _ => ?_) (fun _ => ?_)
    ·
      refine z_iconst C (pc' := 21) dX11_asleep_20 kc_0 rfl ?_
      refine z_istore_n C (i := 3) (la' := [(3, zI 0), (0, zR x0), (1, zI x1), (2, zI x2)]) (pc' := 22) dX11_asleep_21 rfl (by decide) rfl rfl ?_
      refine z_iconst C (pc' := 23) dX11_asleep_22 kc_0 rfl ?_
      refine z_istore C (i := 4) (la' := [(4, zI 0), (3, zI 0), (0, zR x0), (1, zI x1), (2, zI x2)]) (pc' := 25) dX11_asleep_23 (by decide) rfl rfl ?_
      refine z_iconst C (pc' := 26) dX11_asleep_25 kc_0 rfl ?_
      refine z_istore C (i := 5) (la' := [(5, zI 0), (4, zI 0), (3, zI 0), (0, zR x0), (1, zI x1), (2, zI x2)]) (pc' := 28) dX11_asleep_26 (by decide) rfl rfl ?_
      refine z_iconst C (pc' := 29) dX11_asleep_28 kc_0 rfl ?_
      refine z_istore C (i := 6) (la' := [(6, zI 0), (5, zI 0), (4, zI 0), (3, zI 0), (0, zR x0), (1, zI x1), (2, zI x2)]) (pc' := 31) dX11_asleep_29 (by decide) rfl rfl ?_
      refine z_iconst C (pc' := 32) dX11_asleep_31 kc_0 rfl ?_
      refine z_istore C (i := 7) (la' := [(7, zI 0), (6, zI 0), (5, zI 0), (4, zI 0), (3, zI 0), (0, zR x0), (1, zI x1), (2, zI x2)]) (pc' := 34) dX11_asleep_32 (by decide) rfl rfl ?_
      refine zlocs (lb := [(0, zR x0), (1, zI x1), (2, zI x2), (3, zI 0), (4, zI 0), (5, zI 0), (6, zI 0), (7, zI 0)]) ⟨rfl, rfl, rfl, rfl, rfl, rfl, rfl, rfl, trivial⟩ ?_
      refine zlp_ind (fun (f : Int → Int → Int → Int → Int → zMem → zRs) => ∀ (v5 : Int) (v6 : Int) (v7 : Int) (v8 : Int) (v9 : Int) (u10 : zMem), zSim G p l e R s m args below meth c w 8 (znc u0) (zM w 1 (znc u0) below args s) 34 [(0, zR x0), (1, zI x1), (2, zI x2), (3, zI v5), (4, zI v6), (5, zI v7), (6, zI v8), (7, zI v9)] [] u10 (f v5 v6 v7 v8 v9 u10)) (fun _ _ _ _ _ _ => znone) (fun k11 hk11 v5 v6 v7 v8 v9 u10 => ?_) _ _ _ _ _ _ _
      refine z_iload C (pc' := 36) dX11_asleep_34 rfl rfl ?_
      refine z_aload_n C (i := 0) (pc' := 37) dX11_asleep_36 rfl rfl rfl ?_
      refine z_getf C (pc' := 40) flRX11_85 dX11_asleep_37 rfl (fun v12 => ?_)
      refine z_icmp_ge C (pc' := 103) (pf := 43) dX11_asleep_40 rfl rfl (fun _ => ?_) (fun _ => ?_)
      ·
        refine z_iload_n C (i := 2) (pc' := 104) dX11_asleep_103 rfl rfl rfl ?_
        refine z_if_ne C (pc' := 112) (pf := 107) dX11_asleep_104 rfl rfl (fun _ => ?_) (fun _ => ?_)
        ·
          refine z_iload_n C (i := 3) (pc' := 113) dX11_asleep_112 rfl rfl rfl ?_
          exact z_ireturn C dX11_asleep_113
        ·
          refine z_iload C (pc' := 109) dX11_asleep_107 rfl rfl ?_
          refine z_goto C (pc' := 113) dX11_asleep_109 rfl ?_
          exact z_ireturn C dX11_asleep_113
      ·
        refine z_aload_n C (i := 0) (pc' := 44) dX11_asleep_43 rfl rfl rfl ?_
        refine z_iload_n C (i := 1) (pc' := 45) dX11_asleep_44 rfl rfl rfl ?_
        refine z_iload C (pc' := 47) dX11_asleep_45 rfl rfl ?_
        refine z_callV1 C (pc' := 50) lvRX11_222 lc_X11_has rfl dX11_asleep_47 rfl (by decide) (rX11_has l w x0 x1 v9 u10) rfl (Nat.le_of_ble_eq_true rfl) (fun v13 u14 => ?_)
        refine zjoin (P := fun (f : Int → Int → Int → Int → zMem → zRs) => ∀ (v15 : Int) (v16 : Int) (v17 : Int) (v18 : Int) (u19 : zMem), zSim G p l e R s m args below meth c w 8 (znc u0) (zM w 1 (znc u0) below args s) 97 [(0, zR x0), (1, zI x1), (2, zI x2), (3, zI v15), (4, zI v16), (5, zI v17), (6, zI v18), (7, zI v9)] [] u19 (f v15 v16 v17 v18 u19)) (fun v15 v16 v17 v18 u19 => ?_) (fun k20 hk20 => ?_)
        ·
          refine z_iinc C (i := 7) (la' := [(7, zI (zw32 (v9 + 1))), (0, zR x0), (1, zI x1), (2, zI x2), (3, zI v15), (4, zI v16), (5, zI v17), (6, zI v18)]) (pc' := 100) dX11_asleep_97 rfl (by decide) rfl rfl ?_
          refine z_goto C (pc' := 34) dX11_asleep_100 rfl ?_
          exact zlocs (lb := [(0, zR x0), (1, zI x1), (2, zI x2), (3, zI v15), (4, zI v16), (5, zI v17), (6, zI v18), (7, zI (zw32 (v9 + 1)))]) ⟨rfl, rfl, rfl, rfl, rfl, rfl, rfl, rfl, trivial⟩ (hk11 _ _ _ _ _ _)
        ·
          refine z_if_eq C (pc' := 65) (pf := 53) dX11_asleep_50 rfl rfl (fun _ => ?_) (fun _ => ?_)
          ·
            refine z_iload C (pc' := 67) dX11_asleep_65 rfl rfl ?_
            refine z_aload_n C (i := 0) (pc' := 68) dX11_asleep_67 rfl rfl rfl ?_
            refine z_getfR C (pc' := 71) flRX11_9 dX11_asleep_68 rfl (fun v21 => ?_)
            refine z_bipush C (pc' := 73) dX11_asleep_71 kb_48 rfl ?_
            refine z_iload C (pc' := 75) dX11_asleep_73 rfl rfl ?_
            refine z_iadd C (pc' := 76) dX11_asleep_75 rfl ?_
            refine z_iald C (pc' := 77) dX11_asleep_76 rfl (fun v22 => ?_)
            refine z_iadd C (pc' := 78) dX11_asleep_77 rfl ?_
            refine z_istore C (i := 5) (la' := [(5, zI (zw32 (v7 + v22))), (0, zR x0), (1, zI x1), (2, zI x2), (3, zI v5), (4, zI v6), (6, zI v8), (7, zI v9)]) (pc' := 80) dX11_asleep_78 (by decide) rfl rfl ?_
            refine z_iload C (pc' := 82) dX11_asleep_80 rfl rfl ?_
            refine z_iload_n C (i := 3) (pc' := 83) dX11_asleep_82 rfl rfl rfl ?_
            refine z_icmp_le C (pc' := 97) (pf := 86) dX11_asleep_83 rfl rfl (fun _ => ?_) (fun _ => ?_)
            ·
              exact zlocs (lb := [(0, zR x0), (1, zI x1), (2, zI x2), (3, zI v5), (4, zI v6), (5, zI (zw32 (v7 + v22))), (6, zI v8), (7, zI v9)]) ⟨rfl, rfl, rfl, rfl, rfl, rfl, rfl, rfl, trivial⟩ (hk20 _ _ _ _ _)
            ·
              refine z_iload C (pc' := 88) dX11_asleep_86 rfl rfl ?_
              refine z_istore_n C (i := 3) (la' := [(3, zI (zw32 (v7 + v22))), (5, zI (zw32 (v7 + v22))), (0, zR x0), (1, zI x1), (2, zI x2), (4, zI v6), (6, zI v8), (7, zI v9)]) (pc' := 89) dX11_asleep_88 rfl (by decide) rfl rfl ?_
              refine z_aload_n C (i := 0) (pc' := 90) dX11_asleep_89 rfl rfl rfl ?_
              refine z_iload C (pc' := 92) dX11_asleep_90 rfl rfl ?_
              refine z_callV1 C (pc' := 95) lvRX11_123 lc_X11_minuteOf rfl dX11_asleep_92 rfl (by decide) (rX11_minuteOf l w x0 v8 u14) rfl (Nat.le_of_ble_eq_true rfl) (fun v23 u24 => ?_)
              refine z_istore C (i := 4) (la' := [(4, zI v23), (3, zI (zw32 (v7 + v22))), (5, zI (zw32 (v7 + v22))), (0, zR x0), (1, zI x1), (2, zI x2), (6, zI v8), (7, zI v9)]) (pc' := 97) dX11_asleep_95 (by decide) rfl rfl ?_
              exact zlocs (lb := [(0, zR x0), (1, zI x1), (2, zI x2), (3, zI (zw32 (v7 + v22))), (4, zI v23), (5, zI (zw32 (v7 + v22))), (6, zI v8), (7, zI v9)]) ⟨rfl, rfl, rfl, rfl, rfl, rfl, rfl, rfl, trivial⟩ (hk20 _ _ _ _ _)
          ·
            refine z_iconst C (pc' := 54) dX11_asleep_53 kc_0 rfl ?_
            refine z_istore C (i := 5) (la' := [(5, zI 0), (0, zR x0), (1, zI x1), (2, zI x2), (3, zI v5), (4, zI v6), (6, zI v8), (7, zI v9)]) (pc' := 56) dX11_asleep_54 (by decide) rfl rfl ?_
            refine z_iload C (pc' := 58) dX11_asleep_56 rfl rfl ?_
            refine z_iconst C (pc' := 59) dX11_asleep_58 kc_1 rfl ?_
            refine z_iadd C (pc' := 60) dX11_asleep_59 rfl ?_
            refine z_istore C (i := 6) (la' := [(6, zI (zw32 (v9 + 1))), (5, zI 0), (0, zR x0), (1, zI x1), (2, zI x2), (3, zI v5), (4, zI v6), (7, zI v9)]) (pc' := 62) dX11_asleep_60 (by decide) rfl rfl ?_
            refine z_goto C (pc' := 97) dX11_asleep_62 rfl ?_
            exact zlocs (lb := [(0, zR x0), (1, zI x1), (2, zI x2), (3, zI v5), (4, zI v6), (5, zI 0), (6, zI (zw32 (v9 + 1))), (7, zI v9)]) ⟨rfl, rfl, rfl, rfl, rfl, rfl, rfl, rfl, trivial⟩ (hk20 _ _ _ _ _)
    ·
      refine z_iconst C (pc' := 19) dX11_asleep_18 kc_m1 rfl ?_
      exact z_ireturn C dX11_asleep_19
def fX11_ask (x0 x1 : Int) (u0 : zMem) : zRs := zcall (fX11_within x1 0 1 u0) (fun v1 u2 => if v1 ≠ 0 then (zgf 11 9 x0 u2 (fun v3 => if v3 ≥ 2 then (zlp (fun _ _ _ _ => none) (fun k8 (v4 : Int) (v5 : Int) (v6 : Int) (u7 : zMem) => zgf 11 9 x0 u7 (fun v9 => if v6 ≥ v9 then (if x1 ≠ 0 then (some (v5, u7)) else (some (v4, u7))) else (zlp (fun _ _ _ _ => none) (fun k14 (v10 : Int) (v11 : Int) (v12 : Int) (u13 : zMem) => zgf 11 9 x0 u13 (fun v15 => if v12 ≥ v15 then (k8 v10 v11 (zw32 (v6 + 1)) u13) else (zlp (fun _ _ _ => none) (fun k19 (v16 : Int) (v17 : Int) (u18 : zMem) => zgf 11 6 x0 u18 (fun v20 => if v17 ≥ v20 then (zjn (fun (v21 : Int) (v22 : Int) (u23 : zMem) => k14 v21 v22 (zw32 (v12 + 1)) u23) (fun k24 => zjn (fun (u25 : zMem) => k24 (zw32 ((zw32 (10 * v6)) + v12)) v16 u25) (fun k26 => if v10 < 0 then (k26 u18) else (if v16 ≤ v11 then (k24 v10 v11 u18) else (k26 u18))))) else (zvc 11 x0 (fX11_heedOf x0 v6 v17 u18) (fun v27 u28 => zvc 11 x0 (fX11_heedOf x0 v12 v17 u28) (fun v29 u30 => k19 (zw32 (v16 + (zw32 (10000 - (zw32 ((zw32 (100 - v27)) * (zw32 (100 - v29)))))))) (zw32 (v17 + 1)) u30))))) 1000000 0 0 u13))) 1000000 v4 v5 (zw32 (v6 + 1)) u7))) 1000000 (-1) 0 0 u2) else (some ((-5), u2)))) else (some ((-1), u2)))
set_option maxRecDepth 100000 in
set_option maxHeartbeats 4000000 in
theorem rX11_ask (l : Launch) (w : zW) (x0 x1 : Int) (u0 : zMem) : zSpc l w 206 yX11_ask cX11_ask 8 (some .int) 1 [zR x0, zI x1] u0 (fX11_ask x0 x1 u0) := by
  refine zSpc_of (own := RX11) pnRX11 rfl (Nat.le_of_ble_eq_true rfl) (fun G p e R s m args below meth c C hini => ?_)
  unfold fX11_ask
  refine zlocs (lb := [(0, zR x0), (1, zI x1)]) ⟨rfl, rfl, trivial⟩ ?_
  refine z_iload_n C (i := 1) (pc' := 1) dX11_ask_0 rfl rfl rfl ?_
  refine z_i2l C (pc' := 2) dX11_ask_1 rfl ?_
  refine z_lconst C (pc' := 3) dX11_ask_2 kl_0 rfl ?_
  refine z_lconst C (pc' := 4) dX11_ask_3 kl_1 rfl ?_
  refine z_callS1 C (pc' := 7) lsRX11_88 lc_X11_within rfl dX11_ask_4 rfl (by decide) (rX11_within l w x1 0 1 u0) rfl (Nat.le_of_ble_eq_true rfl) (fun v1 u2 => ?_)
  refine z_if_ne C (pc' := 12) (pf := 10) dX11_ask_7 rfl rfl (fun _ => ?_) (fun _ => ?_)
  ·
    refine z_aload_n C (i := 0) (pc' := 13) dX11_ask_12 rfl rfl rfl ?_
    refine z_getf C (pc' := 16) flRX11_127 dX11_ask_13 rfl (fun v3 => ?_)
    refine z_iconst C (pc' := 17) dX11_ask_16 kc_2 rfl ?_
    refine z_icmp_ge C (pc' := 23) (pf := 20) dX11_ask_17 rfl rfl (fun _ => ?_) (fun _ => ?_)
    ·
      refine z_iconst C (pc' := 24) dX11_ask_23 kc_m1 rfl ?_
      refine z_istore_n C (i := 2) (la' := [(2, zI (-1)), (0, zR x0), (1, zI x1)]) (pc' := 25) dX11_ask_24 rfl (by decide) rfl rfl ?_
      refine z_iconst C (pc' := 26) dX11_ask_25 kc_0 rfl ?_
      refine z_istore_n C (i := 3) (la' := [(3, zI 0), (2, zI (-1)), (0, zR x0), (1, zI x1)]) (pc' := 27) dX11_ask_26 rfl (by decide) rfl rfl ?_
      refine z_iconst C (pc' := 28) dX11_ask_27 kc_0 rfl ?_
      refine z_istore C (i := 4) (la' := [(4, zI 0), (3, zI 0), (2, zI (-1)), (0, zR x0), (1, zI x1)]) (pc' := 30) dX11_ask_28 (by decide) rfl rfl ?_
      refine zlocs (lb := [(0, zR x0), (1, zI x1), (2, zI (-1)), (3, zI 0), (4, zI 0)]) ⟨rfl, rfl, rfl, rfl, rfl, trivial⟩ ?_
      refine zlp_ind (fun (f : Int → Int → Int → zMem → zRs) => ∀ (v4 : Int) (v5 : Int) (v6 : Int) (u7 : zMem), zSim G p l e R s m args below meth c w 8 (znc u0) (zM w 1 (znc u0) below args s) 30 [(0, zR x0), (1, zI x1), (2, zI v4), (3, zI v5), (4, zI v6)] [] u7 (f v4 v5 v6 u7)) (fun _ _ _ _ => znone) (fun k8 hk8 v4 v5 v6 u7 => ?_) _ _ _ _ _
      refine z_iload C (pc' := 32) dX11_ask_30 rfl rfl ?_
      refine z_aload_n C (i := 0) (pc' := 33) dX11_ask_32 rfl rfl rfl ?_
      refine z_getf C (pc' := 36) flRX11_127 dX11_ask_33 rfl (fun v9 => ?_)
      refine z_icmp_ge C (pc' := 141) (pf := 39) dX11_ask_36 rfl rfl (fun _ => ?_) (fun _ => ?_)
      ·
        refine z_iload_n C (i := 1) (pc' := 142) dX11_ask_141 rfl rfl rfl ?_
        refine z_if_ne C (pc' := 149) (pf := 145) dX11_ask_142 rfl rfl (fun _ => ?_) (fun _ => ?_)
        ·
          refine z_iload_n C (i := 3) (pc' := 150) dX11_ask_149 rfl rfl rfl ?_
          exact z_ireturn C dX11_ask_150
        ·
          refine z_iload_n C (i := 2) (pc' := 146) dX11_ask_145 rfl rfl rfl ?_
          refine z_goto C (pc' := 150) dX11_ask_146 rfl ?_
          exact z_ireturn C dX11_ask_150
      ·
        refine z_iload C (pc' := 41) dX11_ask_39 rfl rfl ?_
        refine z_iconst C (pc' := 42) dX11_ask_41 kc_1 rfl ?_
        refine z_iadd C (pc' := 43) dX11_ask_42 rfl ?_
        refine z_istore C (i := 5) (la' := [(5, zI (zw32 (v6 + 1))), (0, zR x0), (1, zI x1), (2, zI v4), (3, zI v5), (4, zI v6)]) (pc' := 45) dX11_ask_43 (by decide) rfl rfl ?_
        refine zlocs (lb := [(0, zR x0), (1, zI x1), (2, zI v4), (3, zI v5), (4, zI v6), (5, zI (zw32 (v6 + 1)))]) ⟨rfl, rfl, rfl, rfl, rfl, rfl, trivial⟩ ?_
        refine zlp_ind (fun (f : Int → Int → Int → zMem → zRs) => ∀ (v10 : Int) (v11 : Int) (v12 : Int) (u13 : zMem), zSim G p l e R s m args below meth c w 8 (znc u0) (zM w 1 (znc u0) below args s) 45 [(0, zR x0), (1, zI x1), (2, zI v10), (3, zI v11), (4, zI v6), (5, zI v12)] [] u13 (f v10 v11 v12 u13)) (fun _ _ _ _ => znone) (fun k14 hk14 v10 v11 v12 u13 => ?_) _ _ _ _ _
        refine z_iload C (pc' := 47) dX11_ask_45 rfl rfl ?_
        refine z_aload_n C (i := 0) (pc' := 48) dX11_ask_47 rfl rfl rfl ?_
        refine z_getf C (pc' := 51) flRX11_127 dX11_ask_48 rfl (fun v15 => ?_)
        refine z_icmp_ge C (pc' := 135) (pf := 54) dX11_ask_51 rfl rfl (fun _ => ?_) (fun _ => ?_)
        ·
          refine z_iinc C (i := 4) (la' := [(4, zI (zw32 (v6 + 1))), (0, zR x0), (1, zI x1), (2, zI v10), (3, zI v11), (5, zI v12)]) (pc' := 138) dX11_ask_135 rfl (by decide) rfl rfl ?_
          refine z_goto C (pc' := 30) dX11_ask_138 rfl ?_
          exact zlocs (lb := [(0, zR x0), (1, zI x1), (2, zI v10), (3, zI v11), (4, zI (zw32 (v6 + 1)))]) ⟨rfl, rfl, rfl, rfl, rfl, trivial⟩ (hk8 _ _ _ _)
        ·
          refine z_iconst C (pc' := 55) dX11_ask_54 kc_0 rfl ?_
          refine z_istore C (i := 6) (la' := [(6, zI 0), (0, zR x0), (1, zI x1), (2, zI v10), (3, zI v11), (4, zI v6), (5, zI v12)]) (pc' := 57) dX11_ask_55 (by decide) rfl rfl ?_
          refine z_iconst C (pc' := 58) dX11_ask_57 kc_0 rfl ?_
          refine z_istore C (i := 7) (la' := [(7, zI 0), (6, zI 0), (0, zR x0), (1, zI x1), (2, zI v10), (3, zI v11), (4, zI v6), (5, zI v12)]) (pc' := 60) dX11_ask_58 (by decide) rfl rfl ?_
          refine zlocs (lb := [(0, zR x0), (1, zI x1), (2, zI v10), (3, zI v11), (4, zI v6), (5, zI v12), (6, zI 0), (7, zI 0)]) ⟨rfl, rfl, rfl, rfl, rfl, rfl, rfl, rfl, trivial⟩ ?_
          refine zlp_ind (fun (f : Int → Int → zMem → zRs) => ∀ (v16 : Int) (v17 : Int) (u18 : zMem), zSim G p l e R s m args below meth c w 8 (znc u0) (zM w 1 (znc u0) below args s) 60 [(0, zR x0), (1, zI x1), (2, zI v10), (3, zI v11), (4, zI v6), (5, zI v12), (6, zI v16), (7, zI v17)] [] u18 (f v16 v17 u18)) (fun _ _ _ => znone) (fun k19 hk19 v16 v17 u18 => ?_) _ _ _ _
          refine z_iload C (pc' := 62) dX11_ask_60 rfl rfl ?_
          refine z_aload_n C (i := 0) (pc' := 63) dX11_ask_62 rfl rfl rfl ?_
          refine z_getf C (pc' := 66) flRX11_85 dX11_ask_63 rfl (fun v20 => ?_)
          refine z_icmp_ge C (pc' := 107) (pf := 69) dX11_ask_66 rfl rfl (fun _ => ?_) (fun _ => ?_)
          ·
            refine z_iload_n C (i := 2) (pc' := 108) dX11_ask_107 rfl rfl rfl ?_
            refine zjoin (P := fun (f : Int → Int → zMem → zRs) => ∀ (v21 : Int) (v22 : Int) (u23 : zMem), zSim G p l e R s m args below meth c w 8 (znc u0) (zM w 1 (znc u0) below args s) 129 [(0, zR x0), (1, zI x1), (2, zI v21), (3, zI v22), (4, zI v6), (5, zI v12)] [] u23 (f v21 v22 u23)) (fun v21 v22 u23 => ?_) (fun k24 hk24 => ?_)
            ·
              refine z_iinc C (i := 5) (la' := [(5, zI (zw32 (v12 + 1))), (0, zR x0), (1, zI x1), (2, zI v21), (3, zI v22), (4, zI v6)]) (pc' := 132) dX11_ask_129 rfl (by decide) rfl rfl ?_
              refine z_goto C (pc' := 45) dX11_ask_132 rfl ?_
              exact zlocs (lb := [(0, zR x0), (1, zI x1), (2, zI v21), (3, zI v22), (4, zI v6), (5, zI (zw32 (v12 + 1)))]) ⟨rfl, rfl, rfl, rfl, rfl, rfl, trivial⟩ (hk14 _ _ _ _)
            ·
              refine zjoin (P := fun (f : zMem → zRs) => ∀ (u25 : zMem), zSim G p l e R s m args below meth c w 8 (znc u0) (zM w 1 (znc u0) below args s) 117 [(0, zR x0), (1, zI x1), (4, zI v6), (5, zI v12), (6, zI v16)] [] u25 (f u25)) (fun u25 => ?_) (fun k26 hk26 => ?_)
              ·
                refine z_bipush C (pc' := 119) dX11_ask_117 kb_10 rfl ?_
                refine z_iload C (pc' := 121) dX11_ask_119 rfl rfl ?_
                refine z_imul C (pc' := 122) dX11_ask_121 rfl ?_
                refine z_iload C (pc' := 124) dX11_ask_122 rfl rfl ?_
                refine z_iadd C (pc' := 125) dX11_ask_124 rfl ?_
                refine z_istore_n C (i := 2) (la' := [(2, zI (zw32 ((zw32 (10 * v6)) + v12))), (0, zR x0), (1, zI x1), (4, zI v6), (5, zI v12), (6, zI v16)]) (pc' := 126) dX11_ask_125 rfl (by decide) rfl rfl ?_
                refine z_iload C (pc' := 128) dX11_ask_126 rfl rfl ?_
                refine z_istore_n C (i := 3) (la' := [(3, zI v16), (2, zI (zw32 ((zw32 (10 * v6)) + v12))), (0, zR x0), (1, zI x1), (4, zI v6), (5, zI v12), (6, zI v16)]) (pc' := 129) dX11_ask_128 rfl (by decide) rfl rfl ?_
                exact zlocs (lb := [(0, zR x0), (1, zI x1), (2, zI (zw32 ((zw32 (10 * v6)) + v12))), (3, zI v16), (4, zI v6), (5, zI v12)]) ⟨rfl, rfl, rfl, rfl, rfl, rfl, trivial⟩ (hk24 _ _ _)
              ·
                refine z_if_lt C (pc' := 117) (pf := 111) dX11_ask_108 rfl rfl (fun _ => ?_) (fun _ => ?_)
                ·
                  exact zlocs (lb := [(0, zR x0), (1, zI x1), (4, zI v6), (5, zI v12), (6, zI v16)]) ⟨rfl, rfl, rfl, rfl, rfl, trivial⟩ (hk26 _)
                ·
                  refine z_iload C (pc' := 113) dX11_ask_111 rfl rfl ?_
                  refine z_iload_n C (i := 3) (pc' := 114) dX11_ask_113 rfl rfl rfl ?_
                  refine z_icmp_le C (pc' := 129) (pf := 117) dX11_ask_114 rfl rfl (fun _ => ?_) (fun _ => ?_)
                  ·
                    exact zlocs (lb := [(0, zR x0), (1, zI x1), (2, zI v10), (3, zI v11), (4, zI v6), (5, zI v12)]) ⟨rfl, rfl, rfl, rfl, rfl, rfl, trivial⟩ (hk24 _ _ _)
                  ·
                    exact zlocs (lb := [(0, zR x0), (1, zI x1), (4, zI v6), (5, zI v12), (6, zI v16)]) ⟨rfl, rfl, rfl, rfl, rfl, trivial⟩ (hk26 _)
          ·
            refine z_iload C (pc' := 71) dX11_ask_69 rfl rfl ?_
            refine z_sipush C (pc' := 74) dX11_ask_71 ks_10000 rfl ?_
            refine z_bipush C (pc' := 76) dX11_ask_74 kb_100 rfl ?_
            refine z_aload_n C (i := 0) (pc' := 77) dX11_ask_76 rfl rfl rfl ?_
            refine z_iload C (pc' := 79) dX11_ask_77 rfl rfl ?_
            refine z_iload C (pc' := 81) dX11_ask_79 rfl rfl ?_
            refine z_callV1 C (pc' := 84) lvRX11_187 lc_X11_heedOf rfl dX11_ask_81 rfl (by decide) (rX11_heedOf l w x0 v6 v17 u18) rfl (Nat.le_of_ble_eq_true rfl) (fun v27 u28 => ?_)
            refine z_isub C (pc' := 85) dX11_ask_84 rfl ?_
            refine z_bipush C (pc' := 87) dX11_ask_85 kb_100 rfl ?_
            refine z_aload_n C (i := 0) (pc' := 88) dX11_ask_87 rfl rfl rfl ?_
            refine z_iload C (pc' := 90) dX11_ask_88 rfl rfl ?_
            refine z_iload C (pc' := 92) dX11_ask_90 rfl rfl ?_
            refine z_callV1 C (pc' := 95) lvRX11_187 lc_X11_heedOf rfl dX11_ask_92 rfl (by decide) (rX11_heedOf l w x0 v12 v17 u28) rfl (Nat.le_of_ble_eq_true rfl) (fun v29 u30 => ?_)
            refine z_isub C (pc' := 96) dX11_ask_95 rfl ?_
            refine z_imul C (pc' := 97) dX11_ask_96 rfl ?_
            refine z_isub C (pc' := 98) dX11_ask_97 rfl ?_
            refine z_iadd C (pc' := 99) dX11_ask_98 rfl ?_
            refine z_istore C (i := 6) (la' := [(6, zI (zw32 (v16 + (zw32 (10000 - (zw32 ((zw32 (100 - v27)) * (zw32 (100 - v29))))))))), (0, zR x0), (1, zI x1), (2, zI v10), (3, zI v11), (4, zI v6), (5, zI v12), (7, zI v17)]) (pc' := 101) dX11_ask_99 (by decide) rfl rfl ?_
            refine z_iinc C (i := 7) (la' := [(7, zI (zw32 (v17 + 1))), (6, zI (zw32 (v16 + (zw32 (10000 - (zw32 ((zw32 (100 - v27)) * (zw32 (100 - v29))))))))), (0, zR x0), (1, zI x1), (2, zI v10), (3, zI v11), (4, zI v6), (5, zI v12)]) (pc' := 104) dX11_ask_101 rfl (by decide) rfl rfl ?_
            refine z_goto C (pc' := 60) dX11_ask_104 rfl ?_
            exact zlocs (lb := [(0, zR x0), (1, zI x1), (2, zI v10), (3, zI v11), (4, zI v6), (5, zI v12), (6, zI (zw32 (v16 + (zw32 (10000 - (zw32 ((zw32 (100 - v27)) * (zw32 (100 - v29))))))))), (7, zI (zw32 (v17 + 1)))]) ⟨rfl, rfl, rfl, rfl, rfl, rfl, rfl, rfl, trivial⟩ (hk19 _ _ _)
    ·
      refine z_bipush C (pc' := 22) dX11_ask_20 kb_m5 rfl ?_
      exact z_ireturn C dX11_ask_22
  ·
    refine z_iconst C (pc' := 11) dX11_ask_10 kc_m1 rfl ?_
    exact z_ireturn C dX11_ask_11
def fX11_years (x0 x1 x2 : Int) (u0 : zMem) : zRs := zvc 11 x0 (fX11_isWriter x0 x1 u0) (fun v1 u2 => if v1 = 0 then (some ((-1), u2)) else (zcall (fX11_within x2 0 99 u2) (fun v3 u4 => if v3 ≠ 0 then (zlp (fun _ _ _ => none) (fun k8 (v5 : Int) (v6 : Int) (u7 : zMem) => zgf 11 6 x0 u7 (fun v9 => if v6 ≥ v9 then (some (v5, u7)) else (zvc 11 x0 (fX11_heedOf x0 x1 v6 u7) (fun v10 u11 => znz 100 (k8 (zw32 (v5 + (zw32 (Int.tdiv (zw32 (v10 * (zw32 (100 - x2)))) 100)))) (zw32 (v6 + 1)) u11))))) 1000000 0 0 u4) else (some ((-1), u4)))))
set_option maxRecDepth 100000 in
set_option maxHeartbeats 4000000 in
theorem rX11_years (l : Launch) (w : zW) (x0 x1 x2 : Int) (u0 : zMem) : zSpc l w 206 yX11_years cX11_years 5 (some .int) 1 [zR x0, zI x1, zI x2] u0 (fX11_years x0 x1 x2 u0) := by
  refine zSpc_of (own := RX11) pnRX11 rfl (Nat.le_of_ble_eq_true rfl) (fun G p e R s m args below meth c C hini => ?_)
  unfold fX11_years
  refine zlocs (lb := [(0, zR x0), (1, zI x1), (2, zI x2)]) ⟨rfl, rfl, rfl, trivial⟩ ?_
  refine z_aload_n C (i := 0) (pc' := 1) dX11_years_0 rfl rfl rfl ?_
  refine z_iload_n C (i := 1) (pc' := 2) dX11_years_1 rfl rfl rfl ?_
  refine z_callV1 C (pc' := 5) lvRX11_184 lc_X11_isWriter rfl dX11_years_2 rfl (by decide) (rX11_isWriter l w x0 x1 u0) rfl (Nat.le_of_ble_eq_true rfl) (fun v1 u2 => ?_)
  refine z_if_eq C (pc' := 20) (pf := 8) dX11_years_5 rfl rfl (fun _ => ?_) (fun _ => ?_)
  ·
    refine z_iconst C (pc' := 21) dX11_years_20 kc_m1 rfl ?_
    exact z_ireturn C dX11_years_21
  ·
    refine z_iload_n C (i := 2) (pc' := 9) dX11_years_8 rfl rfl rfl ?_
    refine z_i2l C (pc' := 10) dX11_years_9 rfl ?_
    refine z_lconst C (pc' := 11) dX11_years_10 kl_0 rfl ?_
    refine z_ldc2 C (pc' := 14) dX11_years_11 wlRX11_244 kj_99 rfl ?_
    refine z_callS1 C (pc' := 17) lsRX11_88 lc_X11_within rfl dX11_years_14 rfl (by decide) (rX11_within l w x2 0 99 u2) rfl (Nat.le_of_ble_eq_true rfl) (fun v3 u4 => ?_)
    refine z_if_ne C (pc' := 22) (pf := 20) dX11_years_17 rfl rfl (fun _ => ?_) (fun _ => ?_)
    ·
      refine z_iconst C (pc' := 23) dX11_years_22 kc_0 rfl ?_
      refine z_istore_n C (i := 3) (la' := [(3, zI 0), (0, zR x0), (1, zI x1), (2, zI x2)]) (pc' := 24) dX11_years_23 rfl (by decide) rfl rfl ?_
      refine z_iconst C (pc' := 25) dX11_years_24 kc_0 rfl ?_
      refine z_istore C (i := 4) (la' := [(4, zI 0), (3, zI 0), (0, zR x0), (1, zI x1), (2, zI x2)]) (pc' := 27) dX11_years_25 (by decide) rfl rfl ?_
      refine zlocs (lb := [(0, zR x0), (1, zI x1), (2, zI x2), (3, zI 0), (4, zI 0)]) ⟨rfl, rfl, rfl, rfl, rfl, trivial⟩ ?_
      refine zlp_ind (fun (f : Int → Int → zMem → zRs) => ∀ (v5 : Int) (v6 : Int) (u7 : zMem), zSim G p l e R s m args below meth c w 5 (znc u0) (zM w 1 (znc u0) below args s) 27 [(0, zR x0), (1, zI x1), (2, zI x2), (3, zI v5), (4, zI v6)] [] u7 (f v5 v6 u7)) (fun _ _ _ => znone) (fun k8 hk8 v5 v6 u7 => ?_) _ _ _ _
      refine z_iload C (pc' := 29) dX11_years_27 rfl rfl ?_
      refine z_aload_n C (i := 0) (pc' := 30) dX11_years_29 rfl rfl rfl ?_
      refine z_getf C (pc' := 33) flRX11_85 dX11_years_30 rfl (fun v9 => ?_)
      refine z_icmp_ge C (pc' := 60) (pf := 36) dX11_years_33 rfl rfl (fun _ => ?_) (fun _ => ?_)
      ·
        refine z_iload_n C (i := 3) (pc' := 61) dX11_years_60 rfl rfl rfl ?_
        exact z_ireturn C dX11_years_61
      ·
        refine z_iload_n C (i := 3) (pc' := 37) dX11_years_36 rfl rfl rfl ?_
        refine z_aload_n C (i := 0) (pc' := 38) dX11_years_37 rfl rfl rfl ?_
        refine z_iload_n C (i := 1) (pc' := 39) dX11_years_38 rfl rfl rfl ?_
        refine z_iload C (pc' := 41) dX11_years_39 rfl rfl ?_
        refine z_callV1 C (pc' := 44) lvRX11_187 lc_X11_heedOf rfl dX11_years_41 rfl (by decide) (rX11_heedOf l w x0 x1 v6 u7) rfl (Nat.le_of_ble_eq_true rfl) (fun v10 u11 => ?_)
        refine z_bipush C (pc' := 46) dX11_years_44 kb_100 rfl ?_
        refine z_iload_n C (i := 2) (pc' := 47) dX11_years_46 rfl rfl rfl ?_
        refine z_isub C (pc' := 48) dX11_years_47 rfl ?_
        refine z_imul C (pc' := 49) dX11_years_48 rfl ?_
        refine z_bipush C (pc' := 51) dX11_years_49 kb_100 rfl ?_
        refine z_idiv C (pc' := 52) dX11_years_51 rfl (fun _ => ?_)
        refine z_iadd C (pc' := 53) dX11_years_52 rfl ?_
        refine z_istore_n C (i := 3) (la' := [(3, zI (zw32 (v5 + (zw32 (Int.tdiv (zw32 (v10 * (zw32 (100 - x2)))) 100))))), (0, zR x0), (1, zI x1), (2, zI x2), (4, zI v6)]) (pc' := 54) dX11_years_53 rfl (by decide) rfl rfl ?_
        refine z_iinc C (i := 4) (la' := [(4, zI (zw32 (v6 + 1))), (3, zI (zw32 (v5 + (zw32 (Int.tdiv (zw32 (v10 * (zw32 (100 - x2)))) 100))))), (0, zR x0), (1, zI x1), (2, zI x2)]) (pc' := 57) dX11_years_54 rfl (by decide) rfl rfl ?_
        refine z_goto C (pc' := 27) dX11_years_57 rfl ?_
        exact zlocs (lb := [(0, zR x0), (1, zI x1), (2, zI x2), (3, zI (zw32 (v5 + (zw32 (Int.tdiv (zw32 (v10 * (zw32 (100 - x2)))) 100))))), (4, zI (zw32 (v6 + 1)))]) ⟨rfl, rfl, rfl, rfl, rfl, trivial⟩ (hk8 _ _ _)
    ·
      refine z_iconst C (pc' := 21) dX11_years_20 kc_m1 rfl ?_
      exact z_ireturn C dX11_years_21
def fX11_isBody (x0 x1 : Int) (u0 : zMem) : zRs := zgf 11 27 x0 u0 (fun v1 => zcall (fX11_within x1 0 (zw32 (v1 - 1)) u0) (fun v2 u3 => zbl v2 (some (v2, u3))))
set_option maxRecDepth 100000 in
set_option maxHeartbeats 4000000 in
theorem rX11_isBody (l : Launch) (w : zW) (x0 x1 : Int) (u0 : zMem) : zSpc l w 2 yX11_isBody cX11_isBody 2 (some .boolean) 1 [zR x0, zI x1] u0 (fX11_isBody x0 x1 u0) := by
  refine zSpc_of (own := RX11) pnRX11 rfl (Nat.le_of_ble_eq_true rfl) (fun G p e R s m args below meth c C hini => ?_)
  unfold fX11_isBody
  refine zlocs (lb := [(0, zR x0), (1, zI x1)]) ⟨rfl, rfl, trivial⟩ ?_
  refine z_iload_n C (i := 1) (pc' := 1) dX11_isBody_0 rfl rfl rfl ?_
  refine z_i2l C (pc' := 2) dX11_isBody_1 rfl ?_
  refine z_lconst C (pc' := 3) dX11_isBody_2 kl_0 rfl ?_
  refine z_aload_n C (i := 0) (pc' := 4) dX11_isBody_3 rfl rfl rfl ?_
  refine z_getf C (pc' := 7) flRX11_265 dX11_isBody_4 rfl (fun v1 => ?_)
  refine z_iconst C (pc' := 8) dX11_isBody_7 kc_1 rfl ?_
  refine z_isub C (pc' := 9) dX11_isBody_8 rfl ?_
  refine z_i2l C (pc' := 10) dX11_isBody_9 rfl ?_
  refine z_callS1 C (pc' := 13) lsRX11_88 lc_X11_within rfl dX11_isBody_10 rfl (by decide) (rX11_within l w x1 0 (zw32 (v1 - 1)) u0) rfl (Nat.le_of_ble_eq_true rfl) (fun v2 u3 => ?_)
  exact z_zreturn C dX11_isBody_13
def fX11_kindOf (x0 x1 : Int) (u0 : zMem) : zRs := zgf 11 28 x0 u0 (fun v1 => zald 20 v1 x1 u0 (fun v2 => some (v2, u0)))
set_option maxRecDepth 100000 in
set_option maxHeartbeats 4000000 in
theorem rX11_kindOf (l : Launch) (w : zW) (x0 x1 : Int) (u0 : zMem) : zSpc l w 1 yX11_kindOf cX11_kindOf 2 (some .int) 1 [zR x0, zI x1] u0 (fX11_kindOf x0 x1 u0) := by
  refine zSpc_of (own := RX11) pnRX11 rfl (Nat.le_of_ble_eq_true rfl) (fun G p e R s m args below meth c C hini => ?_)
  unfold fX11_kindOf
  refine zlocs (lb := [(0, zR x0), (1, zI x1)]) ⟨rfl, rfl, trivial⟩ ?_
  refine z_aload_n C (i := 0) (pc' := 1) dX11_kindOf_0 rfl rfl rfl ?_
  refine z_getfR C (pc' := 4) flRX11_59 dX11_kindOf_1 rfl (fun v1 => ?_)
  refine z_iload_n C (i := 1) (pc' := 5) dX11_kindOf_4 rfl rfl rfl ?_
  refine z_iald C (pc' := 6) dX11_kindOf_5 rfl (fun v2 => ?_)
  exact z_ireturn C dX11_kindOf_6
def fX11_body (x0 x1 : Int) (u0 : zMem) : zRs := zcall (fX11_within x1 0 7 u0) (fun v1 u2 => if v1 ≠ 0 then (zgf 11 27 x0 u2 (fun v3 => if v3 ≠ 50 then (zgf 11 28 x0 u2 (fun v4 => zgf 11 27 x0 u2 (fun v5 => zast 20 v4 v5 x1 u2 (fun u6 => zgf 11 27 x0 u6 (fun v7 => zpf 11 27 x0 (zw32 (v7 + 1)) u6 (fun u8 => zgf 11 27 x0 u8 (fun v9 => some ((zw32 (v9 - 1)), u8)))))))) else (some ((-3), u2)))) else (some ((-1), u2)))
set_option maxRecDepth 100000 in
set_option maxHeartbeats 4000000 in
theorem rX11_body (l : Launch) (w : zW) (x0 x1 : Int) (u0 : zMem) : zSpc l w 2 yX11_body cX11_body 2 (some .int) 1 [zR x0, zI x1] u0 (fX11_body x0 x1 u0) := by
  refine zSpc_of (own := RX11) pnRX11 rfl (Nat.le_of_ble_eq_true rfl) (fun G p e R s m args below meth c C hini => ?_)
  unfold fX11_body
  refine zlocs (lb := [(0, zR x0), (1, zI x1)]) ⟨rfl, rfl, trivial⟩ ?_
  refine z_iload_n C (i := 1) (pc' := 1) dX11_body_0 rfl rfl rfl ?_
  refine z_i2l C (pc' := 2) dX11_body_1 rfl ?_
  refine z_lconst C (pc' := 3) dX11_body_2 kl_0 rfl ?_
  refine z_ldc2 C (pc' := 6) dX11_body_3 wlRX11_96 kj_7 rfl ?_
  refine z_callS1 C (pc' := 9) lsRX11_88 lc_X11_within rfl dX11_body_6 rfl (by decide) (rX11_within l w x1 0 7 u0) rfl (Nat.le_of_ble_eq_true rfl) (fun v1 u2 => ?_)
  refine z_if_ne C (pc' := 14) (pf := 12) dX11_body_9 rfl rfl (fun _ => ?_) (fun _ => ?_)
  ·
    refine z_aload_n C (i := 0) (pc' := 15) dX11_body_14 rfl rfl rfl ?_
    refine z_getf C (pc' := 18) flRX11_265 dX11_body_15 rfl (fun v3 => ?_)
    refine z_bipush C (pc' := 20) dX11_body_18 kb_50 rfl ?_
    refine z_icmp_ne C (pc' := 26) (pf := 23) dX11_body_20 rfl rfl (fun _ => ?_) (fun _ => ?_)
    ·
      refine z_aload_n C (i := 0) (pc' := 27) dX11_body_26 rfl rfl rfl ?_
      refine z_getfR C (pc' := 30) flRX11_59 dX11_body_27 rfl (fun v4 => ?_)
      refine z_aload_n C (i := 0) (pc' := 31) dX11_body_30 rfl rfl rfl ?_
      refine z_getf C (pc' := 34) flRX11_265 dX11_body_31 rfl (fun v5 => ?_)
      refine z_iload_n C (i := 1) (pc' := 35) dX11_body_34 rfl rfl rfl ?_
      refine z_iast C (pc' := 36) dX11_body_35 rfl (fun u6 => ?_)
      refine z_aload_n C (i := 0) (pc' := 37) dX11_body_36 rfl rfl rfl ?_
      refine z_dup C (pc' := 38) dX11_body_37 rfl rfl ?_
      refine z_getf C (pc' := 41) flRX11_265 dX11_body_38 rfl (fun v7 => ?_)
      refine z_iconst C (pc' := 42) dX11_body_41 kc_1 rfl ?_
      refine z_iadd C (pc' := 43) dX11_body_42 rfl ?_
      refine z_putf C (pc' := 46) flRX11_265 fn11_27 fb11_27 dX11_body_43 rfl (fun u8 => ?_)
      refine z_aload_n C (i := 0) (pc' := 47) dX11_body_46 rfl rfl rfl ?_
      refine z_getf C (pc' := 50) flRX11_265 dX11_body_47 rfl (fun v9 => ?_)
      refine z_iconst C (pc' := 51) dX11_body_50 kc_1 rfl ?_
      refine z_isub C (pc' := 52) dX11_body_51 rfl ?_
      exact z_ireturn C dX11_body_52
    ·
      refine z_bipush C (pc' := 25) dX11_body_23 kb_m3 rfl ?_
      exact z_ireturn C dX11_body_25
  ·
    refine z_iconst C (pc' := 13) dX11_body_12 kc_m1 rfl ?_
    exact z_ireturn C dX11_body_13
def fX11_above (x0 : Int) (u0 : zMem) : zRs := zjn (fun (u1 : zMem) => some (1, u1)) (fun k2 => if x0 = 2 then (k2 u0) else (if x0 ≠ 3 then (if x0 ≠ 5 then (if x0 ≠ 7 then (some (0, u0)) else (some (2, u0))) else (some (3, u0))) else (k2 u0)))
set_option maxRecDepth 100000 in
set_option maxHeartbeats 4000000 in
theorem rX11_above (l : Launch) (w : zW) (x0 : Int) (u0 : zMem) : zSpc l w 1 yX11_above cX11_above 1 (some .int) 1 [zI x0] u0 (fX11_above x0 u0) := by
  refine zSpc_of (own := RX11) pnRX11 rfl (Nat.le_of_ble_eq_true rfl) (fun G p e R s m args below meth c C hini => ?_)
  unfold fX11_above
  refine zlocs (lb := [(0, zI x0)]) ⟨rfl, trivial⟩ ?_
  refine z_iload_n C (i := 0) (pc' := 1) dX11_above_0 rfl rfl rfl ?_
  refine z_iconst C (pc' := 2) dX11_above_1 kc_2 rfl ?_
  refine zjoin (P := fun (f : zMem → zRs) => ∀ (u1 : zMem), zSim G p l e R s m args below meth c w 1 (znc u0) (zM w 1 (znc u0) below args s) 10 [] [] u1 (f u1)) (fun u1 => ?_) (fun k2 hk2 => ?_)
  ·
    refine z_iconst C (pc' := 11) dX11_above_10 kc_1 rfl ?_
    refine z_goto C (pc' := 34) dX11_above_11 rfl ?_
    exact z_ireturn C dX11_above_34
  ·
    refine z_icmp_eq C (pc' := 10) (pf := 5) dX11_above_2 rfl rfl (fun _ => ?_) (fun _ => ?_)
    ·
      exact zlocs (lb := []) trivial (hk2 _)
    ·
      refine z_iload_n C (i := 0) (pc' := 6) dX11_above_5 rfl rfl rfl ?_
      refine z_iconst C (pc' := 7) dX11_above_6 kc_3 rfl ?_
      refine z_icmp_ne C (pc' := 14) (pf := 10) dX11_above_7 rfl rfl (fun _ => ?_) (fun _ => ?_)
      ·
        refine z_iload_n C (i := 0) (pc' := 15) dX11_above_14 rfl rfl rfl ?_
        refine z_iconst C (pc' := 16) dX11_above_15 kc_5 rfl ?_
        refine z_icmp_ne C (pc' := 23) (pf := 19) dX11_above_16 rfl rfl (fun _ => ?_) (fun _ => ?_)
        ·
          refine z_iload_n C (i := 0) (pc' := 24) dX11_above_23 rfl rfl rfl ?_
          refine z_bipush C (pc' := 26) dX11_above_24 kb_7 rfl ?_
          refine z_icmp_ne C (pc' := 33) (pf := 29) dX11_above_26 rfl rfl (fun _ => ?_) (fun _ => ?_)
          ·
            refine z_iconst C (pc' := 34) dX11_above_33 kc_0 rfl ?_
            exact z_ireturn C dX11_above_34
          ·
            refine z_iconst C (pc' := 30) dX11_above_29 kc_2 rfl ?_
            refine z_goto C (pc' := 34) dX11_above_30 rfl ?_
            exact z_ireturn C dX11_above_34
        ·
          refine z_iconst C (pc' := 20) dX11_above_19 kc_3 rfl ?_
          refine z_goto C (pc' := 34) dX11_above_20 rfl ?_
          exact z_ireturn C dX11_above_34
      ·
        exact zlocs (lb := []) trivial (hk2 _)
def fX11_begins (x0 x1 : Int) (u0 : zMem) : zRs := zgf 11 30 x0 u0 (fun v1 => zjn (fun (u2 : zMem) => zgf 11 30 x0 u2 (fun v4 => zpf 11 30 x0 (zw32 (v4 + 1)) u2 (fun u5 => some (0, u5)))) (fun k3 => if v1 ≥ 24 then (k3 u0) else (zgf 11 29 x0 u0 (fun v6 => zgf 11 30 x0 u0 (fun v7 => zast 20 v6 v7 x1 u0 (fun u8 => k3 u8))))))
set_option maxRecDepth 100000 in
set_option maxHeartbeats 4000000 in
theorem rX11_begins (l : Launch) (w : zW) (x0 x1 : Int) (u0 : zMem) : zSpc l w 1 yX11_begins cX11_begins 2 none 0 [zR x0, zI x1] u0 (fX11_begins x0 x1 u0) := by
  refine zSpc_of (own := RX11) pnRX11 rfl (Nat.le_of_ble_eq_true rfl) (fun G p e R s m args below meth c C hini => ?_)
  unfold fX11_begins
  refine zlocs (lb := [(0, zR x0), (1, zI x1)]) ⟨rfl, rfl, trivial⟩ ?_
  refine z_aload_n C (i := 0) (pc' := 1) dX11_begins_0 rfl rfl rfl ?_
  refine z_getf C (pc' := 4) flRX11_268 dX11_begins_1 rfl (fun v1 => ?_)
  refine z_bipush C (pc' := 6) dX11_begins_4 kb_24 rfl ?_
  refine zjoin (P := fun (f : zMem → zRs) => ∀ (u2 : zMem), zSim G p l e R s m args below meth c w 2 (znc u0) (zM w 0 (znc u0) below args s) 19 [(0, zR x0)] [] u2 (f u2)) (fun u2 => ?_) (fun k3 hk3 => ?_)
  ·
    refine z_aload_n C (i := 0) (pc' := 20) dX11_begins_19 rfl rfl rfl ?_
    refine z_dup C (pc' := 21) dX11_begins_20 rfl rfl ?_
    refine z_getf C (pc' := 24) flRX11_268 dX11_begins_21 rfl (fun v4 => ?_)
    refine z_iconst C (pc' := 25) dX11_begins_24 kc_1 rfl ?_
    refine z_iadd C (pc' := 26) dX11_begins_25 rfl ?_
    refine z_putf C (pc' := 29) flRX11_268 fn11_30 fb11_30 dX11_begins_26 rfl (fun u5 => ?_)
    exact z_return C dX11_begins_29
  ·
    refine z_icmp_ge C (pc' := 19) (pf := 9) dX11_begins_6 rfl rfl (fun _ => ?_) (fun _ => ?_)
    ·
      exact zlocs (lb := [(0, zR x0)]) ⟨rfl, trivial⟩ (hk3 _)
    ·
      refine z_aload_n C (i := 0) (pc' := 10) dX11_begins_9 rfl rfl rfl ?_
      refine z_getfR C (pc' := 13) flRX11_62 dX11_begins_10 rfl (fun v6 => ?_)
      refine z_aload_n C (i := 0) (pc' := 14) dX11_begins_13 rfl rfl rfl ?_
      refine z_getf C (pc' := 17) flRX11_268 dX11_begins_14 rfl (fun v7 => ?_)
      refine z_iload_n C (i := 1) (pc' := 18) dX11_begins_17 rfl rfl rfl ?_
      refine z_iast C (pc' := 19) dX11_begins_18 rfl (fun u8 => ?_)
      exact zlocs (lb := [(0, zR x0)]) ⟨rfl, trivial⟩ (hk3 _)
def gX11_saysAs_b0 (rec : (Int → Int → Int → zMem → zRs)) : Int → Int → Int → zMem → zRs := fun (x0 x1 x2 : Int) (u0 : zMem) => if x1 ≠ 6 then (zjn (fun (u1 : zMem) => zvc 11 x0 (fX11_begins x0 1 u1) (fun _ u3 => zgf 11 32 x0 u3 (fun v4 => some ((zw32 (x2 + v4)), u3)))) (fun k2 => if x1 = 0 then (k2 u0) else (if x1 = 4 then (k2 u0) else (zvc 11 x0 (fX11_begins x0 20 u0) (fun _ u5 => zvc 11 x0 (rec x0 0 x2 u5) (fun v6 u7 => some ((zw32 (v6 + 3)), u7))))))) else (zvc 11 x0 (fX11_begins x0 70 u0) (fun _ u8 => zvc 11 x0 (rec x0 0 x2 u8) (fun v9 u10 => some ((zw32 (v9 * 2)), u10))))
def gX11_saysAs (n : Nat) : (Int → Int → Int → zMem → zRs) := zlp (fun _ _ _ _ => none) (fun rec => gX11_saysAs_b0 rec) n
def fX11_saysAs (x0 x1 x2 : Int) (u0 : zMem) : zRs := gX11_saysAs 200 x0 x1 x2 u0
set_option maxRecDepth 100000 in
set_option maxHeartbeats 4000000 in
theorem gX11_saysAs_r0 (l : Launch) (w : zW) (n : Nat) (rec : (Int → Int → Int → zMem → zRs)) (ih : (∀ (x0 x1 x2 : Int) (u0 : zMem), zSpc l w (2 + n) yX11_saysAs cX11_saysAs 3 (some .int) 1 [zR x0, zI x1, zI x2] u0 (rec x0 x1 x2 u0))) : ∀ (x0 x1 x2 : Int) (u0 : zMem), zSpc l w (2 + (n + 1)) yX11_saysAs cX11_saysAs 3 (some .int) 1 [zR x0, zI x1, zI x2] u0 (gX11_saysAs_b0 rec x0 x1 x2 u0) := by
  intro x0 x1 x2 u0
  refine zSpc_of (own := RX11) pnRX11 rfl (Nat.le_of_ble_eq_true rfl) (fun G p e R s m args below meth c C hini => ?_)
  unfold gX11_saysAs_b0
  refine zlocs (lb := [(0, zR x0), (1, zI x1), (2, zI x2)]) ⟨rfl, rfl, rfl, trivial⟩ ?_
  refine z_iload_n C (i := 1) (pc' := 1) dX11_saysAs_0 rfl rfl rfl ?_
  refine z_bipush C (pc' := 3) dX11_saysAs_1 kb_6 rfl ?_
  refine z_icmp_ne C (pc' := 21) (pf := 6) dX11_saysAs_3 rfl rfl (fun _ => ?_) (fun _ => ?_)
  ·
    refine z_iload_n C (i := 1) (pc' := 22) dX11_saysAs_21 rfl rfl rfl ?_
    refine zjoin (P := fun (f : zMem → zRs) => ∀ (u1 : zMem), zSim G p l e R s m args below meth c w 3 (znc u0) (zM w 1 (znc u0) below args s) 45 [(0, zR x0), (2, zI x2)] [] u1 (f u1)) (fun u1 => ?_) (fun k2 hk2 => ?_)
    ·
      refine z_aload_n C (i := 0) (pc' := 46) dX11_saysAs_45 rfl rfl rfl ?_
      refine z_iconst C (pc' := 47) dX11_saysAs_46 kc_1 rfl ?_
      refine z_callV0 C (pc' := 50) lvRX11_271 lc_X11_begins rfl dX11_saysAs_47 rfl (by omega) (rX11_begins l w x0 1 u1) rfl (Nat.le_of_ble_eq_true rfl) (fun _ u3 => ?_)
      refine z_iload_n C (i := 2) (pc' := 51) dX11_saysAs_50 rfl rfl rfl ?_
      refine z_aload_n C (i := 0) (pc' := 52) dX11_saysAs_51 rfl rfl rfl ?_
      refine z_getf C (pc' := 55) flRX11_277 dX11_saysAs_52 rfl (fun v4 => ?_)
      refine z_iadd C (pc' := 56) dX11_saysAs_55 rfl ?_
      exact z_ireturn C dX11_saysAs_56
    ·
      refine z_if_eq C (pc' := 45) (pf := 25) dX11_saysAs_22 rfl rfl (fun _ => ?_) (fun _ => ?_)
      ·
        exact zlocs (lb := [(0, zR x0), (2, zI x2)]) ⟨rfl, rfl, trivial⟩ (hk2 _)
      ·
        refine z_iload_n C (i := 1) (pc' := 26) dX11_saysAs_25 rfl rfl rfl ?_
        refine z_iconst C (pc' := 27) dX11_saysAs_26 kc_4 rfl ?_
        refine z_icmp_eq C (pc' := 45) (pf := 30) dX11_saysAs_27 rfl rfl (fun _ => ?_) (fun _ => ?_)
        ·
          exact zlocs (lb := [(0, zR x0), (2, zI x2)]) ⟨rfl, rfl, trivial⟩ (hk2 _)
        ·
          refine z_aload_n C (i := 0) (pc' := 31) dX11_saysAs_30 rfl rfl rfl ?_
          refine z_bipush C (pc' := 33) dX11_saysAs_31 kb_20 rfl ?_
          refine z_callV0 C (pc' := 36) lvRX11_271 lc_X11_begins rfl dX11_saysAs_33 rfl (by omega) (rX11_begins l w x0 20 u0) rfl (Nat.le_of_ble_eq_true rfl) (fun _ u5 => ?_)
          refine z_aload_n C (i := 0) (pc' := 37) dX11_saysAs_36 rfl rfl rfl ?_
          refine z_iconst C (pc' := 38) dX11_saysAs_37 kc_0 rfl ?_
          refine z_iload_n C (i := 2) (pc' := 39) dX11_saysAs_38 rfl rfl rfl ?_
          refine z_callV1 C (pc' := 42) lvRX11_274 lc_X11_saysAs rfl dX11_saysAs_39 rfl (by omega) (ih x0 0 x2 u5) rfl (Nat.le_of_ble_eq_true rfl) (fun v6 u7 => ?_)
          refine z_iconst C (pc' := 43) dX11_saysAs_42 kc_3 rfl ?_
          refine z_iadd C (pc' := 44) dX11_saysAs_43 rfl ?_
          exact z_ireturn C dX11_saysAs_44
  ·
    refine z_aload_n C (i := 0) (pc' := 7) dX11_saysAs_6 rfl rfl rfl ?_
    refine z_bipush C (pc' := 9) dX11_saysAs_7 kb_70 rfl ?_
    refine z_callV0 C (pc' := 12) lvRX11_271 lc_X11_begins rfl dX11_saysAs_9 rfl (by omega) (rX11_begins l w x0 70 u0) rfl (Nat.le_of_ble_eq_true rfl) (fun _ u8 => ?_)
    refine z_aload_n C (i := 0) (pc' := 13) dX11_saysAs_12 rfl rfl rfl ?_
    refine z_iconst C (pc' := 14) dX11_saysAs_13 kc_0 rfl ?_
    refine z_iload_n C (i := 2) (pc' := 15) dX11_saysAs_14 rfl rfl rfl ?_
    refine z_callV1 C (pc' := 18) lvRX11_274 lc_X11_saysAs rfl dX11_saysAs_15 rfl (by omega) (ih x0 0 x2 u8) rfl (Nat.le_of_ble_eq_true rfl) (fun v9 u10 => ?_)
    refine z_iconst C (pc' := 19) dX11_saysAs_18 kc_2 rfl ?_
    refine z_imul C (pc' := 20) dX11_saysAs_19 rfl ?_
    exact z_ireturn C dX11_saysAs_20
theorem gX11_saysAs_all (l : Launch) (w : zW) : ∀ n : Nat, (∀ (x0 x1 x2 : Int) (u0 : zMem), zSpc l w (2 + n) yX11_saysAs cX11_saysAs 3 (some .int) 1 [zR x0, zI x1, zI x2] u0 (gX11_saysAs n x0 x1 x2 u0))
  | 0 => fun _ _ _ _ => zSpc_none
  | n + 1 => gX11_saysAs_r0 l w n (gX11_saysAs n) (gX11_saysAs_all l w n)
theorem rX11_saysAs (l : Launch) (w : zW) (x0 x1 x2 : Int) (u0 : zMem) : zSpc l w 202 yX11_saysAs cX11_saysAs 3 (some .int) 1 [zR x0, zI x1, zI x2] u0 (fX11_saysAs x0 x1 x2 u0) := (gX11_saysAs_all l w 200) x0 x1 x2 u0
def gX11_mendsAs_b0 (rec : (Int → Int → Int → zMem → zRs)) : Int → Int → Int → zMem → zRs := fun (x0 x1 x2 : Int) (u0 : zMem) => if x1 ≠ 5 then (if x1 ≠ 3 then (zvc 11 x0 (fX11_begins x0 11 u0) (fun _ u1 => zgf 11 32 x0 u1 (fun v2 => some ((zxor x2 v2), u1)))) else (zvc 11 x0 (fX11_begins x0 40 u0) (fun _ u3 => zvc 11 x0 (rec x0 1 x2 u3) (fun v4 u5 => some ((zw32 (v4 * 3)), u5))))) else (zvc 11 x0 (fX11_begins x0 60 u0) (fun _ u6 => zvc 11 x0 (rec x0 3 x2 u6) (fun v7 u8 => zgf 11 31 x0 u8 (fun v9 => zvc 11 x0 (fX11_saysAs x0 v9 2 u8) (fun v10 u11 => some ((zw32 (v7 - v10)), u11))))))
def gX11_mendsAs (n : Nat) : (Int → Int → Int → zMem → zRs) := zlp (fun _ _ _ _ => none) (fun rec => gX11_mendsAs_b0 rec) n
def fX11_mendsAs (x0 x1 x2 : Int) (u0 : zMem) : zRs := gX11_mendsAs 200 x0 x1 x2 u0
set_option maxRecDepth 100000 in
set_option maxHeartbeats 4000000 in
theorem gX11_mendsAs_r0 (l : Launch) (w : zW) (n : Nat) (rec : (Int → Int → Int → zMem → zRs)) (ih : (∀ (x0 x1 x2 : Int) (u0 : zMem), zSpc l w (203 + n) yX11_mendsAs cX11_mendsAs 4 (some .int) 1 [zR x0, zI x1, zI x2] u0 (rec x0 x1 x2 u0))) : ∀ (x0 x1 x2 : Int) (u0 : zMem), zSpc l w (203 + (n + 1)) yX11_mendsAs cX11_mendsAs 4 (some .int) 1 [zR x0, zI x1, zI x2] u0 (gX11_mendsAs_b0 rec x0 x1 x2 u0) := by
  intro x0 x1 x2 u0
  refine zSpc_of (own := RX11) pnRX11 rfl (Nat.le_of_ble_eq_true rfl) (fun G p e R s m args below meth c C hini => ?_)
  unfold gX11_mendsAs_b0
  refine zlocs (lb := [(0, zR x0), (1, zI x1), (2, zI x2)]) ⟨rfl, rfl, rfl, trivial⟩ ?_
  refine z_iload_n C (i := 1) (pc' := 1) dX11_mendsAs_0 rfl rfl rfl ?_
  refine z_iconst C (pc' := 2) dX11_mendsAs_1 kc_5 rfl ?_
  refine z_icmp_ne C (pc' := 30) (pf := 5) dX11_mendsAs_2 rfl rfl (fun _ => ?_) (fun _ => ?_)
  ·
    refine z_iload_n C (i := 1) (pc' := 31) dX11_mendsAs_30 rfl rfl rfl ?_
    refine z_iconst C (pc' := 32) dX11_mendsAs_31 kc_3 rfl ?_
    refine z_icmp_ne C (pc' := 50) (pf := 35) dX11_mendsAs_32 rfl rfl (fun _ => ?_) (fun _ => ?_)
    ·
      refine z_aload_n C (i := 0) (pc' := 51) dX11_mendsAs_50 rfl rfl rfl ?_
      refine z_bipush C (pc' := 53) dX11_mendsAs_51 kb_11 rfl ?_
      refine z_callV0 C (pc' := 56) lvRX11_271 lc_X11_begins rfl dX11_mendsAs_53 rfl (by omega) (rX11_begins l w x0 11 u0) rfl (Nat.le_of_ble_eq_true rfl) (fun _ u1 => ?_)
      refine z_iload_n C (i := 2) (pc' := 57) dX11_mendsAs_56 rfl rfl rfl ?_
      refine z_aload_n C (i := 0) (pc' := 58) dX11_mendsAs_57 rfl rfl rfl ?_
      refine z_getf C (pc' := 61) flRX11_277 dX11_mendsAs_58 rfl (fun v2 => ?_)
      refine z_ixor C (pc' := 62) dX11_mendsAs_61 rfl ?_
      exact z_ireturn C dX11_mendsAs_62
    ·
      refine z_aload_n C (i := 0) (pc' := 36) dX11_mendsAs_35 rfl rfl rfl ?_
      refine z_bipush C (pc' := 38) dX11_mendsAs_36 kb_40 rfl ?_
      refine z_callV0 C (pc' := 41) lvRX11_271 lc_X11_begins rfl dX11_mendsAs_38 rfl (by omega) (rX11_begins l w x0 40 u0) rfl (Nat.le_of_ble_eq_true rfl) (fun _ u3 => ?_)
      refine z_aload_n C (i := 0) (pc' := 42) dX11_mendsAs_41 rfl rfl rfl ?_
      refine z_iconst C (pc' := 43) dX11_mendsAs_42 kc_1 rfl ?_
      refine z_iload_n C (i := 2) (pc' := 44) dX11_mendsAs_43 rfl rfl rfl ?_
      refine z_callV1 C (pc' := 47) lvRX11_286 lc_X11_mendsAs rfl dX11_mendsAs_44 rfl (by omega) (ih x0 1 x2 u3) rfl (Nat.le_of_ble_eq_true rfl) (fun v4 u5 => ?_)
      refine z_iconst C (pc' := 48) dX11_mendsAs_47 kc_3 rfl ?_
      refine z_imul C (pc' := 49) dX11_mendsAs_48 rfl ?_
      exact z_ireturn C dX11_mendsAs_49
  ·
    refine z_aload_n C (i := 0) (pc' := 6) dX11_mendsAs_5 rfl rfl rfl ?_
    refine z_bipush C (pc' := 8) dX11_mendsAs_6 kb_60 rfl ?_
    refine z_callV0 C (pc' := 11) lvRX11_271 lc_X11_begins rfl dX11_mendsAs_8 rfl (by omega) (rX11_begins l w x0 60 u0) rfl (Nat.le_of_ble_eq_true rfl) (fun _ u6 => ?_)
    refine z_aload_n C (i := 0) (pc' := 12) dX11_mendsAs_11 rfl rfl rfl ?_
    refine z_iconst C (pc' := 13) dX11_mendsAs_12 kc_3 rfl ?_
    refine z_iload_n C (i := 2) (pc' := 14) dX11_mendsAs_13 rfl rfl rfl ?_
    refine z_callV1 C (pc' := 17) lvRX11_286 lc_X11_mendsAs rfl dX11_mendsAs_14 rfl (by omega) (ih x0 3 x2 u6) rfl (Nat.le_of_ble_eq_true rfl) (fun v7 u8 => ?_)
    refine z_istore_n C (i := 3) (la' := [(3, zI v7), (0, zR x0), (1, zI x1), (2, zI x2)]) (pc' := 18) dX11_mendsAs_17 rfl (by decide) rfl rfl ?_
    refine z_iload_n C (i := 3) (pc' := 19) dX11_mendsAs_18 rfl rfl rfl ?_
    refine z_aload_n C (i := 0) (pc' := 20) dX11_mendsAs_19 rfl rfl rfl ?_
    refine z_aload_n C (i := 0) (pc' := 21) dX11_mendsAs_20 rfl rfl rfl ?_
    refine z_getf C (pc' := 24) flRX11_283 dX11_mendsAs_21 rfl (fun v9 => ?_)
    refine z_iconst C (pc' := 25) dX11_mendsAs_24 kc_2 rfl ?_
    refine z_callV1 C (pc' := 28) lvRX11_274 lc_X11_saysAs rfl dX11_mendsAs_25 rfl (by omega) (rX11_saysAs l w x0 v9 2 u8) rfl (Nat.le_of_ble_eq_true rfl) (fun v10 u11 => ?_)
    refine z_isub C (pc' := 29) dX11_mendsAs_28 rfl ?_
    exact z_ireturn C dX11_mendsAs_29
theorem gX11_mendsAs_all (l : Launch) (w : zW) : ∀ n : Nat, (∀ (x0 x1 x2 : Int) (u0 : zMem), zSpc l w (203 + n) yX11_mendsAs cX11_mendsAs 4 (some .int) 1 [zR x0, zI x1, zI x2] u0 (gX11_mendsAs n x0 x1 x2 u0))
  | 0 => fun _ _ _ _ => zSpc_none
  | n + 1 => gX11_mendsAs_r0 l w n (gX11_mendsAs n) (gX11_mendsAs_all l w n)
theorem rX11_mendsAs (l : Launch) (w : zW) (x0 x1 x2 : Int) (u0 : zMem) : zSpc l w 403 yX11_mendsAs cX11_mendsAs 4 (some .int) 1 [zR x0, zI x1, zI x2] u0 (fX11_mendsAs x0 x1 x2 u0) := (gX11_mendsAs_all l w 200) x0 x1 x2 u0
def gX11_takesAs_b0 (rec : (Int → Int → Int → zMem → zRs)) : Int → Int → Int → zMem → zRs := fun (x0 x1 x2 : Int) (u0 : zMem) => if x1 ≠ 7 then (if x1 ≠ 2 then (zjn (fun (u1 : zMem) => zvc 11 x0 (fX11_begins x0 41 u1) (fun _ u3 => zvc 11 x0 (rec x0 1 (zw32 (x2 + 1)) u3) (fun v4 u5 => some (v4, u5)))) (fun k2 => if x1 = 3 then (k2 u0) else (if x1 ≠ 5 then (zvc 11 x0 (fX11_begins x0 10 u0) (fun _ u6 => zgf 11 31 x0 u6 (fun v7 => zvc 11 x0 (fX11_saysAs x0 v7 x2 u6) (fun v8 u9 => some ((zw32 (v8 * 2)), u9))))) else (k2 u0)))) else (zvc 11 x0 (fX11_begins x0 30 u0) (fun _ u10 => zvc 11 x0 (rec x0 1 x2 u10) (fun v11 u12 => some ((zw32 (-v11)), u12))))) else (zvc 11 x0 (fX11_begins x0 80 u0) (fun _ u13 => zvc 11 x0 (rec x0 2 x2 u13) (fun v14 u15 => zgf 11 31 x0 u15 (fun v16 => zvc 11 x0 (fX11_mendsAs x0 v16 2 u15) (fun v17 u18 => some ((zw32 (v14 + v17)), u18))))))
def gX11_takesAs (n : Nat) : (Int → Int → Int → zMem → zRs) := zlp (fun _ _ _ _ => none) (fun rec => gX11_takesAs_b0 rec) n
def fX11_takesAs (x0 x1 x2 : Int) (u0 : zMem) : zRs := gX11_takesAs 200 x0 x1 x2 u0
set_option maxRecDepth 100000 in
set_option maxHeartbeats 4000000 in
theorem gX11_takesAs_r0 (l : Launch) (w : zW) (n : Nat) (rec : (Int → Int → Int → zMem → zRs)) (ih : (∀ (x0 x1 x2 : Int) (u0 : zMem), zSpc l w (404 + n) yX11_takesAs cX11_takesAs 4 (some .int) 1 [zR x0, zI x1, zI x2] u0 (rec x0 x1 x2 u0))) : ∀ (x0 x1 x2 : Int) (u0 : zMem), zSpc l w (404 + (n + 1)) yX11_takesAs cX11_takesAs 4 (some .int) 1 [zR x0, zI x1, zI x2] u0 (gX11_takesAs_b0 rec x0 x1 x2 u0) := by
  intro x0 x1 x2 u0
  refine zSpc_of (own := RX11) pnRX11 rfl (Nat.le_of_ble_eq_true rfl) (fun G p e R s m args below meth c C hini => ?_)
  unfold gX11_takesAs_b0
  refine zlocs (lb := [(0, zR x0), (1, zI x1), (2, zI x2)]) ⟨rfl, rfl, rfl, trivial⟩ ?_
  refine z_iload_n C (i := 1) (pc' := 1) dX11_takesAs_0 rfl rfl rfl ?_
  refine z_bipush C (pc' := 3) dX11_takesAs_1 kb_7 rfl ?_
  refine z_icmp_ne C (pc' := 31) (pf := 6) dX11_takesAs_3 rfl rfl (fun _ => ?_) (fun _ => ?_)
  ·
    refine z_iload_n C (i := 1) (pc' := 32) dX11_takesAs_31 rfl rfl rfl ?_
    refine z_iconst C (pc' := 33) dX11_takesAs_32 kc_2 rfl ?_
    refine z_icmp_ne C (pc' := 50) (pf := 36) dX11_takesAs_33 rfl rfl (fun _ => ?_) (fun _ => ?_)
    ·
      refine z_iload_n C (i := 1) (pc' := 51) dX11_takesAs_50 rfl rfl rfl ?_
      refine z_iconst C (pc' := 52) dX11_takesAs_51 kc_3 rfl ?_
      refine zjoin (P := fun (f : zMem → zRs) => ∀ (u1 : zMem), zSim G p l e R s m args below meth c w 4 (znc u0) (zM w 1 (znc u0) below args s) 60 [(0, zR x0), (2, zI x2)] [] u1 (f u1)) (fun u1 => ?_) (fun k2 hk2 => ?_)
      ·
        refine z_aload_n C (i := 0) (pc' := 61) dX11_takesAs_60 rfl rfl rfl ?_
        refine z_bipush C (pc' := 63) dX11_takesAs_61 kb_41 rfl ?_
        refine z_callV0 C (pc' := 66) lvRX11_271 lc_X11_begins rfl dX11_takesAs_63 rfl (by omega) (rX11_begins l w x0 41 u1) rfl (Nat.le_of_ble_eq_true rfl) (fun _ u3 => ?_)
        refine z_aload_n C (i := 0) (pc' := 67) dX11_takesAs_66 rfl rfl rfl ?_
        refine z_iconst C (pc' := 68) dX11_takesAs_67 kc_1 rfl ?_
        refine z_iload_n C (i := 2) (pc' := 69) dX11_takesAs_68 rfl rfl rfl ?_
        refine z_iconst C (pc' := 70) dX11_takesAs_69 kc_1 rfl ?_
        refine z_iadd C (pc' := 71) dX11_takesAs_70 rfl ?_
        refine z_callV1 C (pc' := 74) lvRX11_280 lc_X11_takesAs rfl dX11_takesAs_71 rfl (by omega) (ih x0 1 (zw32 (x2 + 1)) u3) rfl (Nat.le_of_ble_eq_true rfl) (fun v4 u5 => ?_)
        exact z_ireturn C dX11_takesAs_74
      ·
        refine z_icmp_eq C (pc' := 60) (pf := 55) dX11_takesAs_52 rfl rfl (fun _ => ?_) (fun _ => ?_)
        ·
          exact zlocs (lb := [(0, zR x0), (2, zI x2)]) ⟨rfl, rfl, trivial⟩ (hk2 _)
        ·
          refine z_iload_n C (i := 1) (pc' := 56) dX11_takesAs_55 rfl rfl rfl ?_
          refine z_iconst C (pc' := 57) dX11_takesAs_56 kc_5 rfl ?_
          refine z_icmp_ne C (pc' := 75) (pf := 60) dX11_takesAs_57 rfl rfl (fun _ => ?_) (fun _ => ?_)
          ·
            refine z_aload_n C (i := 0) (pc' := 76) dX11_takesAs_75 rfl rfl rfl ?_
            refine z_bipush C (pc' := 78) dX11_takesAs_76 kb_10 rfl ?_
            refine z_callV0 C (pc' := 81) lvRX11_271 lc_X11_begins rfl dX11_takesAs_78 rfl (by omega) (rX11_begins l w x0 10 u0) rfl (Nat.le_of_ble_eq_true rfl) (fun _ u6 => ?_)
            refine z_aload_n C (i := 0) (pc' := 82) dX11_takesAs_81 rfl rfl rfl ?_
            refine z_aload_n C (i := 0) (pc' := 83) dX11_takesAs_82 rfl rfl rfl ?_
            refine z_getf C (pc' := 86) flRX11_283 dX11_takesAs_83 rfl (fun v7 => ?_)
            refine z_iload_n C (i := 2) (pc' := 87) dX11_takesAs_86 rfl rfl rfl ?_
            refine z_callV1 C (pc' := 90) lvRX11_274 lc_X11_saysAs rfl dX11_takesAs_87 rfl (by omega) (rX11_saysAs l w x0 v7 x2 u6) rfl (Nat.le_of_ble_eq_true rfl) (fun v8 u9 => ?_)
            refine z_iconst C (pc' := 91) dX11_takesAs_90 kc_2 rfl ?_
            refine z_imul C (pc' := 92) dX11_takesAs_91 rfl ?_
            exact z_ireturn C dX11_takesAs_92
          ·
            exact zlocs (lb := [(0, zR x0), (2, zI x2)]) ⟨rfl, rfl, trivial⟩ (hk2 _)
    ·
      refine z_aload_n C (i := 0) (pc' := 37) dX11_takesAs_36 rfl rfl rfl ?_
      refine z_bipush C (pc' := 39) dX11_takesAs_37 kb_30 rfl ?_
      refine z_callV0 C (pc' := 42) lvRX11_271 lc_X11_begins rfl dX11_takesAs_39 rfl (by omega) (rX11_begins l w x0 30 u0) rfl (Nat.le_of_ble_eq_true rfl) (fun _ u10 => ?_)
      refine z_aload_n C (i := 0) (pc' := 43) dX11_takesAs_42 rfl rfl rfl ?_
      refine z_iconst C (pc' := 44) dX11_takesAs_43 kc_1 rfl ?_
      refine z_iload_n C (i := 2) (pc' := 45) dX11_takesAs_44 rfl rfl rfl ?_
      refine z_callV1 C (pc' := 48) lvRX11_280 lc_X11_takesAs rfl dX11_takesAs_45 rfl (by omega) (ih x0 1 x2 u10) rfl (Nat.le_of_ble_eq_true rfl) (fun v11 u12 => ?_)
      refine z_ineg C (pc' := 49) dX11_takesAs_48 rfl ?_
      exact z_ireturn C dX11_takesAs_49
  ·
    refine z_aload_n C (i := 0) (pc' := 7) dX11_takesAs_6 rfl rfl rfl ?_
    refine z_bipush C (pc' := 9) dX11_takesAs_7 kb_80 rfl ?_
    refine z_callV0 C (pc' := 12) lvRX11_271 lc_X11_begins rfl dX11_takesAs_9 rfl (by omega) (rX11_begins l w x0 80 u0) rfl (Nat.le_of_ble_eq_true rfl) (fun _ u13 => ?_)
    refine z_aload_n C (i := 0) (pc' := 13) dX11_takesAs_12 rfl rfl rfl ?_
    refine z_iconst C (pc' := 14) dX11_takesAs_13 kc_2 rfl ?_
    refine z_iload_n C (i := 2) (pc' := 15) dX11_takesAs_14 rfl rfl rfl ?_
    refine z_callV1 C (pc' := 18) lvRX11_280 lc_X11_takesAs rfl dX11_takesAs_15 rfl (by omega) (ih x0 2 x2 u13) rfl (Nat.le_of_ble_eq_true rfl) (fun v14 u15 => ?_)
    refine z_istore_n C (i := 3) (la' := [(3, zI v14), (0, zR x0), (1, zI x1), (2, zI x2)]) (pc' := 19) dX11_takesAs_18 rfl (by decide) rfl rfl ?_
    refine z_iload_n C (i := 3) (pc' := 20) dX11_takesAs_19 rfl rfl rfl ?_
    refine z_aload_n C (i := 0) (pc' := 21) dX11_takesAs_20 rfl rfl rfl ?_
    refine z_aload_n C (i := 0) (pc' := 22) dX11_takesAs_21 rfl rfl rfl ?_
    refine z_getf C (pc' := 25) flRX11_283 dX11_takesAs_22 rfl (fun v16 => ?_)
    refine z_iconst C (pc' := 26) dX11_takesAs_25 kc_2 rfl ?_
    refine z_callV1 C (pc' := 29) lvRX11_286 lc_X11_mendsAs rfl dX11_takesAs_26 rfl (by omega) (rX11_mendsAs l w x0 v16 2 u15) rfl (Nat.le_of_ble_eq_true rfl) (fun v17 u18 => ?_)
    refine z_iadd C (pc' := 30) dX11_takesAs_29 rfl ?_
    exact z_ireturn C dX11_takesAs_30
theorem gX11_takesAs_all (l : Launch) (w : zW) : ∀ n : Nat, (∀ (x0 x1 x2 : Int) (u0 : zMem), zSpc l w (404 + n) yX11_takesAs cX11_takesAs 4 (some .int) 1 [zR x0, zI x1, zI x2] u0 (gX11_takesAs n x0 x1 x2 u0))
  | 0 => fun _ _ _ _ => zSpc_none
  | n + 1 => gX11_takesAs_r0 l w n (gX11_takesAs n) (gX11_takesAs_all l w n)
theorem rX11_takesAs (l : Launch) (w : zW) (x0 x1 x2 : Int) (u0 : zMem) : zSpc l w 604 yX11_takesAs cX11_takesAs 4 (some .int) 1 [zR x0, zI x1, zI x2] u0 (fX11_takesAs x0 x1 x2 u0) := (gX11_takesAs_all l w 200) x0 x1 x2 u0
def gX11_joinsAs_b0 (rec : (Int → Int → Int → zMem → zRs)) : Int → Int → Int → zMem → zRs := fun (x0 x1 x2 : Int) (u0 : zMem) => if x1 ≠ 4 then (if x1 ≠ 5 then (if x1 ≠ 7 then (zvc 11 x0 (fX11_begins x0 2 u0) (fun _ u1 => zgf 11 31 x0 u1 (fun v2 => zvc 11 x0 (fX11_takesAs x0 v2 x2 u1) (fun v3 u4 => zgf 11 31 x0 u4 (fun v5 => zvc 11 x0 (fX11_mendsAs x0 v5 1 u4) (fun v6 u7 => some ((zw32 (v3 - v6)), u7))))))) else (zvc 11 x0 (fX11_begins x0 81 u0) (fun _ u8 => zvc 11 x0 (rec x0 2 x2 u8) (fun v9 u10 => some ((zw32 (v9 - 1)), u10))))) else (zvc 11 x0 (fX11_begins x0 61 u0) (fun _ u11 => zvc 11 x0 (rec x0 3 x2 u11) (fun v12 u13 => some ((zw32 (v12 + 1)), u13))))) else (zvc 11 x0 (fX11_begins x0 50 u0) (fun _ u14 => zvc 11 x0 (rec x0 0 x2 u14) (fun v15 u16 => some ((zxor v15 5), u16))))
def gX11_joinsAs (n : Nat) : (Int → Int → Int → zMem → zRs) := zlp (fun _ _ _ _ => none) (fun rec => gX11_joinsAs_b0 rec) n
def fX11_joinsAs (x0 x1 x2 : Int) (u0 : zMem) : zRs := gX11_joinsAs 200 x0 x1 x2 u0
set_option maxRecDepth 100000 in
set_option maxHeartbeats 4000000 in
theorem gX11_joinsAs_r0 (l : Launch) (w : zW) (n : Nat) (rec : (Int → Int → Int → zMem → zRs)) (ih : (∀ (x0 x1 x2 : Int) (u0 : zMem), zSpc l w (605 + n) yX11_joinsAs cX11_joinsAs 4 (some .int) 1 [zR x0, zI x1, zI x2] u0 (rec x0 x1 x2 u0))) : ∀ (x0 x1 x2 : Int) (u0 : zMem), zSpc l w (605 + (n + 1)) yX11_joinsAs cX11_joinsAs 4 (some .int) 1 [zR x0, zI x1, zI x2] u0 (gX11_joinsAs_b0 rec x0 x1 x2 u0) := by
  intro x0 x1 x2 u0
  refine zSpc_of (own := RX11) pnRX11 rfl (Nat.le_of_ble_eq_true rfl) (fun G p e R s m args below meth c C hini => ?_)
  unfold gX11_joinsAs_b0
  refine zlocs (lb := [(0, zR x0), (1, zI x1), (2, zI x2)]) ⟨rfl, rfl, rfl, trivial⟩ ?_
  refine z_iload_n C (i := 1) (pc' := 1) dX11_joinsAs_0 rfl rfl rfl ?_
  refine z_iconst C (pc' := 2) dX11_joinsAs_1 kc_4 rfl ?_
  refine z_icmp_ne C (pc' := 20) (pf := 5) dX11_joinsAs_2 rfl rfl (fun _ => ?_) (fun _ => ?_)
  ·
    refine z_iload_n C (i := 1) (pc' := 21) dX11_joinsAs_20 rfl rfl rfl ?_
    refine z_iconst C (pc' := 22) dX11_joinsAs_21 kc_5 rfl ?_
    refine z_icmp_ne C (pc' := 40) (pf := 25) dX11_joinsAs_22 rfl rfl (fun _ => ?_) (fun _ => ?_)
    ·
      refine z_iload_n C (i := 1) (pc' := 41) dX11_joinsAs_40 rfl rfl rfl ?_
      refine z_bipush C (pc' := 43) dX11_joinsAs_41 kb_7 rfl ?_
      refine z_icmp_ne C (pc' := 61) (pf := 46) dX11_joinsAs_43 rfl rfl (fun _ => ?_) (fun _ => ?_)
      ·
        refine z_aload_n C (i := 0) (pc' := 62) dX11_joinsAs_61 rfl rfl rfl ?_
        refine z_iconst C (pc' := 63) dX11_joinsAs_62 kc_2 rfl ?_
        refine z_callV0 C (pc' := 66) lvRX11_271 lc_X11_begins rfl dX11_joinsAs_63 rfl (by omega) (rX11_begins l w x0 2 u0) rfl (Nat.le_of_ble_eq_true rfl) (fun _ u1 => ?_)
        refine z_aload_n C (i := 0) (pc' := 67) dX11_joinsAs_66 rfl rfl rfl ?_
        refine z_aload_n C (i := 0) (pc' := 68) dX11_joinsAs_67 rfl rfl rfl ?_
        refine z_getf C (pc' := 71) flRX11_283 dX11_joinsAs_68 rfl (fun v2 => ?_)
        refine z_iload_n C (i := 2) (pc' := 72) dX11_joinsAs_71 rfl rfl rfl ?_
        refine z_callV1 C (pc' := 75) lvRX11_280 lc_X11_takesAs rfl dX11_joinsAs_72 rfl (by omega) (rX11_takesAs l w x0 v2 x2 u1) rfl (Nat.le_of_ble_eq_true rfl) (fun v3 u4 => ?_)
        refine z_istore_n C (i := 3) (la' := [(3, zI v3), (0, zR x0), (1, zI x1), (2, zI x2)]) (pc' := 76) dX11_joinsAs_75 rfl (by decide) rfl rfl ?_
        refine z_iload_n C (i := 3) (pc' := 77) dX11_joinsAs_76 rfl rfl rfl ?_
        refine z_aload_n C (i := 0) (pc' := 78) dX11_joinsAs_77 rfl rfl rfl ?_
        refine z_aload_n C (i := 0) (pc' := 79) dX11_joinsAs_78 rfl rfl rfl ?_
        refine z_getf C (pc' := 82) flRX11_283 dX11_joinsAs_79 rfl (fun v5 => ?_)
        refine z_iconst C (pc' := 83) dX11_joinsAs_82 kc_1 rfl ?_
        refine z_callV1 C (pc' := 86) lvRX11_286 lc_X11_mendsAs rfl dX11_joinsAs_83 rfl (by omega) (rX11_mendsAs l w x0 v5 1 u4) rfl (Nat.le_of_ble_eq_true rfl) (fun v6 u7 => ?_)
        refine z_isub C (pc' := 87) dX11_joinsAs_86 rfl ?_
        exact z_ireturn C dX11_joinsAs_87
      ·
        refine z_aload_n C (i := 0) (pc' := 47) dX11_joinsAs_46 rfl rfl rfl ?_
        refine z_bipush C (pc' := 49) dX11_joinsAs_47 kb_81 rfl ?_
        refine z_callV0 C (pc' := 52) lvRX11_271 lc_X11_begins rfl dX11_joinsAs_49 rfl (by omega) (rX11_begins l w x0 81 u0) rfl (Nat.le_of_ble_eq_true rfl) (fun _ u8 => ?_)
        refine z_aload_n C (i := 0) (pc' := 53) dX11_joinsAs_52 rfl rfl rfl ?_
        refine z_iconst C (pc' := 54) dX11_joinsAs_53 kc_2 rfl ?_
        refine z_iload_n C (i := 2) (pc' := 55) dX11_joinsAs_54 rfl rfl rfl ?_
        refine z_callV1 C (pc' := 58) lvRX11_289 lc_X11_joinsAs rfl dX11_joinsAs_55 rfl (by omega) (ih x0 2 x2 u8) rfl (Nat.le_of_ble_eq_true rfl) (fun v9 u10 => ?_)
        refine z_iconst C (pc' := 59) dX11_joinsAs_58 kc_1 rfl ?_
        refine z_isub C (pc' := 60) dX11_joinsAs_59 rfl ?_
        exact z_ireturn C dX11_joinsAs_60
    ·
      refine z_aload_n C (i := 0) (pc' := 26) dX11_joinsAs_25 rfl rfl rfl ?_
      refine z_bipush C (pc' := 28) dX11_joinsAs_26 kb_61 rfl ?_
      refine z_callV0 C (pc' := 31) lvRX11_271 lc_X11_begins rfl dX11_joinsAs_28 rfl (by omega) (rX11_begins l w x0 61 u0) rfl (Nat.le_of_ble_eq_true rfl) (fun _ u11 => ?_)
      refine z_aload_n C (i := 0) (pc' := 32) dX11_joinsAs_31 rfl rfl rfl ?_
      refine z_iconst C (pc' := 33) dX11_joinsAs_32 kc_3 rfl ?_
      refine z_iload_n C (i := 2) (pc' := 34) dX11_joinsAs_33 rfl rfl rfl ?_
      refine z_callV1 C (pc' := 37) lvRX11_289 lc_X11_joinsAs rfl dX11_joinsAs_34 rfl (by omega) (ih x0 3 x2 u11) rfl (Nat.le_of_ble_eq_true rfl) (fun v12 u13 => ?_)
      refine z_iconst C (pc' := 38) dX11_joinsAs_37 kc_1 rfl ?_
      refine z_iadd C (pc' := 39) dX11_joinsAs_38 rfl ?_
      exact z_ireturn C dX11_joinsAs_39
  ·
    refine z_aload_n C (i := 0) (pc' := 6) dX11_joinsAs_5 rfl rfl rfl ?_
    refine z_bipush C (pc' := 8) dX11_joinsAs_6 kb_50 rfl ?_
    refine z_callV0 C (pc' := 11) lvRX11_271 lc_X11_begins rfl dX11_joinsAs_8 rfl (by omega) (rX11_begins l w x0 50 u0) rfl (Nat.le_of_ble_eq_true rfl) (fun _ u14 => ?_)
    refine z_aload_n C (i := 0) (pc' := 12) dX11_joinsAs_11 rfl rfl rfl ?_
    refine z_iconst C (pc' := 13) dX11_joinsAs_12 kc_0 rfl ?_
    refine z_iload_n C (i := 2) (pc' := 14) dX11_joinsAs_13 rfl rfl rfl ?_
    refine z_callV1 C (pc' := 17) lvRX11_289 lc_X11_joinsAs rfl dX11_joinsAs_14 rfl (by omega) (ih x0 0 x2 u14) rfl (Nat.le_of_ble_eq_true rfl) (fun v15 u16 => ?_)
    refine z_iconst C (pc' := 18) dX11_joinsAs_17 kc_5 rfl ?_
    refine z_ixor C (pc' := 19) dX11_joinsAs_18 rfl ?_
    exact z_ireturn C dX11_joinsAs_19
theorem gX11_joinsAs_all (l : Launch) (w : zW) : ∀ n : Nat, (∀ (x0 x1 x2 : Int) (u0 : zMem), zSpc l w (605 + n) yX11_joinsAs cX11_joinsAs 4 (some .int) 1 [zR x0, zI x1, zI x2] u0 (gX11_joinsAs n x0 x1 x2 u0))
  | 0 => fun _ _ _ _ => zSpc_none
  | n + 1 => gX11_joinsAs_r0 l w n (gX11_joinsAs n) (gX11_joinsAs_all l w n)
theorem rX11_joinsAs (l : Launch) (w : zW) (x0 x1 x2 : Int) (u0 : zMem) : zSpc l w 805 yX11_joinsAs cX11_joinsAs 4 (some .int) 1 [zR x0, zI x1, zI x2] u0 (fX11_joinsAs x0 x1 x2 u0) := (gX11_joinsAs_all l w 200) x0 x1 x2 u0
def fX11_act (x0 x1 x2 x3 : Int) (u0 : zMem) : zRs := zpf 11 30 x0 0 u0 (fun u1 => zvc 11 x0 (fX11_isBody x0 x1 u1) (fun v2 u3 => if v2 ≠ 0 then (zgf 11 28 x0 u3 (fun v4 => zald 20 v4 x1 u3 (fun v5 => zpf 11 31 x0 v5 u3 (fun u6 => zpf 11 32 x0 x1 u6 (fun u7 => if x2 = 0 then (zgf 11 31 x0 u7 (fun v9 => zvc 11 x0 (fX11_saysAs x0 v9 x3 u7) (fun v10 u11 => some (v10, u11)))) else (if x2 = 1 then (zgf 11 31 x0 u7 (fun v13 => zvc 11 x0 (fX11_takesAs x0 v13 x3 u7) (fun v14 u15 => some (v14, u15)))) else (if x2 = 2 then (zgf 11 31 x0 u7 (fun v17 => zvc 11 x0 (fX11_mendsAs x0 v17 x3 u7) (fun v18 u19 => some (v18, u19)))) else (if x2 = 3 then (zgf 11 31 x0 u7 (fun v21 => zvc 11 x0 (fX11_joinsAs x0 v21 x3 u7) (fun v22 u23 => some (v22, u23)))) else (some (0, u7)))))))))) else (some (0, u3))))
set_option maxRecDepth 100000 in
set_option maxHeartbeats 4000000 in
theorem rX11_act (l : Launch) (w : zW) (x0 x1 x2 x3 : Int) (u0 : zMem) : zSpc l w 806 yX11_act cX11_act 4 (some .int) 1 [zR x0, zI x1, zI x2, zI x3] u0 (fX11_act x0 x1 x2 x3 u0) := by
  refine zSpc_of (own := RX11) pnRX11 rfl (Nat.le_of_ble_eq_true rfl) (fun G p e R s m args below meth c C hini => ?_)
  unfold fX11_act
  refine zlocs (lb := [(0, zR x0), (1, zI x1), (2, zI x2), (3, zI x3)]) ⟨rfl, rfl, rfl, rfl, trivial⟩ ?_
  refine z_aload_n C (i := 0) (pc' := 1) dX11_act_0 rfl rfl rfl ?_
  refine z_iconst C (pc' := 2) dX11_act_1 kc_0 rfl ?_
  refine z_putf C (pc' := 5) flRX11_268 fn11_30 fb11_30 dX11_act_2 rfl (fun u1 => ?_)
  refine z_aload_n C (i := 0) (pc' := 6) dX11_act_5 rfl rfl rfl ?_
  refine z_iload_n C (i := 1) (pc' := 7) dX11_act_6 rfl rfl rfl ?_
  refine z_callV1 C (pc' := 10) lvRX11_292 lc_X11_isBody rfl dX11_act_7 rfl (by decide) (rX11_isBody l w x0 x1 u1) rfl (Nat.le_of_ble_eq_true rfl) (fun v2 u3 => ?_)
  refine z_if_ne C (pc' := 15) (pf := 13) dX11_act_10 rfl rfl (fun _ => ?_) (fun _ => ?_)
  ·
    refine z_aload_n C (i := 0) (pc' := 16) dX11_act_15 rfl rfl rfl ?_
    refine z_aload_n C (i := 0) (pc' := 17) dX11_act_16 rfl rfl rfl ?_
    refine z_getfR C (pc' := 20) flRX11_59 dX11_act_17 rfl (fun v4 => ?_)
    refine z_iload_n C (i := 1) (pc' := 21) dX11_act_20 rfl rfl rfl ?_
    refine z_iald C (pc' := 22) dX11_act_21 rfl (fun v5 => ?_)
    refine z_putf C (pc' := 25) flRX11_283 fn11_31 fb11_31 dX11_act_22 rfl (fun u6 => ?_)
    refine z_aload_n C (i := 0) (pc' := 26) dX11_act_25 rfl rfl rfl ?_
    refine z_iload_n C (i := 1) (pc' := 27) dX11_act_26 rfl rfl rfl ?_
    refine z_putf C (pc' := 30) flRX11_277 fn11_32 fb11_32 dX11_act_27 rfl (fun u7 => ?_)
    refine z_iload_n C (i := 2) (pc' := 31) dX11_act_30 rfl rfl rfl ?_
    refine z_tcase C (pc' := 60) dX11_act_31 0 (by decide) (by decide) rfl rfl (fun _ => ?_) (fun h8 => ?_)
    ·
      refine z_aload_n C (i := 0) (pc' := 61) dX11_act_60 rfl rfl rfl ?_
      refine z_aload_n C (i := 0) (pc' := 62) dX11_act_61 rfl rfl rfl ?_
      refine z_getf C (pc' := 65) flRX11_283 dX11_act_62 rfl (fun v9 => ?_)
      refine z_iload_n C (i := 3) (pc' := 66) dX11_act_65 rfl rfl rfl ?_
      refine z_callV1 C (pc' := 69) lvRX11_274 lc_X11_saysAs rfl dX11_act_66 rfl (by decide) (rX11_saysAs l w x0 v9 x3 u7) rfl (Nat.le_of_ble_eq_true rfl) (fun v10 u11 => ?_)
      exact z_ireturn C dX11_act_69
    ·
      refine z_tcase C (pc' := 70) dX11_act_31 1 (by decide) (by decide) rfl rfl (fun _ => ?_) (fun h12 => ?_)
      ·
        refine z_aload_n C (i := 0) (pc' := 71) dX11_act_70 rfl rfl rfl ?_
        refine z_aload_n C (i := 0) (pc' := 72) dX11_act_71 rfl rfl rfl ?_
        refine z_getf C (pc' := 75) flRX11_283 dX11_act_72 rfl (fun v13 => ?_)
        refine z_iload_n C (i := 3) (pc' := 76) dX11_act_75 rfl rfl rfl ?_
        refine z_callV1 C (pc' := 79) lvRX11_280 lc_X11_takesAs rfl dX11_act_76 rfl (by decide) (rX11_takesAs l w x0 v13 x3 u7) rfl (Nat.le_of_ble_eq_true rfl) (fun v14 u15 => ?_)
        exact z_ireturn C dX11_act_79
      ·
        refine z_tcase C (pc' := 80) dX11_act_31 2 (by decide) (by decide) rfl rfl (fun _ => ?_) (fun h16 => ?_)
        ·
          refine z_aload_n C (i := 0) (pc' := 81) dX11_act_80 rfl rfl rfl ?_
          refine z_aload_n C (i := 0) (pc' := 82) dX11_act_81 rfl rfl rfl ?_
          refine z_getf C (pc' := 85) flRX11_283 dX11_act_82 rfl (fun v17 => ?_)
          refine z_iload_n C (i := 3) (pc' := 86) dX11_act_85 rfl rfl rfl ?_
          refine z_callV1 C (pc' := 89) lvRX11_286 lc_X11_mendsAs rfl dX11_act_86 rfl (by decide) (rX11_mendsAs l w x0 v17 x3 u7) rfl (Nat.le_of_ble_eq_true rfl) (fun v18 u19 => ?_)
          exact z_ireturn C dX11_act_89
        ·
          refine z_tcase C (pc' := 90) dX11_act_31 3 (by decide) (by decide) rfl rfl (fun _ => ?_) (fun h20 => ?_)
          ·
            refine z_aload_n C (i := 0) (pc' := 91) dX11_act_90 rfl rfl rfl ?_
            refine z_aload_n C (i := 0) (pc' := 92) dX11_act_91 rfl rfl rfl ?_
            refine z_getf C (pc' := 95) flRX11_283 dX11_act_92 rfl (fun v21 => ?_)
            refine z_iload_n C (i := 3) (pc' := 96) dX11_act_95 rfl rfl rfl ?_
            refine z_callV1 C (pc' := 99) lvRX11_289 lc_X11_joinsAs rfl dX11_act_96 rfl (by decide) (rX11_joinsAs l w x0 v21 x3 u7) rfl (Nat.le_of_ble_eq_true rfl) (fun v22 u23 => ?_)
            exact z_ireturn C dX11_act_99
          ·
            refine z_tdef C (pc' := 100) dX11_act_31 (by omega) rfl ?_
            refine z_iconst C (pc' := 101) dX11_act_100 kc_0 rfl ?_
            exact z_ireturn C dX11_act_101
  ·
    refine z_iconst C (pc' := 14) dX11_act_13 kc_0 rfl ?_
    exact z_ireturn C dX11_act_14
def fX11_trace (x0 x1 : Int) (u0 : zMem) : zRs := zjn (fun (u1 : zMem) => some ((-1), u1)) (fun k2 => if x1 < 0 then (k2 u0) else (zgf 11 30 x0 u0 (fun v3 => if x1 ≥ v3 then (k2 u0) else (if x1 ≥ 24 then (k2 u0) else (zgf 11 29 x0 u0 (fun v4 => zald 20 v4 x1 u0 (fun v5 => some (v5, u0))))))))
set_option maxRecDepth 100000 in
set_option maxHeartbeats 4000000 in
theorem rX11_trace (l : Launch) (w : zW) (x0 x1 : Int) (u0 : zMem) : zSpc l w 1 yX11_trace cX11_trace 2 (some .int) 1 [zR x0, zI x1] u0 (fX11_trace x0 x1 u0) := by
  refine zSpc_of (own := RX11) pnRX11 rfl (Nat.le_of_ble_eq_true rfl) (fun G p e R s m args below meth c C hini => ?_)
  unfold fX11_trace
  refine zlocs (lb := [(0, zR x0), (1, zI x1)]) ⟨rfl, rfl, trivial⟩ ?_
  refine z_iload_n C (i := 1) (pc' := 1) dX11_trace_0 rfl rfl rfl ?_
  refine zjoin (P := fun (f : zMem → zRs) => ∀ (u1 : zMem), zSim G p l e R s m args below meth c w 2 (znc u0) (zM w 1 (znc u0) below args s) 27 [] [] u1 (f u1)) (fun u1 => ?_) (fun k2 hk2 => ?_)
  ·
    refine z_iconst C (pc' := 28) dX11_trace_27 kc_m1 rfl ?_
    exact z_ireturn C dX11_trace_28
  ·
    refine z_if_lt C (pc' := 27) (pf := 4) dX11_trace_1 rfl rfl (fun _ => ?_) (fun _ => ?_)
    ·
      exact zlocs (lb := []) trivial (hk2 _)
    ·
      refine z_iload_n C (i := 1) (pc' := 5) dX11_trace_4 rfl rfl rfl ?_
      refine z_aload_n C (i := 0) (pc' := 6) dX11_trace_5 rfl rfl rfl ?_
      refine z_getf C (pc' := 9) flRX11_268 dX11_trace_6 rfl (fun v3 => ?_)
      refine z_icmp_ge C (pc' := 27) (pf := 12) dX11_trace_9 rfl rfl (fun _ => ?_) (fun _ => ?_)
      ·
        exact zlocs (lb := []) trivial (hk2 _)
      ·
        refine z_iload_n C (i := 1) (pc' := 13) dX11_trace_12 rfl rfl rfl ?_
        refine z_bipush C (pc' := 15) dX11_trace_13 kb_24 rfl ?_
        refine z_icmp_ge C (pc' := 27) (pf := 18) dX11_trace_15 rfl rfl (fun _ => ?_) (fun _ => ?_)
        ·
          exact zlocs (lb := []) trivial (hk2 _)
        ·
          refine z_aload_n C (i := 0) (pc' := 19) dX11_trace_18 rfl rfl rfl ?_
          refine z_getfR C (pc' := 22) flRX11_62 dX11_trace_19 rfl (fun v4 => ?_)
          refine z_iload_n C (i := 1) (pc' := 23) dX11_trace_22 rfl rfl rfl ?_
          refine z_iald C (pc' := 24) dX11_trace_23 rfl (fun v5 => ?_)
          refine z_goto C (pc' := 28) dX11_trace_24 rfl ?_
          exact z_ireturn C dX11_trace_28
def fX11_keep (x0 x1 x2 : Int) (u0 : zMem) : zRs := zcall (fX11_isShelf x1 u0) (fun v1 u2 => if v1 = 0 then (some ((-1), u2)) else (zjn (fun (u3 : zMem) => zgf 11 33 x0 u3 (fun v5 => zast 20 v5 x1 x2 u3 (fun u6 => zgf 11 34 x0 u6 (fun v7 => zast 20 v7 x1 0 u6 (fun u8 => some (1, u8)))))) (fun k4 => if x2 = (-1) then (k4 u2) else (zvc 11 x0 (fX11_isBody x0 x2 u2) (fun v9 u10 => if v9 ≠ 0 then (k4 u10) else (some ((-1), u10)))))))
set_option maxRecDepth 100000 in
set_option maxHeartbeats 4000000 in
theorem rX11_keep (l : Launch) (w : zW) (x0 x1 x2 : Int) (u0 : zMem) : zSpc l w 3 yX11_keep cX11_keep 3 (some .int) 1 [zR x0, zI x1, zI x2] u0 (fX11_keep x0 x1 x2 u0) := by
  refine zSpc_of (own := RX11) pnRX11 rfl (Nat.le_of_ble_eq_true rfl) (fun G p e R s m args below meth c C hini => ?_)
  unfold fX11_keep
  refine zlocs (lb := [(0, zR x0), (1, zI x1), (2, zI x2)]) ⟨rfl, rfl, rfl, trivial⟩ ?_
  refine z_iload_n C (i := 1) (pc' := 1) dX11_keep_0 rfl rfl rfl ?_
  refine z_callS1 C (pc' := 4) lsRX11_108 lc_X11_isShelf rfl dX11_keep_1 rfl (by decide) (rX11_isShelf l w x1 u0) rfl (Nat.le_of_ble_eq_true rfl) (fun v1 u2 => ?_)
  refine z_if_eq C (pc' := 20) (pf := 7) dX11_keep_4 rfl rfl (fun _ => ?_) (fun _ => ?_)
  ·
    refine z_iconst C (pc' := 21) dX11_keep_20 kc_m1 rfl ?_
    exact z_ireturn C dX11_keep_21
  ·
    refine z_iload_n C (i := 2) (pc' := 8) dX11_keep_7 rfl rfl rfl ?_
    refine z_iconst C (pc' := 9) dX11_keep_8 kc_m1 rfl ?_
    refine zjoin (P := fun (f : zMem → zRs) => ∀ (u3 : zMem), zSim G p l e R s m args below meth c w 3 (znc u0) (zM w 1 (znc u0) below args s) 22 [(0, zR x0), (1, zI x1), (2, zI x2)] [] u3 (f u3)) (fun u3 => ?_) (fun k4 hk4 => ?_)
    ·
      refine z_aload_n C (i := 0) (pc' := 23) dX11_keep_22 rfl rfl rfl ?_
      refine z_getfR C (pc' := 26) flRX11_65 dX11_keep_23 rfl (fun v5 => ?_)
      refine z_iload_n C (i := 1) (pc' := 27) dX11_keep_26 rfl rfl rfl ?_
      refine z_iload_n C (i := 2) (pc' := 28) dX11_keep_27 rfl rfl rfl ?_
      refine z_iast C (pc' := 29) dX11_keep_28 rfl (fun u6 => ?_)
      refine z_aload_n C (i := 0) (pc' := 30) dX11_keep_29 rfl rfl rfl ?_
      refine z_getfR C (pc' := 33) flRX11_68 dX11_keep_30 rfl (fun v7 => ?_)
      refine z_iload_n C (i := 1) (pc' := 34) dX11_keep_33 rfl rfl rfl ?_
      refine z_iconst C (pc' := 35) dX11_keep_34 kc_0 rfl ?_
      refine z_iast C (pc' := 36) dX11_keep_35 rfl (fun u8 => ?_)
      refine z_iconst C (pc' := 37) dX11_keep_36 kc_1 rfl ?_
      exact z_ireturn C dX11_keep_37
    ·
      refine z_icmp_eq C (pc' := 22) (pf := 12) dX11_keep_9 rfl rfl (fun _ => ?_) (fun _ => ?_)
      ·
        exact zlocs (lb := [(0, zR x0), (1, zI x1), (2, zI x2)]) ⟨rfl, rfl, rfl, trivial⟩ (hk4 _)
      ·
        refine z_aload_n C (i := 0) (pc' := 13) dX11_keep_12 rfl rfl rfl ?_
        refine z_iload_n C (i := 2) (pc' := 14) dX11_keep_13 rfl rfl rfl ?_
        refine z_callV1 C (pc' := 17) lvRX11_292 lc_X11_isBody rfl dX11_keep_14 rfl (by decide) (rX11_isBody l w x0 x2 u2) rfl (Nat.le_of_ble_eq_true rfl) (fun v9 u10 => ?_)
        refine z_if_ne C (pc' := 22) (pf := 20) dX11_keep_17 rfl rfl (fun _ => ?_) (fun _ => ?_)
        ·
          exact zlocs (lb := [(0, zR x0), (1, zI x1), (2, zI x2)]) ⟨rfl, rfl, rfl, trivial⟩ (hk4 _)
        ·
          refine z_iconst C (pc' := 21) dX11_keep_20 kc_m1 rfl ?_
          exact z_ireturn C dX11_keep_21
def fX11_row (x0 x1 x2 x3 : Int) (u0 : zMem) : zRs := zcall (fX11_isShelf x1 u0) (fun v1 u2 => if v1 = 0 then (some ((-1), u2)) else (zcall (fX11_within x2 0 4 u2) (fun v3 u4 => if v3 = 0 then (some ((-1), u4)) else (if x3 ≤ 60 then (if x3 ≥ 0 then (zgf 11 33 x0 u4 (fun v5 => zast 20 v5 x1 (zw32 (50 + x2)) u4 (fun u6 => zgf 11 34 x0 u6 (fun v7 => zast 20 v7 x1 x3 u6 (fun u8 => zlp (fun _ _ => none) (fun k11 (v9 : Int) (u10 : zMem) => if v9 ≥ (zw32 ((zw32 (60 * x1)) + 60)) then (some (1, u10)) else (zgf 11 35 x0 u10 (fun v12 => zast 21 v12 v9 0 u10 (fun u13 => k11 (zw32 (v9 + 1)) u13)))) 1000000 (zw32 (60 * x1)) u8))))) else (some ((-14), u4))) else (some ((-1), u4))))))
set_option maxRecDepth 100000 in
set_option maxHeartbeats 4000000 in
theorem rX11_row (l : Launch) (w : zW) (x0 x1 x2 x3 : Int) (u0 : zMem) : zSpc l w 3 yX11_row cX11_row 5 (some .int) 1 [zR x0, zI x1, zI x2, zI x3] u0 (fX11_row x0 x1 x2 x3 u0) := by
  refine zSpc_of (own := RX11) pnRX11 rfl (Nat.le_of_ble_eq_true rfl) (fun G p e R s m args below meth c C hini => ?_)
  unfold fX11_row
  refine zlocs (lb := [(0, zR x0), (1, zI x1), (2, zI x2), (3, zI x3)]) ⟨rfl, rfl, rfl, rfl, trivial⟩ ?_
  refine z_iload_n C (i := 1) (pc' := 1) dX11_row_0 rfl rfl rfl ?_
  refine z_callS1 C (pc' := 4) lsRX11_108 lc_X11_isShelf rfl dX11_row_1 rfl (by decide) (rX11_isShelf l w x1 u0) rfl (Nat.le_of_ble_eq_true rfl) (fun v1 u2 => ?_)
  refine z_if_eq C (pc' := 25) (pf := 7) dX11_row_4 rfl rfl (fun _ => ?_) (fun _ => ?_)
  ·
    refine z_iconst C (pc' := 26) dX11_row_25 kc_m1 rfl ?_
    exact z_ireturn C dX11_row_26
  ·
    refine z_iload_n C (i := 2) (pc' := 8) dX11_row_7 rfl rfl rfl ?_
    refine z_i2l C (pc' := 9) dX11_row_8 rfl ?_
    refine z_lconst C (pc' := 10) dX11_row_9 kl_0 rfl ?_
    refine z_ldc2 C (pc' := 13) dX11_row_10 wlRX11_121 kj_4 rfl ?_
    refine z_callS1 C (pc' := 16) lsRX11_88 lc_X11_within rfl dX11_row_13 rfl (by decide) (rX11_within l w x2 0 4 u2) rfl (Nat.le_of_ble_eq_true rfl) (fun v3 u4 => ?_)
    refine z_if_eq C (pc' := 25) (pf := 19) dX11_row_16 rfl rfl (fun _ => ?_) (fun _ => ?_)
    ·
      refine z_iconst C (pc' := 26) dX11_row_25 kc_m1 rfl ?_
      exact z_ireturn C dX11_row_26
    ·
      refine z_iload_n C (i := 3) (pc' := 20) dX11_row_19 rfl rfl rfl ?_
      refine z_bipush C (pc' := 22) dX11_row_20 kb_60 rfl ?_
      refine z_icmp_le C (pc' := 27) (pf := 25) dX11_row_22 rfl rfl (fun _ => ?_) (fun _ => ?_)
      ·
        refine z_iload_n C (i := 3) (pc' := 28) dX11_row_27 rfl rfl rfl ?_
        refine z_if_ge C (pc' := 34) (pf := 31) dX11_row_28 rfl rfl (fun _ => ?_) (fun _ => ?_)
        ·
          refine z_aload_n C (i := 0) (pc' := 35) dX11_row_34 rfl rfl rfl ?_
          refine z_getfR C (pc' := 38) flRX11_65 dX11_row_35 rfl (fun v5 => ?_)
          refine z_iload_n C (i := 1) (pc' := 39) dX11_row_38 rfl rfl rfl ?_
          refine z_bipush C (pc' := 41) dX11_row_39 kb_50 rfl ?_
          refine z_iload_n C (i := 2) (pc' := 42) dX11_row_41 rfl rfl rfl ?_
          refine z_iadd C (pc' := 43) dX11_row_42 rfl ?_
          refine z_iast C (pc' := 44) dX11_row_43 rfl (fun u6 => ?_)
          refine z_aload_n C (i := 0) (pc' := 45) dX11_row_44 rfl rfl rfl ?_
          refine z_getfR C (pc' := 48) flRX11_68 dX11_row_45 rfl (fun v7 => ?_)
          refine z_iload_n C (i := 1) (pc' := 49) dX11_row_48 rfl rfl rfl ?_
          refine z_iload_n C (i := 3) (pc' := 50) dX11_row_49 rfl rfl rfl ?_
          refine z_iast C (pc' := 51) dX11_row_50 rfl (fun u8 => ?_)
          refine z_bipush C (pc' := 53) dX11_row_51 kb_60 rfl ?_
          refine z_iload_n C (i := 1) (pc' := 54) dX11_row_53 rfl rfl rfl ?_
          refine z_imul C (pc' := 55) dX11_row_54 rfl ?_
          refine z_istore C (i := 4) (la' := [(4, zI (zw32 (60 * x1))), (0, zR x0), (1, zI x1), (2, zI x2), (3, zI x3)]) (pc' := 57) dX11_row_55 (by decide) rfl rfl ?_
          refine zlocs (lb := [(0, zR x0), (1, zI x1), (4, zI (zw32 (60 * x1)))]) ⟨rfl, rfl, rfl, trivial⟩ ?_
          refine zlp_ind (fun (f : Int → zMem → zRs) => ∀ (v9 : Int) (u10 : zMem), zSim G p l e R s m args below meth c w 5 (znc u0) (zM w 1 (znc u0) below args s) 57 [(0, zR x0), (1, zI x1), (4, zI v9)] [] u10 (f v9 u10)) (fun _ _ => znone) (fun k11 hk11 v9 u10 => ?_) _ _ _
          refine z_iload C (pc' := 59) dX11_row_57 rfl rfl ?_
          refine z_bipush C (pc' := 61) dX11_row_59 kb_60 rfl ?_
          refine z_iload_n C (i := 1) (pc' := 62) dX11_row_61 rfl rfl rfl ?_
          refine z_imul C (pc' := 63) dX11_row_62 rfl ?_
          refine z_bipush C (pc' := 65) dX11_row_63 kb_60 rfl ?_
          refine z_iadd C (pc' := 66) dX11_row_65 rfl ?_
          refine z_icmp_ge C (pc' := 83) (pf := 69) dX11_row_66 rfl rfl (fun _ => ?_) (fun _ => ?_)
          ·
            refine z_iconst C (pc' := 84) dX11_row_83 kc_1 rfl ?_
            exact z_ireturn C dX11_row_84
          ·
            refine z_aload_n C (i := 0) (pc' := 70) dX11_row_69 rfl rfl rfl ?_
            refine z_getfR C (pc' := 73) flRX11_71 dX11_row_70 rfl (fun v12 => ?_)
            refine z_iload C (pc' := 75) dX11_row_73 rfl rfl ?_
            refine z_lconst C (pc' := 76) dX11_row_75 kl_0 rfl ?_
            refine z_last C (pc' := 77) dX11_row_76 rfl (fun u13 => ?_)
            refine z_iinc C (i := 4) (la' := [(4, zI (zw32 (v9 + 1))), (0, zR x0), (1, zI x1)]) (pc' := 80) dX11_row_77 rfl (by decide) rfl rfl ?_
            refine z_goto C (pc' := 57) dX11_row_80 rfl ?_
            exact zlocs (lb := [(0, zR x0), (1, zI x1), (4, zI (zw32 (v9 + 1)))]) ⟨rfl, rfl, rfl, trivial⟩ (hk11 _ _)
        ·
          refine z_bipush C (pc' := 33) dX11_row_31 kb_m14 rfl ?_
          exact z_ireturn C dX11_row_33
      ·
        refine z_iconst C (pc' := 26) dX11_row_25 kc_m1 rfl ?_
        exact z_ireturn C dX11_row_26
def fX11_refusal (x0 x1 x2 : Int) (u0 : zMem) : zRs := zcall (fX11_isShelf x1 u0) (fun v1 u2 => if v1 ≠ 0 then (zgf 11 33 x0 u2 (fun v3 => zald 20 v3 x1 u2 (fun v4 => if v4 ≥ 0 then (zgf 11 33 x0 u2 (fun v5 => zald 20 v5 x1 u2 (fun v6 => if v6 ≥ 50 then (zjn (fun (u7 : zMem) => some ((-13), u7)) (fun k8 => if x2 < 0 then (k8 u2) else (zgf 11 34 x0 u2 (fun v9 => zald 20 v9 x1 u2 (fun v10 => if x2 ≥ v10 then (k8 u2) else (some (0, u2))))))) else (some ((-12), u2))))) else (some ((-11), u2))))) else (some ((-1), u2)))
set_option maxRecDepth 100000 in
set_option maxHeartbeats 4000000 in
theorem rX11_refusal (l : Launch) (w : zW) (x0 x1 x2 : Int) (u0 : zMem) : zSpc l w 3 yX11_refusal cX11_refusal 3 (some .int) 1 [zR x0, zI x1, zI x2] u0 (fX11_refusal x0 x1 x2 u0) := by
  refine zSpc_of (own := RX11) pnRX11 rfl (Nat.le_of_ble_eq_true rfl) (fun G p e R s m args below meth c C hini => ?_)
  unfold fX11_refusal
  refine zlocs (lb := [(0, zR x0), (1, zI x1), (2, zI x2)]) ⟨rfl, rfl, rfl, trivial⟩ ?_
  refine z_iload_n C (i := 1) (pc' := 1) dX11_refusal_0 rfl rfl rfl ?_
  refine z_callS1 C (pc' := 4) lsRX11_108 lc_X11_isShelf rfl dX11_refusal_1 rfl (by decide) (rX11_isShelf l w x1 u0) rfl (Nat.le_of_ble_eq_true rfl) (fun v1 u2 => ?_)
  refine z_if_ne C (pc' := 9) (pf := 7) dX11_refusal_4 rfl rfl (fun _ => ?_) (fun _ => ?_)
  ·
    refine z_aload_n C (i := 0) (pc' := 10) dX11_refusal_9 rfl rfl rfl ?_
    refine z_getfR C (pc' := 13) flRX11_65 dX11_refusal_10 rfl (fun v3 => ?_)
    refine z_iload_n C (i := 1) (pc' := 14) dX11_refusal_13 rfl rfl rfl ?_
    refine z_iald C (pc' := 15) dX11_refusal_14 rfl (fun v4 => ?_)
    refine z_if_ge C (pc' := 21) (pf := 18) dX11_refusal_15 rfl rfl (fun _ => ?_) (fun _ => ?_)
    ·
      refine z_aload_n C (i := 0) (pc' := 22) dX11_refusal_21 rfl rfl rfl ?_
      refine z_getfR C (pc' := 25) flRX11_65 dX11_refusal_22 rfl (fun v5 => ?_)
      refine z_iload_n C (i := 1) (pc' := 26) dX11_refusal_25 rfl rfl rfl ?_
      refine z_iald C (pc' := 27) dX11_refusal_26 rfl (fun v6 => ?_)
      refine z_bipush C (pc' := 29) dX11_refusal_27 kb_50 rfl ?_
      refine z_icmp_ge C (pc' := 35) (pf := 32) dX11_refusal_29 rfl rfl (fun _ => ?_) (fun _ => ?_)
      ·
        refine z_iload_n C (i := 2) (pc' := 36) dX11_refusal_35 rfl rfl rfl ?_
        refine zjoin (P := fun (f : zMem → zRs) => ∀ (u7 : zMem), zSim G p l e R s m args below meth c w 3 (znc u0) (zM w 1 (znc u0) below args s) 53 [] [] u7 (f u7)) (fun u7 => ?_) (fun k8 hk8 => ?_)
        ·
          refine z_bipush C (pc' := 55) dX11_refusal_53 kb_m13 rfl ?_
          exact z_ireturn C dX11_refusal_55
        ·
          refine z_if_lt C (pc' := 53) (pf := 39) dX11_refusal_36 rfl rfl (fun _ => ?_) (fun _ => ?_)
          ·
            exact zlocs (lb := []) trivial (hk8 _)
          ·
            refine z_iload_n C (i := 2) (pc' := 40) dX11_refusal_39 rfl rfl rfl ?_
            refine z_aload_n C (i := 0) (pc' := 41) dX11_refusal_40 rfl rfl rfl ?_
            refine z_getfR C (pc' := 44) flRX11_68 dX11_refusal_41 rfl (fun v9 => ?_)
            refine z_iload_n C (i := 1) (pc' := 45) dX11_refusal_44 rfl rfl rfl ?_
            refine z_iald C (pc' := 46) dX11_refusal_45 rfl (fun v10 => ?_)
            refine z_icmp_ge C (pc' := 53) (pf := 49) dX11_refusal_46 rfl rfl (fun _ => ?_) (fun _ => ?_)
            ·
              exact zlocs (lb := []) trivial (hk8 _)
            ·
              refine z_iconst C (pc' := 50) dX11_refusal_49 kc_0 rfl ?_
              refine z_goto C (pc' := 55) dX11_refusal_50 rfl ?_
              exact z_ireturn C dX11_refusal_55
      ·
        refine z_bipush C (pc' := 34) dX11_refusal_32 kb_m12 rfl ?_
        exact z_ireturn C dX11_refusal_34
    ·
      refine z_bipush C (pc' := 20) dX11_refusal_18 kb_m11 rfl ?_
      exact z_ireturn C dX11_refusal_20
  ·
    refine z_iconst C (pc' := 8) dX11_refusal_7 kc_m1 rfl ?_
    exact z_ireturn C dX11_refusal_8
def fX11_asSort (x0 x1 : Int) (u0 : zMem) : zRs := if x0 ≠ 0 then (if x0 ≠ 1 then (if x0 ≠ 2 then (if x0 ≠ 4 then (some (x1, u0)) else (if (zcmp x1 0) = 0 then (some (0, u0)) else (some (1, u0)))) else (some ((zw32 x1), u0))) else (some ((zw16 (zw32 x1)), u0))) else (some ((zw8 (zw32 x1)), u0))
set_option maxRecDepth 100000 in
set_option maxHeartbeats 4000000 in
theorem rX11_asSort (l : Launch) (w : zW) (x0 x1 : Int) (u0 : zMem) : zSpc l w 1 yX11_asSort cX11_asSort 3 (some .long) 2 [zI x0, zL x1] u0 (fX11_asSort x0 x1 u0) := by
  refine zSpc_of (own := RX11) pnRX11 rfl (Nat.le_of_ble_eq_true rfl) (fun G p e R s m args below meth c C hini => ?_)
  unfold fX11_asSort
  refine zlocs (lb := [(0, zI x0), (1, zL x1)]) ⟨rfl, rfl, trivial⟩ ?_
  refine z_iload_n C (i := 0) (pc' := 1) dX11_asSort_0 rfl rfl rfl ?_
  refine z_if_ne C (pc' := 11) (pf := 4) dX11_asSort_1 rfl rfl (fun _ => ?_) (fun _ => ?_)
  ·
    refine z_iload_n C (i := 0) (pc' := 12) dX11_asSort_11 rfl rfl rfl ?_
    refine z_iconst C (pc' := 13) dX11_asSort_12 kc_1 rfl ?_
    refine z_icmp_ne C (pc' := 23) (pf := 16) dX11_asSort_13 rfl rfl (fun _ => ?_) (fun _ => ?_)
    ·
      refine z_iload_n C (i := 0) (pc' := 24) dX11_asSort_23 rfl rfl rfl ?_
      refine z_iconst C (pc' := 25) dX11_asSort_24 kc_2 rfl ?_
      refine z_icmp_ne C (pc' := 34) (pf := 28) dX11_asSort_25 rfl rfl (fun _ => ?_) (fun _ => ?_)
      ·
        refine z_iload_n C (i := 0) (pc' := 35) dX11_asSort_34 rfl rfl rfl ?_
        refine z_iconst C (pc' := 36) dX11_asSort_35 kc_4 rfl ?_
        refine z_icmp_ne C (pc' := 53) (pf := 39) dX11_asSort_36 rfl rfl (fun _ => ?_) (fun _ => ?_)
        ·
          refine z_lload_n C (i := 1) (pc' := 54) dX11_asSort_53 rfl rfl rfl ?_
          exact z_lreturn C dX11_asSort_54
        ·
          refine z_lload_n C (i := 1) (pc' := 40) dX11_asSort_39 rfl rfl rfl ?_
          refine z_lconst C (pc' := 41) dX11_asSort_40 kl_0 rfl ?_
          refine z_lcmp C (pc' := 42) dX11_asSort_41 rfl ?_
          refine z_if_eq C (pc' := 49) (pf := 45) dX11_asSort_42 rfl rfl (fun _ => ?_) (fun _ => ?_)
          ·
            refine z_lconst C (pc' := 50) dX11_asSort_49 kl_0 rfl ?_
            refine z_goto C (pc' := 54) dX11_asSort_50 rfl ?_
            exact z_lreturn C dX11_asSort_54
          ·
            refine z_lconst C (pc' := 46) dX11_asSort_45 kl_1 rfl ?_
            refine z_goto C (pc' := 54) dX11_asSort_46 rfl ?_
            exact z_lreturn C dX11_asSort_54
      ·
        refine z_lload_n C (i := 1) (pc' := 29) dX11_asSort_28 rfl rfl rfl ?_
        refine z_l2i C (pc' := 30) dX11_asSort_29 rfl ?_
        refine z_i2l C (pc' := 31) dX11_asSort_30 rfl ?_
        refine z_goto C (pc' := 54) dX11_asSort_31 rfl ?_
        exact z_lreturn C dX11_asSort_54
    ·
      refine z_lload_n C (i := 1) (pc' := 17) dX11_asSort_16 rfl rfl rfl ?_
      refine z_l2i C (pc' := 18) dX11_asSort_17 rfl ?_
      refine z_i2s C (pc' := 19) dX11_asSort_18 rfl ?_
      refine z_i2l C (pc' := 20) dX11_asSort_19 rfl ?_
      refine z_goto C (pc' := 54) dX11_asSort_20 rfl ?_
      exact z_lreturn C dX11_asSort_54
  ·
    refine z_lload_n C (i := 1) (pc' := 5) dX11_asSort_4 rfl rfl rfl ?_
    refine z_l2i C (pc' := 6) dX11_asSort_5 rfl ?_
    refine z_i2b C (pc' := 7) dX11_asSort_6 rfl ?_
    refine z_i2l C (pc' := 8) dX11_asSort_7 rfl ?_
    refine z_goto C (pc' := 54) dX11_asSort_8 rfl ?_
    exact z_lreturn C dX11_asSort_54
def fX11_put (x0 x1 x2 x3 : Int) (u0 : zMem) : zRs := zvc 11 x0 (fX11_refusal x0 x1 x2 u0) (fun v1 u2 => zjn (fun (u3 : zMem) => if v1 ≠ 0 then (some (v1, u3)) else (some (1, u3))) (fun k4 => if v1 ≠ 0 then (k4 u2) else (zgf 11 35 x0 u2 (fun v5 => zgf 11 33 x0 u2 (fun v6 => zald 20 v6 x1 u2 (fun v7 => zcall (fX11_asSort (zw32 (v7 - 50)) x3 u2) (fun v8 u9 => zast 21 v5 (zw32 ((zw32 (60 * x1)) + x2)) v8 u9 (fun u10 => k4 u10))))))))
set_option maxRecDepth 100000 in
set_option maxHeartbeats 4000000 in
theorem rX11_put (l : Launch) (w : zW) (x0 x1 x2 x3 : Int) (u0 : zMem) : zSpc l w 4 yX11_put cX11_put 6 (some .int) 1 [zR x0, zI x1, zI x2, zL x3] u0 (fX11_put x0 x1 x2 x3 u0) := by
  refine zSpc_of (own := RX11) pnRX11 rfl (Nat.le_of_ble_eq_true rfl) (fun G p e R s m args below meth c C hini => ?_)
  unfold fX11_put
  refine zlocs (lb := [(0, zR x0), (1, zI x1), (2, zI x2), (3, zL x3)]) ⟨rfl, rfl, rfl, rfl, trivial⟩ ?_
  refine z_aload_n C (i := 0) (pc' := 1) dX11_put_0 rfl rfl rfl ?_
  refine z_iload_n C (i := 1) (pc' := 2) dX11_put_1 rfl rfl rfl ?_
  refine z_iload_n C (i := 2) (pc' := 3) dX11_put_2 rfl rfl rfl ?_
  refine z_callV1 C (pc' := 6) lvRX11_297 lc_X11_refusal rfl dX11_put_3 rfl (by decide) (rX11_refusal l w x0 x1 x2 u0) rfl (Nat.le_of_ble_eq_true rfl) (fun v1 u2 => ?_)
  refine z_istore C (i := 5) (la' := [(5, zI v1), (0, zR x0), (1, zI x1), (2, zI x2), (3, zL x3)]) (pc' := 8) dX11_put_6 (by decide) rfl rfl ?_
  refine z_iload C (pc' := 10) dX11_put_8 rfl rfl ?_
  refine zjoin (P := fun (f : zMem → zRs) => ∀ (u3 : zMem), zSim G p l e R s m args below meth c w 6 (znc u0) (zM w 1 (znc u0) below args s) 37 [(5, zI v1)] [] u3 (f u3)) (fun u3 => ?_) (fun k4 hk4 => ?_)
  ·
    refine z_iload C (pc' := 39) dX11_put_37 rfl rfl ?_
    refine z_if_ne C (pc' := 46) (pf := 42) dX11_put_39 rfl rfl (fun _ => ?_) (fun _ => ?_)
    ·
      refine z_iload C (pc' := 48) dX11_put_46 rfl rfl ?_
      exact z_ireturn C dX11_put_48
    ·
      refine z_iconst C (pc' := 43) dX11_put_42 kc_1 rfl ?_
      refine z_goto C (pc' := 48) dX11_put_43 rfl ?_
      exact z_ireturn C dX11_put_48
  ·
    refine z_if_ne C (pc' := 37) (pf := 13) dX11_put_10 rfl rfl (fun _ => ?_) (fun _ => ?_)
    ·
      exact zlocs (lb := [(5, zI v1)]) ⟨rfl, trivial⟩ (hk4 _)
    ·
      refine z_aload_n C (i := 0) (pc' := 14) dX11_put_13 rfl rfl rfl ?_
      refine z_getfR C (pc' := 17) flRX11_71 dX11_put_14 rfl (fun v5 => ?_)
      refine z_bipush C (pc' := 19) dX11_put_17 kb_60 rfl ?_
      refine z_iload_n C (i := 1) (pc' := 20) dX11_put_19 rfl rfl rfl ?_
      refine z_imul C (pc' := 21) dX11_put_20 rfl ?_
      refine z_iload_n C (i := 2) (pc' := 22) dX11_put_21 rfl rfl rfl ?_
      refine z_iadd C (pc' := 23) dX11_put_22 rfl ?_
      refine z_aload_n C (i := 0) (pc' := 24) dX11_put_23 rfl rfl rfl ?_
      refine z_getfR C (pc' := 27) flRX11_65 dX11_put_24 rfl (fun v6 => ?_)
      refine z_iload_n C (i := 1) (pc' := 28) dX11_put_27 rfl rfl rfl ?_
      refine z_iald C (pc' := 29) dX11_put_28 rfl (fun v7 => ?_)
      refine z_bipush C (pc' := 31) dX11_put_29 kb_50 rfl ?_
      refine z_isub C (pc' := 32) dX11_put_31 rfl ?_
      refine z_lload_n C (i := 3) (pc' := 33) dX11_put_32 rfl rfl rfl ?_
      refine z_callS2 C (pc' := 36) lsRX11_300 lc_X11_asSort rfl dX11_put_33 rfl (by decide) (rX11_asSort l w (zw32 (v7 - 50)) x3 u2) rfl (Nat.le_of_ble_eq_true rfl) (fun v8 u9 => ?_)
      refine z_last C (pc' := 37) dX11_put_36 rfl (fun u10 => ?_)
      exact zlocs (lb := [(5, zI v1)]) ⟨rfl, trivial⟩ (hk4 _)
def fX11_element (x0 x1 x2 : Int) (u0 : zMem) : zRs := zvc 11 x0 (fX11_refusal x0 x1 x2 u0) (fun v1 u2 => if v1 = 0 then (zgf 11 35 x0 u2 (fun v3 => zald 21 v3 (zw32 ((zw32 (60 * x1)) + x2)) u2 (fun v4 => some (v4, u2)))) else (some ((-9223372036854775808), u2)))
set_option maxRecDepth 100000 in
set_option maxHeartbeats 4000000 in
theorem rX11_element (l : Launch) (w : zW) (x0 x1 x2 : Int) (u0 : zMem) : zSpc l w 4 yX11_element cX11_element 3 (some .long) 2 [zR x0, zI x1, zI x2] u0 (fX11_element x0 x1 x2 u0) := by
  refine zSpc_of (own := RX11) pnRX11 rfl (Nat.le_of_ble_eq_true rfl) (fun G p e R s m args below meth c C hini => ?_)
  unfold fX11_element
  refine zlocs (lb := [(0, zR x0), (1, zI x1), (2, zI x2)]) ⟨rfl, rfl, rfl, trivial⟩ ?_
  refine z_aload_n C (i := 0) (pc' := 1) dX11_element_0 rfl rfl rfl ?_
  refine z_iload_n C (i := 1) (pc' := 2) dX11_element_1 rfl rfl rfl ?_
  refine z_iload_n C (i := 2) (pc' := 3) dX11_element_2 rfl rfl rfl ?_
  refine z_callV1 C (pc' := 6) lvRX11_297 lc_X11_refusal rfl dX11_element_3 rfl (by decide) (rX11_refusal l w x0 x1 x2 u0) rfl (Nat.le_of_ble_eq_true rfl) (fun v1 u2 => ?_)
  refine z_if_eq C (pc' := 15) (pf := 9) dX11_element_6 rfl rfl (fun _ => ?_) (fun _ => ?_)
  ·
    refine z_aload_n C (i := 0) (pc' := 16) dX11_element_15 rfl rfl rfl ?_
    refine z_getfR C (pc' := 19) flRX11_71 dX11_element_16 rfl (fun v3 => ?_)
    refine z_bipush C (pc' := 21) dX11_element_19 kb_60 rfl ?_
    refine z_iload_n C (i := 1) (pc' := 22) dX11_element_21 rfl rfl rfl ?_
    refine z_imul C (pc' := 23) dX11_element_22 rfl ?_
    refine z_iload_n C (i := 2) (pc' := 24) dX11_element_23 rfl rfl rfl ?_
    refine z_iadd C (pc' := 25) dX11_element_24 rfl ?_
    refine z_lald C (pc' := 26) dX11_element_25 rfl (fun v4 => ?_)
    exact z_lreturn C dX11_element_26
  ·
    refine z_ldc2 C (pc' := 12) dX11_element_9 wlRX11_248 kj_m9223372036854775808 rfl ?_
    refine z_goto C (pc' := 26) dX11_element_12 rfl ?_
    exact z_lreturn C dX11_element_26
def fX11_shift (x0 x1 x2 x3 x4 x5 : Int) (u0 : zMem) : zRs := zcall (fX11_isShelf x1 u0) (fun v1 u2 => if v1 = 0 then (some ((-1), u2)) else (zcall (fX11_isShelf x3 u2) (fun v3 u4 => if v3 ≠ 0 then (zgf 11 33 x0 u4 (fun v5 => zald 20 v5 x1 u4 (fun v6 => if v6 < 0 then (some ((-11), u4)) else (zgf 11 33 x0 u4 (fun v7 => zald 20 v7 x3 u4 (fun v8 => if v8 ≥ 0 then (zgf 11 33 x0 u4 (fun v9 => zald 20 v9 x1 u4 (fun v10 => if v10 < 50 then (some ((-12), u4)) else (zgf 11 33 x0 u4 (fun v11 => zald 20 v11 x1 u4 (fun v12 => zgf 11 33 x0 u4 (fun v13 => zald 20 v13 x3 u4 (fun v14 => if v12 = v14 then (if x5 < 0 then (some ((-13), u4)) else (if x2 < 0 then (some ((-13), u4)) else (if x4 < 0 then (some ((-13), u4)) else (zgf 11 34 x0 u4 (fun v15 => zald 20 v15 x1 u4 (fun v16 => if x2 > (zw32 (v16 - x5)) then (some ((-13), u4)) else (zgf 11 34 x0 u4 (fun v17 => zald 20 v17 x3 u4 (fun v18 => if x4 ≤ (zw32 (v18 - x5)) then (zlp (fun _ _ => none) (fun k21 (v19 : Int) (u20 : zMem) => if v19 ≥ x5 then (zlp (fun _ _ => none) (fun k24 (v22 : Int) (u23 : zMem) => if v22 ≥ x5 then (some (x5, u23)) else (zgf 11 35 x0 u23 (fun v25 => zgf 11 36 x0 u23 (fun v26 => zald 21 v26 v22 u23 (fun v27 => zast 21 v25 (zw32 ((zw32 ((zw32 (60 * x3)) + x4)) + v22)) v27 u23 (fun u28 => k24 (zw32 (v22 + 1)) u28)))))) 1000000 0 u20) else (zgf 11 36 x0 u20 (fun v29 => zgf 11 35 x0 u20 (fun v30 => zald 21 v30 (zw32 ((zw32 ((zw32 (60 * x1)) + x2)) + v19)) u20 (fun v31 => zast 21 v29 v19 v31 u20 (fun u32 => k21 (zw32 (v19 + 1)) u32)))))) 1000000 0 u4) else (some ((-13), u4))))))))))) else (some ((-12), u4)))))))))) else (some ((-11), u4)))))))) else (some ((-1), u4)))))
set_option maxRecDepth 100000 in
set_option maxHeartbeats 4000000 in
theorem rX11_shift (l : Launch) (w : zW) (x0 x1 x2 x3 x4 x5 : Int) (u0 : zMem) : zSpc l w 3 yX11_shift cX11_shift 7 (some .int) 1 [zR x0, zI x1, zI x2, zI x3, zI x4, zI x5] u0 (fX11_shift x0 x1 x2 x3 x4 x5 u0) := by
  refine zSpc_of (own := RX11) pnRX11 rfl (Nat.le_of_ble_eq_true rfl) (fun G p e R s m args below meth c C hini => ?_)
  unfold fX11_shift
  refine zlocs (lb := [(0, zR x0), (1, zI x1), (2, zI x2), (3, zI x3), (4, zI x4), (5, zI x5)]) ⟨rfl, rfl, rfl, rfl, rfl, rfl, trivial⟩ ?_
  refine z_iload_n C (i := 1) (pc' := 1) dX11_shift_0 rfl rfl rfl ?_
  refine z_callS1 C (pc' := 4) lsRX11_108 lc_X11_isShelf rfl dX11_shift_1 rfl (by decide) (rX11_isShelf l w x1 u0) rfl (Nat.le_of_ble_eq_true rfl) (fun v1 u2 => ?_)
  refine z_if_eq C (pc' := 14) (pf := 7) dX11_shift_4 rfl rfl (fun _ => ?_) (fun _ => ?_)
  ·
    refine z_iconst C (pc' := 15) dX11_shift_14 kc_m1 rfl ?_
    exact z_ireturn C dX11_shift_15
  ·
    refine z_iload_n C (i := 3) (pc' := 8) dX11_shift_7 rfl rfl rfl ?_
    refine z_callS1 C (pc' := 11) lsRX11_108 lc_X11_isShelf rfl dX11_shift_8 rfl (by decide) (rX11_isShelf l w x3 u2) rfl (Nat.le_of_ble_eq_true rfl) (fun v3 u4 => ?_)
    refine z_if_ne C (pc' := 16) (pf := 14) dX11_shift_11 rfl rfl (fun _ => ?_) (fun _ => ?_)
    ·
      refine z_aload_n C (i := 0) (pc' := 17) dX11_shift_16 rfl rfl rfl ?_
      refine z_getfR C (pc' := 20) flRX11_65 dX11_shift_17 rfl (fun v5 => ?_)
      refine z_iload_n C (i := 1) (pc' := 21) dX11_shift_20 rfl rfl rfl ?_
      refine z_iald C (pc' := 22) dX11_shift_21 rfl (fun v6 => ?_)
      refine z_if_lt C (pc' := 34) (pf := 25) dX11_shift_22 rfl rfl (fun _ => ?_) (fun _ => ?_)
      ·
        refine z_bipush C (pc' := 36) dX11_shift_34 kb_m11 rfl ?_
        exact z_ireturn C dX11_shift_36
      ·
        refine z_aload_n C (i := 0) (pc' := 26) dX11_shift_25 rfl rfl rfl ?_
        refine z_getfR C (pc' := 29) flRX11_65 dX11_shift_26 rfl (fun v7 => ?_)
        refine z_iload_n C (i := 3) (pc' := 30) dX11_shift_29 rfl rfl rfl ?_
        refine z_iald C (pc' := 31) dX11_shift_30 rfl (fun v8 => ?_)
        refine z_if_ge C (pc' := 37) (pf := 34) dX11_shift_31 rfl rfl (fun _ => ?_) (fun _ => ?_)
        ·
          refine z_aload_n C (i := 0) (pc' := 38) dX11_shift_37 rfl rfl rfl ?_
          refine z_getfR C (pc' := 41) flRX11_65 dX11_shift_38 rfl (fun v9 => ?_)
          refine z_iload_n C (i := 1) (pc' := 42) dX11_shift_41 rfl rfl rfl ?_
          refine z_iald C (pc' := 43) dX11_shift_42 rfl (fun v10 => ?_)
          refine z_bipush C (pc' := 45) dX11_shift_43 kb_50 rfl ?_
          refine z_icmp_lt C (pc' := 63) (pf := 48) dX11_shift_45 rfl rfl (fun _ => ?_) (fun _ => ?_)
          ·
            refine z_bipush C (pc' := 65) dX11_shift_63 kb_m12 rfl ?_
            exact z_ireturn C dX11_shift_65
          ·
            refine z_aload_n C (i := 0) (pc' := 49) dX11_shift_48 rfl rfl rfl ?_
            refine z_getfR C (pc' := 52) flRX11_65 dX11_shift_49 rfl (fun v11 => ?_)
            refine z_iload_n C (i := 1) (pc' := 53) dX11_shift_52 rfl rfl rfl ?_
            refine z_iald C (pc' := 54) dX11_shift_53 rfl (fun v12 => ?_)
            refine z_aload_n C (i := 0) (pc' := 55) dX11_shift_54 rfl rfl rfl ?_
            refine z_getfR C (pc' := 58) flRX11_65 dX11_shift_55 rfl (fun v13 => ?_)
            refine z_iload_n C (i := 3) (pc' := 59) dX11_shift_58 rfl rfl rfl ?_
            refine z_iald C (pc' := 60) dX11_shift_59 rfl (fun v14 => ?_)
            refine z_icmp_eq C (pc' := 66) (pf := 63) dX11_shift_60 rfl rfl (fun _ => ?_) (fun _ => ?_)
            ·
              refine z_iload C (pc' := 68) dX11_shift_66 rfl rfl ?_
              refine z_if_lt C (pc' := 107) (pf := 71) dX11_shift_68 rfl rfl (fun _ => ?_) (fun _ => ?_)
              ·
                refine z_bipush C (pc' := 109) dX11_shift_107 kb_m13 rfl ?_
                exact z_ireturn C dX11_shift_109
              ·
                refine z_iload_n C (i := 2) (pc' := 72) dX11_shift_71 rfl rfl rfl ?_
                refine z_if_lt C (pc' := 107) (pf := 75) dX11_shift_72 rfl rfl (fun _ => ?_) (fun _ => ?_)
                ·
                  refine z_bipush C (pc' := 109) dX11_shift_107 kb_m13 rfl ?_
                  exact z_ireturn C dX11_shift_109
                ·
                  refine z_iload C (pc' := 77) dX11_shift_75 rfl rfl ?_
                  refine z_if_lt C (pc' := 107) (pf := 80) dX11_shift_77 rfl rfl (fun _ => ?_) (fun _ => ?_)
                  ·
                    refine z_bipush C (pc' := 109) dX11_shift_107 kb_m13 rfl ?_
                    exact z_ireturn C dX11_shift_109
                  ·
                    refine z_iload_n C (i := 2) (pc' := 81) dX11_shift_80 rfl rfl rfl ?_
                    refine z_aload_n C (i := 0) (pc' := 82) dX11_shift_81 rfl rfl rfl ?_
                    refine z_getfR C (pc' := 85) flRX11_68 dX11_shift_82 rfl (fun v15 => ?_)
                    refine z_iload_n C (i := 1) (pc' := 86) dX11_shift_85 rfl rfl rfl ?_
                    refine z_iald C (pc' := 87) dX11_shift_86 rfl (fun v16 => ?_)
                    refine z_iload C (pc' := 89) dX11_shift_87 rfl rfl ?_
                    refine z_isub C (pc' := 90) dX11_shift_89 rfl ?_
                    refine z_icmp_gt C (pc' := 107) (pf := 93) dX11_shift_90 rfl rfl (fun _ => ?_) (fun _ => ?_)
                    ·
                      refine z_bipush C (pc' := 109) dX11_shift_107 kb_m13 rfl ?_
                      exact z_ireturn C dX11_shift_109
                    ·
                      refine z_iload C (pc' := 95) dX11_shift_93 rfl rfl ?_
                      refine z_aload_n C (i := 0) (pc' := 96) dX11_shift_95 rfl rfl rfl ?_
                      refine z_getfR C (pc' := 99) flRX11_68 dX11_shift_96 rfl (fun v17 => ?_)
                      refine z_iload_n C (i := 3) (pc' := 100) dX11_shift_99 rfl rfl rfl ?_
                      refine z_iald C (pc' := 101) dX11_shift_100 rfl (fun v18 => ?_)
                      refine z_iload C (pc' := 103) dX11_shift_101 rfl rfl ?_
                      refine z_isub C (pc' := 104) dX11_shift_103 rfl ?_
                      refine z_icmp_le C (pc' := 110) (pf := 107) dX11_shift_104 rfl rfl (fun _ => ?_) (fun _ => ?_)
                      ·
                        refine z_iconst C (pc' := 111) dX11_shift_110 kc_0 rfl ?_
                        refine z_istore C (i := 6) (la' := [(6, zI 0), (0, zR x0), (1, zI x1), (2, zI x2), (3, zI x3), (4, zI x4), (5, zI x5)]) (pc' := 113) dX11_shift_111 (by decide) rfl rfl ?_
                        refine zlocs (lb := [(0, zR x0), (1, zI x1), (2, zI x2), (3, zI x3), (4, zI x4), (5, zI x5), (6, zI 0)]) ⟨rfl, rfl, rfl, rfl, rfl, rfl, rfl, trivial⟩ ?_
                        refine zlp_ind (fun (f : Int → zMem → zRs) => ∀ (v19 : Int) (u20 : zMem), zSim G p l e R s m args below meth c w 7 (znc u0) (zM w 1 (znc u0) below args s) 113 [(0, zR x0), (1, zI x1), (2, zI x2), (3, zI x3), (4, zI x4), (5, zI x5), (6, zI v19)] [] u20 (f v19 u20)) (fun _ _ => znone) (fun k21 hk21 v19 u20 => ?_) _ _ _
                        refine z_iload C (pc' := 115) dX11_shift_113 rfl rfl ?_
                        refine z_iload C (pc' := 117) dX11_shift_115 rfl rfl ?_
                        refine z_icmp_ge C (pc' := 147) (pf := 120) dX11_shift_117 rfl rfl (fun _ => ?_) (fun _ => ?_)
                        ·
                          refine z_iconst C (pc' := 148) dX11_shift_147 kc_0 rfl ?_
                          refine z_istore C (i := 6) (la' := [(6, zI 0), (0, zR x0), (1, zI x1), (2, zI x2), (3, zI x3), (4, zI x4), (5, zI x5)]) (pc' := 150) dX11_shift_148 (by decide) rfl rfl ?_
                          refine zlocs (lb := [(0, zR x0), (3, zI x3), (4, zI x4), (5, zI x5), (6, zI 0)]) ⟨rfl, rfl, rfl, rfl, rfl, trivial⟩ ?_
                          refine zlp_ind (fun (f : Int → zMem → zRs) => ∀ (v22 : Int) (u23 : zMem), zSim G p l e R s m args below meth c w 7 (znc u0) (zM w 1 (znc u0) below args s) 150 [(0, zR x0), (3, zI x3), (4, zI x4), (5, zI x5), (6, zI v22)] [] u23 (f v22 u23)) (fun _ _ => znone) (fun k24 hk24 v22 u23 => ?_) _ _ _
                          refine z_iload C (pc' := 152) dX11_shift_150 rfl rfl ?_
                          refine z_iload C (pc' := 154) dX11_shift_152 rfl rfl ?_
                          refine z_icmp_ge C (pc' := 185) (pf := 157) dX11_shift_154 rfl rfl (fun _ => ?_) (fun _ => ?_)
                          ·
                            refine z_iload C (pc' := 187) dX11_shift_185 rfl rfl ?_
                            exact z_ireturn C dX11_shift_187
                          ·
                            refine z_aload_n C (i := 0) (pc' := 158) dX11_shift_157 rfl rfl rfl ?_
                            refine z_getfR C (pc' := 161) flRX11_71 dX11_shift_158 rfl (fun v25 => ?_)
                            refine z_bipush C (pc' := 163) dX11_shift_161 kb_60 rfl ?_
                            refine z_iload_n C (i := 3) (pc' := 164) dX11_shift_163 rfl rfl rfl ?_
                            refine z_imul C (pc' := 165) dX11_shift_164 rfl ?_
                            refine z_iload C (pc' := 167) dX11_shift_165 rfl rfl ?_
                            refine z_iadd C (pc' := 168) dX11_shift_167 rfl ?_
                            refine z_iload C (pc' := 170) dX11_shift_168 rfl rfl ?_
                            refine z_iadd C (pc' := 171) dX11_shift_170 rfl ?_
                            refine z_aload_n C (i := 0) (pc' := 172) dX11_shift_171 rfl rfl rfl ?_
                            refine z_getfR C (pc' := 175) flRX11_75 dX11_shift_172 rfl (fun v26 => ?_)
                            refine z_iload C (pc' := 177) dX11_shift_175 rfl rfl ?_
                            refine z_lald C (pc' := 178) dX11_shift_177 rfl (fun v27 => ?_)
                            refine z_last C (pc' := 179) dX11_shift_178 rfl (fun u28 => ?_)
                            refine z_iinc C (i := 6) (la' := [(6, zI (zw32 (v22 + 1))), (0, zR x0), (3, zI x3), (4, zI x4), (5, zI x5)]) (pc' := 182) dX11_shift_179 rfl (by decide) rfl rfl ?_
                            refine z_goto C (pc' := 150) dX11_shift_182 rfl ?_
                            exact zlocs (lb := [(0, zR x0), (3, zI x3), (4, zI x4), (5, zI x5), (6, zI (zw32 (v22 + 1)))]) ⟨rfl, rfl, rfl, rfl, rfl, trivial⟩ (hk24 _ _)
                        ·
                          refine z_aload_n C (i := 0) (pc' := 121) dX11_shift_120 rfl rfl rfl ?_
                          refine z_getfR C (pc' := 124) flRX11_75 dX11_shift_121 rfl (fun v29 => ?_)
                          refine z_iload C (pc' := 126) dX11_shift_124 rfl rfl ?_
                          refine z_aload_n C (i := 0) (pc' := 127) dX11_shift_126 rfl rfl rfl ?_
                          refine z_getfR C (pc' := 130) flRX11_71 dX11_shift_127 rfl (fun v30 => ?_)
                          refine z_bipush C (pc' := 132) dX11_shift_130 kb_60 rfl ?_
                          refine z_iload_n C (i := 1) (pc' := 133) dX11_shift_132 rfl rfl rfl ?_
                          refine z_imul C (pc' := 134) dX11_shift_133 rfl ?_
                          refine z_iload_n C (i := 2) (pc' := 135) dX11_shift_134 rfl rfl rfl ?_
                          refine z_iadd C (pc' := 136) dX11_shift_135 rfl ?_
                          refine z_iload C (pc' := 138) dX11_shift_136 rfl rfl ?_
                          refine z_iadd C (pc' := 139) dX11_shift_138 rfl ?_
                          refine z_lald C (pc' := 140) dX11_shift_139 rfl (fun v31 => ?_)
                          refine z_last C (pc' := 141) dX11_shift_140 rfl (fun u32 => ?_)
                          refine z_iinc C (i := 6) (la' := [(6, zI (zw32 (v19 + 1))), (0, zR x0), (1, zI x1), (2, zI x2), (3, zI x3), (4, zI x4), (5, zI x5)]) (pc' := 144) dX11_shift_141 rfl (by decide) rfl rfl ?_
                          refine z_goto C (pc' := 113) dX11_shift_144 rfl ?_
                          exact zlocs (lb := [(0, zR x0), (1, zI x1), (2, zI x2), (3, zI x3), (4, zI x4), (5, zI x5), (6, zI (zw32 (v19 + 1)))]) ⟨rfl, rfl, rfl, rfl, rfl, rfl, rfl, trivial⟩ (hk21 _ _)
                      ·
                        refine z_bipush C (pc' := 109) dX11_shift_107 kb_m13 rfl ?_
                        exact z_ireturn C dX11_shift_109
            ·
              refine z_bipush C (pc' := 65) dX11_shift_63 kb_m12 rfl ?_
              exact z_ireturn C dX11_shift_65
        ·
          refine z_bipush C (pc' := 36) dX11_shift_34 kb_m11 rfl ?_
          exact z_ireturn C dX11_shift_36
    ·
      refine z_iconst C (pc' := 15) dX11_shift_14 kc_m1 rfl ?_
      exact z_ireturn C dX11_shift_15
def fX11_taken (x0 x1 x2 : Int) (u0 : zMem) : zRs := zcall (fX11_isShelf x1 u0) (fun v1 u2 => if v1 = 0 then (some ((-1), u2)) else (zcall (fX11_within x2 0 7 u2) (fun v3 u4 => if v3 ≠ 0 then (zgf 11 33 x0 u4 (fun v5 => zald 20 v5 x1 u4 (fun v6 => if v6 ≥ 0 then (zgf 11 33 x0 u4 (fun v7 => zald 20 v7 x1 u4 (fun v8 => if v8 < 50 then (zgf 11 33 x0 u4 (fun v9 => zald 20 v9 x1 u4 (fun v10 => zvc 11 x0 (fX11_kindOf x0 v10 u4) (fun v11 u12 => zlp (fun _ _ => none) (fun k15 (v13 : Int) (u14 : zMem) => zjn (fun (u16 : zMem) => if v13 ≠ x2 then (some ((-12), u16)) else (zgf 11 33 x0 u16 (fun v18 => zald 20 v18 x1 u16 (fun v19 => zvc 11 x0 (fX11_kindOf x0 v19 u16) (fun v20 u21 => some (v20, u21)))))) (fun k17 => if v13 = x2 then (k17 u14) else (if v13 ≤ 0 then (k17 u14) else (zcall (fX11_above v13 u14) (fun v22 u23 => k15 v22 u23))))) 1000000 v11 u12)))) else (some ((-12), u4))))) else (some ((-11), u4))))) else (some ((-1), u4)))))
set_option maxRecDepth 100000 in
set_option maxHeartbeats 4000000 in
theorem rX11_taken (l : Launch) (w : zW) (x0 x1 x2 : Int) (u0 : zMem) : zSpc l w 3 yX11_taken cX11_taken 4 (some .int) 1 [zR x0, zI x1, zI x2] u0 (fX11_taken x0 x1 x2 u0) := by
  refine zSpc_of (own := RX11) pnRX11 rfl (Nat.le_of_ble_eq_true rfl) (fun G p e R s m args below meth c C hini => ?_)
  unfold fX11_taken
  refine zlocs (lb := [(0, zR x0), (1, zI x1), (2, zI x2)]) ⟨rfl, rfl, rfl, trivial⟩ ?_
  refine z_iload_n C (i := 1) (pc' := 1) dX11_taken_0 rfl rfl rfl ?_
  refine z_callS1 C (pc' := 4) lsRX11_108 lc_X11_isShelf rfl dX11_taken_1 rfl (by decide) (rX11_isShelf l w x1 u0) rfl (Nat.le_of_ble_eq_true rfl) (fun v1 u2 => ?_)
  refine z_if_eq C (pc' := 19) (pf := 7) dX11_taken_4 rfl rfl (fun _ => ?_) (fun _ => ?_)
  ·
    refine z_iconst C (pc' := 20) dX11_taken_19 kc_m1 rfl ?_
    exact z_ireturn C dX11_taken_20
  ·
    refine z_iload_n C (i := 2) (pc' := 8) dX11_taken_7 rfl rfl rfl ?_
    refine z_i2l C (pc' := 9) dX11_taken_8 rfl ?_
    refine z_lconst C (pc' := 10) dX11_taken_9 kl_0 rfl ?_
    refine z_ldc2 C (pc' := 13) dX11_taken_10 wlRX11_96 kj_7 rfl ?_
    refine z_callS1 C (pc' := 16) lsRX11_88 lc_X11_within rfl dX11_taken_13 rfl (by decide) (rX11_within l w x2 0 7 u2) rfl (Nat.le_of_ble_eq_true rfl) (fun v3 u4 => ?_)
    refine z_if_ne C (pc' := 21) (pf := 19) dX11_taken_16 rfl rfl (fun _ => ?_) (fun _ => ?_)
    ·
      refine z_aload_n C (i := 0) (pc' := 22) dX11_taken_21 rfl rfl rfl ?_
      refine z_getfR C (pc' := 25) flRX11_65 dX11_taken_22 rfl (fun v5 => ?_)
      refine z_iload_n C (i := 1) (pc' := 26) dX11_taken_25 rfl rfl rfl ?_
      refine z_iald C (pc' := 27) dX11_taken_26 rfl (fun v6 => ?_)
      refine z_if_ge C (pc' := 33) (pf := 30) dX11_taken_27 rfl rfl (fun _ => ?_) (fun _ => ?_)
      ·
        refine z_aload_n C (i := 0) (pc' := 34) dX11_taken_33 rfl rfl rfl ?_
        refine z_getfR C (pc' := 37) flRX11_65 dX11_taken_34 rfl (fun v7 => ?_)
        refine z_iload_n C (i := 1) (pc' := 38) dX11_taken_37 rfl rfl rfl ?_
        refine z_iald C (pc' := 39) dX11_taken_38 rfl (fun v8 => ?_)
        refine z_bipush C (pc' := 41) dX11_taken_39 kb_50 rfl ?_
        refine z_icmp_lt C (pc' := 47) (pf := 44) dX11_taken_41 rfl rfl (fun _ => ?_) (fun _ => ?_)
        ·
          refine z_aload_n C (i := 0) (pc' := 48) dX11_taken_47 rfl rfl rfl ?_
          refine z_aload_n C (i := 0) (pc' := 49) dX11_taken_48 rfl rfl rfl ?_
          refine z_getfR C (pc' := 52) flRX11_65 dX11_taken_49 rfl (fun v9 => ?_)
          refine z_iload_n C (i := 1) (pc' := 53) dX11_taken_52 rfl rfl rfl ?_
          refine z_iald C (pc' := 54) dX11_taken_53 rfl (fun v10 => ?_)
          refine z_callV1 C (pc' := 57) lvRX11_304 lc_X11_kindOf rfl dX11_taken_54 rfl (by decide) (rX11_kindOf l w x0 v10 u4) rfl (Nat.le_of_ble_eq_true rfl) (fun v11 u12 => ?_)
          refine z_istore_n C (i := 3) (la' := [(3, zI v11), (0, zR x0), (1, zI x1), (2, zI x2)]) (pc' := 58) dX11_taken_57 rfl (by decide) rfl rfl ?_
          refine zlocs (lb := [(0, zR x0), (1, zI x1), (2, zI x2), (3, zI v11)]) ⟨rfl, rfl, rfl, rfl, trivial⟩ ?_
          refine zlp_ind (fun (f : Int → zMem → zRs) => ∀ (v13 : Int) (u14 : zMem), zSim G p l e R s m args below meth c w 4 (znc u0) (zM w 1 (znc u0) below args s) 58 [(0, zR x0), (1, zI x1), (2, zI x2), (3, zI v13)] [] u14 (f v13 u14)) (fun _ _ => znone) (fun k15 hk15 v13 u14 => ?_) _ _ _
          refine z_iload_n C (i := 3) (pc' := 59) dX11_taken_58 rfl rfl rfl ?_
          refine z_iload_n C (i := 2) (pc' := 60) dX11_taken_59 rfl rfl rfl ?_
          refine zjoin (P := fun (f : zMem → zRs) => ∀ (u16 : zMem), zSim G p l e R s m args below meth c w 4 (znc u0) (zM w 1 (znc u0) below args s) 75 [(0, zR x0), (1, zI x1), (2, zI x2), (3, zI v13)] [] u16 (f u16)) (fun u16 => ?_) (fun k17 hk17 => ?_)
          ·
            refine z_iload_n C (i := 3) (pc' := 76) dX11_taken_75 rfl rfl rfl ?_
            refine z_iload_n C (i := 2) (pc' := 77) dX11_taken_76 rfl rfl rfl ?_
            refine z_icmp_ne C (pc' := 93) (pf := 80) dX11_taken_77 rfl rfl (fun _ => ?_) (fun _ => ?_)
            ·
              refine z_bipush C (pc' := 95) dX11_taken_93 kb_m12 rfl ?_
              exact z_ireturn C dX11_taken_95
            ·
              refine z_aload_n C (i := 0) (pc' := 81) dX11_taken_80 rfl rfl rfl ?_
              refine z_aload_n C (i := 0) (pc' := 82) dX11_taken_81 rfl rfl rfl ?_
              refine z_getfR C (pc' := 85) flRX11_65 dX11_taken_82 rfl (fun v18 => ?_)
              refine z_iload_n C (i := 1) (pc' := 86) dX11_taken_85 rfl rfl rfl ?_
              refine z_iald C (pc' := 87) dX11_taken_86 rfl (fun v19 => ?_)
              refine z_callV1 C (pc' := 90) lvRX11_304 lc_X11_kindOf rfl dX11_taken_87 rfl (by decide) (rX11_kindOf l w x0 v19 u16) rfl (Nat.le_of_ble_eq_true rfl) (fun v20 u21 => ?_)
              refine z_goto C (pc' := 95) dX11_taken_90 rfl ?_
              exact z_ireturn C dX11_taken_95
          ·
            refine z_icmp_eq C (pc' := 75) (pf := 63) dX11_taken_60 rfl rfl (fun _ => ?_) (fun _ => ?_)
            ·
              exact zlocs (lb := [(0, zR x0), (1, zI x1), (2, zI x2), (3, zI v13)]) ⟨rfl, rfl, rfl, rfl, trivial⟩ (hk17 _)
            ·
              refine z_iload_n C (i := 3) (pc' := 64) dX11_taken_63 rfl rfl rfl ?_
              refine z_if_le C (pc' := 75) (pf := 67) dX11_taken_64 rfl rfl (fun _ => ?_) (fun _ => ?_)
              ·
                exact zlocs (lb := [(0, zR x0), (1, zI x1), (2, zI x2), (3, zI v13)]) ⟨rfl, rfl, rfl, rfl, trivial⟩ (hk17 _)
              ·
                refine z_iload_n C (i := 3) (pc' := 68) dX11_taken_67 rfl rfl rfl ?_
                refine z_callS1 C (pc' := 71) lsRX11_307 lc_X11_above rfl dX11_taken_68 rfl (by decide) (rX11_above l w v13 u14) rfl (Nat.le_of_ble_eq_true rfl) (fun v22 u23 => ?_)
                refine z_istore_n C (i := 3) (la' := [(3, zI v22), (0, zR x0), (1, zI x1), (2, zI x2)]) (pc' := 72) dX11_taken_71 rfl (by decide) rfl rfl ?_
                refine z_goto C (pc' := 58) dX11_taken_72 rfl ?_
                exact zlocs (lb := [(0, zR x0), (1, zI x1), (2, zI x2), (3, zI v22)]) ⟨rfl, rfl, rfl, rfl, trivial⟩ (hk15 _ _)
        ·
          refine z_bipush C (pc' := 46) dX11_taken_44 kb_m12 rfl ?_
          exact z_ireturn C dX11_taken_46
      ·
        refine z_bipush C (pc' := 32) dX11_taken_30 kb_m11 rfl ?_
        exact z_ireturn C dX11_taken_32
    ·
      refine z_iconst C (pc' := 20) dX11_taken_19 kc_m1 rfl ?_
      exact z_ireturn C dX11_taken_20
def fX11_count (x0 x1 : Int) (u0 : zMem) : zRs := if x1 = 0 then (zgf 11 6 x0 u0 (fun v2 => some (v2, u0))) else (if x1 = 1 then (zgf 11 9 x0 u0 (fun v4 => some (v4, u0))) else (if x1 = 2 then (zgf 11 20 x0 u0 (fun v6 => some (v6, u0))) else (if x1 = 3 then (zgf 11 8 x0 u0 (fun v8 => some (v8, u0))) else (if x1 = 4 then (zgf 11 5 x0 u0 (fun v10 => some (v10, u0))) else (if x1 = 5 then (zgf 11 27 x0 u0 (fun v12 => some (v12, u0))) else (if x1 = 6 then (zgf 11 30 x0 u0 (fun v14 => some (v14, u0))) else (some ((-1), u0))))))))
set_option maxRecDepth 100000 in
set_option maxHeartbeats 4000000 in
theorem rX11_count (l : Launch) (w : zW) (x0 x1 : Int) (u0 : zMem) : zSpc l w 1 yX11_count cX11_count 2 (some .int) 1 [zR x0, zI x1] u0 (fX11_count x0 x1 u0) := by
  refine zSpc_of (own := RX11) pnRX11 rfl (Nat.le_of_ble_eq_true rfl) (fun G p e R s m args below meth c C hini => ?_)
  unfold fX11_count
  refine zlocs (lb := [(0, zR x0), (1, zI x1)]) ⟨rfl, rfl, trivial⟩ ?_
  refine z_iload_n C (i := 1) (pc' := 1) dX11_count_0 rfl rfl rfl ?_
  refine z_tcase C (pc' := 44) dX11_count_1 0 (by decide) (by decide) rfl rfl (fun _ => ?_) (fun h1 => ?_)
  ·
    refine z_aload_n C (i := 0) (pc' := 45) dX11_count_44 rfl rfl rfl ?_
    refine z_getf C (pc' := 48) flRX11_85 dX11_count_45 rfl (fun v2 => ?_)
    exact z_ireturn C dX11_count_48
  ·
    refine z_tcase C (pc' := 49) dX11_count_1 1 (by decide) (by decide) rfl rfl (fun _ => ?_) (fun h3 => ?_)
    ·
      refine z_aload_n C (i := 0) (pc' := 50) dX11_count_49 rfl rfl rfl ?_
      refine z_getf C (pc' := 53) flRX11_127 dX11_count_50 rfl (fun v4 => ?_)
      exact z_ireturn C dX11_count_53
    ·
      refine z_tcase C (pc' := 54) dX11_count_1 2 (by decide) (by decide) rfl rfl (fun _ => ?_) (fun h5 => ?_)
      ·
        refine z_aload_n C (i := 0) (pc' := 55) dX11_count_54 rfl rfl rfl ?_
        refine z_getf C (pc' := 58) flRX11_190 dX11_count_55 rfl (fun v6 => ?_)
        exact z_ireturn C dX11_count_58
      ·
        refine z_tcase C (pc' := 59) dX11_count_1 3 (by decide) (by decide) rfl rfl (fun _ => ?_) (fun h7 => ?_)
        ·
          refine z_aload_n C (i := 0) (pc' := 60) dX11_count_59 rfl rfl rfl ?_
          refine z_getf C (pc' := 63) flRX11_132 dX11_count_60 rfl (fun v8 => ?_)
          exact z_ireturn C dX11_count_63
        ·
          refine z_tcase C (pc' := 64) dX11_count_1 4 (by decide) (by decide) rfl rfl (fun _ => ?_) (fun h9 => ?_)
          ·
            refine z_aload_n C (i := 0) (pc' := 65) dX11_count_64 rfl rfl rfl ?_
            refine z_getf C (pc' := 68) flRX11_78 dX11_count_65 rfl (fun v10 => ?_)
            exact z_ireturn C dX11_count_68
          ·
            refine z_tcase C (pc' := 69) dX11_count_1 5 (by decide) (by decide) rfl rfl (fun _ => ?_) (fun h11 => ?_)
            ·
              refine z_aload_n C (i := 0) (pc' := 70) dX11_count_69 rfl rfl rfl ?_
              refine z_getf C (pc' := 73) flRX11_265 dX11_count_70 rfl (fun v12 => ?_)
              exact z_ireturn C dX11_count_73
            ·
              refine z_tcase C (pc' := 74) dX11_count_1 6 (by decide) (by decide) rfl rfl (fun _ => ?_) (fun h13 => ?_)
              ·
                refine z_aload_n C (i := 0) (pc' := 75) dX11_count_74 rfl rfl rfl ?_
                refine z_getf C (pc' := 78) flRX11_268 dX11_count_75 rfl (fun v14 => ?_)
                exact z_ireturn C dX11_count_78
              ·
                refine z_tdef C (pc' := 79) dX11_count_1 (by omega) rfl ?_
                refine z_iconst C (pc' := 80) dX11_count_79 kc_m1 rfl ?_
                exact z_ireturn C dX11_count_80

theorem dM_init_0 : decode cM_init 0 = .ok (.aload_n 0, 1) := by decide +kernel
theorem dM_init_1 : decode cM_init 1 = .ok (.invokespecial 1, 3) := by decide +kernel
theorem dM_init_4 : decode cM_init 4 = .ok (.aload_n 0, 1) := by decide +kernel
theorem dM_init_5 : decode cM_init 5 = .ok (.bipush 40, 2) := by decide +kernel
theorem dM_init_7 : decode cM_init 7 = .ok (.newarray .int, 2) := by decide +kernel
theorem dM_init_9 : decode cM_init 9 = .ok (.putfield 7, 3) := by decide +kernel
theorem dM_init_12 : decode cM_init 12 = .ok (.aload_n 0, 1) := by decide +kernel
theorem dM_init_13 : decode cM_init 13 = .ok (.bipush 40, 2) := by decide +kernel
theorem dM_init_15 : decode cM_init 15 = .ok (.newarray .int, 2) := by decide +kernel
theorem dM_init_17 : decode cM_init 17 = .ok (.putfield 13, 3) := by decide +kernel
theorem dM_init_20 : decode cM_init 20 = .ok (.aload_n 0, 1) := by decide +kernel
theorem dM_init_21 : decode cM_init 21 = .ok (.bipush 40, 2) := by decide +kernel
theorem dM_init_23 : decode cM_init 23 = .ok (.newarray .int, 2) := by decide +kernel
theorem dM_init_25 : decode cM_init 25 = .ok (.putfield 16, 3) := by decide +kernel
theorem dM_init_28 : decode cM_init 28 = .ok (.aload_n 0, 1) := by decide +kernel
theorem dM_init_29 : decode cM_init 29 = .ok (.bipush 40, 2) := by decide +kernel
theorem dM_init_31 : decode cM_init 31 = .ok (.newarray .int, 2) := by decide +kernel
theorem dM_init_33 : decode cM_init 33 = .ok (.putfield 19, 3) := by decide +kernel
theorem dM_init_36 : decode cM_init 36 = .ok (.aload_n 0, 1) := by decide +kernel
theorem dM_init_37 : decode cM_init 37 = .ok (.bipush 40, 2) := by decide +kernel
theorem dM_init_39 : decode cM_init 39 = .ok (.newarray .int, 2) := by decide +kernel
theorem dM_init_41 : decode cM_init 41 = .ok (.putfield 22, 3) := by decide +kernel
theorem dM_init_44 : decode cM_init 44 = .ok (.aload_n 0, 1) := by decide +kernel
theorem dM_init_45 : decode cM_init 45 = .ok (.ldc 25, 2) := by decide +kernel
theorem dM_init_47 : decode cM_init 47 = .ok (.newarray .int, 2) := by decide +kernel
theorem dM_init_49 : decode cM_init 49 = .ok (.putfield 26, 3) := by decide +kernel
theorem dM_init_52 : decode cM_init 52 = .ok (.aload_n 0, 1) := by decide +kernel
theorem dM_init_53 : decode cM_init 53 = .ok (.sipush 1600, 3) := by decide +kernel
theorem dM_init_56 : decode cM_init 56 = .ok (.newarray .int, 2) := by decide +kernel
theorem dM_init_58 : decode cM_init 58 = .ok (.putfield 29, 3) := by decide +kernel
theorem dM_init_61 : decode cM_init 61 = .ok (.aload_n 0, 1) := by decide +kernel
theorem dM_init_62 : decode cM_init 62 = .ok (.sipush 1600, 3) := by decide +kernel
theorem dM_init_65 : decode cM_init 65 = .ok (.newarray .boolean, 2) := by decide +kernel
theorem dM_init_67 : decode cM_init 67 = .ok (.putfield 32, 3) := by decide +kernel
theorem dM_init_70 : decode cM_init 70 = .ok (.aload_n 0, 1) := by decide +kernel
theorem dM_init_71 : decode cM_init 71 = .ok (.bipush 40, 2) := by decide +kernel
theorem dM_init_73 : decode cM_init 73 = .ok (.newarray .int, 2) := by decide +kernel
theorem dM_init_75 : decode cM_init 75 = .ok (.putfield 36, 3) := by decide +kernel
theorem dM_init_78 : decode cM_init 78 = .ok (.aload_n 0, 1) := by decide +kernel
theorem dM_init_79 : decode cM_init 79 = .ok (.iconst 1, 1) := by decide +kernel
theorem dM_init_80 : decode cM_init 80 = .ok (.iload_n 1, 1) := by decide +kernel
theorem dM_init_81 : decode cM_init 81 = .ok (.iconst 1, 1) := by decide +kernel
theorem dM_init_82 : decode cM_init 82 = .ok (.isub, 1) := by decide +kernel
theorem dM_init_83 : decode cM_init 83 = .ok (.bipush 15, 2) := by decide +kernel
theorem dM_init_85 : decode cM_init 85 = .ok (.iand, 1) := by decide +kernel
theorem dM_init_86 : decode cM_init 86 = .ok (.iadd, 1) := by decide +kernel
theorem dM_init_87 : decode cM_init 87 = .ok (.putfield 39, 3) := by decide +kernel
theorem dM_init_90 : decode cM_init 90 = .ok (.aload_n 0, 1) := by decide +kernel
theorem dM_init_91 : decode cM_init 91 = .ok (.aload_n 0, 1) := by decide +kernel
theorem dM_init_92 : decode cM_init 92 = .ok (.getfield 39, 3) := by decide +kernel
theorem dM_init_95 : decode cM_init 95 = .ok (.iconst 5, 1) := by decide +kernel
theorem dM_init_96 : decode cM_init 96 = .ok (.if_icmp .le 14, 3) := by decide +kernel
theorem dM_init_99 : decode cM_init 99 = .ok (.iconst 1, 1) := by decide +kernel
theorem dM_init_100 : decode cM_init 100 = .ok (.aload_n 0, 1) := by decide +kernel
theorem dM_init_101 : decode cM_init 101 = .ok (.getfield 39, 3) := by decide +kernel
theorem dM_init_104 : decode cM_init 104 = .ok (.iconst 5, 1) := by decide +kernel
theorem dM_init_105 : decode cM_init 105 = .ok (.isub, 1) := by decide +kernel
theorem dM_init_106 : decode cM_init 106 = .ok (.ishl, 1) := by decide +kernel
theorem dM_init_107 : decode cM_init 107 = .ok (.goto 4, 3) := by decide +kernel
theorem dM_init_110 : decode cM_init 110 = .ok (.iconst 1, 1) := by decide +kernel
theorem dM_init_111 : decode cM_init 111 = .ok (.putfield 43, 3) := by decide +kernel
theorem dM_init_114 : decode cM_init 114 = .ok (.aload_n 0, 1) := by decide +kernel
theorem dM_init_115 : decode cM_init 115 = .ok (.aload_n 0, 1) := by decide +kernel
theorem dM_init_116 : decode cM_init 116 = .ok (.getfield 39, 3) := by decide +kernel
theorem dM_init_119 : decode cM_init 119 = .ok (.iconst 4, 1) := by decide +kernel
theorem dM_init_120 : decode cM_init 120 = .ok (.if_icmp .le 7, 3) := by decide +kernel
theorem dM_init_123 : decode cM_init 123 = .ok (.iconst (-1), 1) := by decide +kernel
theorem dM_init_124 : decode cM_init 124 = .ok (.goto 13, 3) := by decide +kernel
theorem dM_init_127 : decode cM_init 127 = .ok (.iconst 1, 1) := by decide +kernel
theorem dM_init_128 : decode cM_init 128 = .ok (.iconst 1, 1) := by decide +kernel
theorem dM_init_129 : decode cM_init 129 = .ok (.aload_n 0, 1) := by decide +kernel
theorem dM_init_130 : decode cM_init 130 = .ok (.getfield 39, 3) := by decide +kernel
theorem dM_init_133 : decode cM_init 133 = .ok (.ishl, 1) := by decide +kernel
theorem dM_init_134 : decode cM_init 134 = .ok (.ishl, 1) := by decide +kernel
theorem dM_init_135 : decode cM_init 135 = .ok (.iconst 1, 1) := by decide +kernel
theorem dM_init_136 : decode cM_init 136 = .ok (.isub, 1) := by decide +kernel
theorem dM_init_137 : decode cM_init 137 = .ok (.putfield 46, 3) := by decide +kernel
theorem dM_init_140 : decode cM_init 140 = .ok (.return_, 1) := by decide +kernel
theorem dM_thrown_0 : decode cM_thrown 0 = .ok (.aload_n 0, 1) := by decide +kernel
theorem dM_thrown_1 : decode cM_thrown 1 = .ok (.getfield 49, 3) := by decide +kernel
theorem dM_thrown_4 : decode cM_thrown 4 = .ok (.ireturn, 1) := by decide +kernel
theorem dM_encoding_0 : decode cM_encoding 0 = .ok (.lload_n 1, 1) := by decide +kernel
theorem dM_encoding_1 : decode cM_encoding 1 = .ok (.aload_n 0, 1) := by decide +kernel
theorem dM_encoding_2 : decode cM_encoding 2 = .ok (.getfield 39, 3) := by decide +kernel
theorem dM_encoding_5 : decode cM_encoding 5 = .ok (.lshr, 1) := by decide +kernel
theorem dM_encoding_6 : decode cM_encoding 6 = .ok (.lconst 0, 1) := by decide +kernel
theorem dM_encoding_7 : decode cM_encoding 7 = .ok (.lcmp, 1) := by decide +kernel
theorem dM_encoding_8 : decode cM_encoding 8 = .ok (.ifCond .ne 26, 3) := by decide +kernel
theorem dM_encoding_11 : decode cM_encoding 11 = .ok (.lload_n 3, 1) := by decide +kernel
theorem dM_encoding_12 : decode cM_encoding 12 = .ok (.aload_n 0, 1) := by decide +kernel
theorem dM_encoding_13 : decode cM_encoding 13 = .ok (.getfield 39, 3) := by decide +kernel
theorem dM_encoding_16 : decode cM_encoding 16 = .ok (.lshr, 1) := by decide +kernel
theorem dM_encoding_17 : decode cM_encoding 17 = .ok (.lconst 0, 1) := by decide +kernel
theorem dM_encoding_18 : decode cM_encoding 18 = .ok (.lcmp, 1) := by decide +kernel
theorem dM_encoding_19 : decode cM_encoding 19 = .ok (.ifCond .ne 15, 3) := by decide +kernel
theorem dM_encoding_22 : decode cM_encoding 22 = .ok (.lload_n 3, 1) := by decide +kernel
theorem dM_encoding_23 : decode cM_encoding 23 = .ok (.lload_n 1, 1) := by decide +kernel
theorem dM_encoding_24 : decode cM_encoding 24 = .ok (.ldc2_w 67, 3) := by decide +kernel
theorem dM_encoding_27 : decode cM_encoding 27 = .ok (.lxor, 1) := by decide +kernel
theorem dM_encoding_28 : decode cM_encoding 28 = .ok (.land, 1) := by decide +kernel
theorem dM_encoding_29 : decode cM_encoding 29 = .ok (.lconst 0, 1) := by decide +kernel
theorem dM_encoding_30 : decode cM_encoding 30 = .ok (.lcmp, 1) := by decide +kernel
theorem dM_encoding_31 : decode cM_encoding 31 = .ok (.ifCond .eq 7, 3) := by decide +kernel
theorem dM_encoding_34 : decode cM_encoding 34 = .ok (.iconst 1, 1) := by decide +kernel
theorem dM_encoding_35 : decode cM_encoding 35 = .ok (.goto 4, 3) := by decide +kernel
theorem dM_encoding_38 : decode cM_encoding 38 = .ok (.iconst 0, 1) := by decide +kernel
theorem dM_encoding_39 : decode cM_encoding 39 = .ok (.istore 5, 2) := by decide +kernel
theorem dM_encoding_41 : decode cM_encoding 41 = .ok (.aload_n 0, 1) := by decide +kernel
theorem dM_encoding_42 : decode cM_encoding 42 = .ok (.iload 5, 2) := by decide +kernel
theorem dM_encoding_44 : decode cM_encoding 44 = .ok (.aload_n 0, 1) := by decide +kernel
theorem dM_encoding_45 : decode cM_encoding 45 = .ok (.getfield 52, 3) := by decide +kernel
theorem dM_encoding_48 : decode cM_encoding 48 = .ok (.bipush 40, 2) := by decide +kernel
theorem dM_encoding_50 : decode cM_encoding 50 = .ok (.if_icmp .ne 7, 3) := by decide +kernel
theorem dM_encoding_53 : decode cM_encoding 53 = .ok (.iconst 1, 1) := by decide +kernel
theorem dM_encoding_54 : decode cM_encoding 54 = .ok (.goto 4, 3) := by decide +kernel
theorem dM_encoding_57 : decode cM_encoding 57 = .ok (.iconst 0, 1) := by decide +kernel
theorem dM_encoding_58 : decode cM_encoding 58 = .ok (.iconst 0, 1) := by decide +kernel
theorem dM_encoding_59 : decode cM_encoding 59 = .ok (.invokevirtual 69, 3) := by decide +kernel
theorem dM_encoding_62 : decode cM_encoding 62 = .ok (.ifCond .eq 5, 3) := by decide +kernel
theorem dM_encoding_65 : decode cM_encoding 65 = .ok (.iconst 0, 1) := by decide +kernel
theorem dM_encoding_66 : decode cM_encoding 66 = .ok (.ireturn, 1) := by decide +kernel
theorem dM_encoding_67 : decode cM_encoding 67 = .ok (.aload_n 0, 1) := by decide +kernel
theorem dM_encoding_68 : decode cM_encoding 68 = .ok (.getfield 52, 3) := by decide +kernel
theorem dM_encoding_71 : decode cM_encoding 71 = .ok (.istore 6, 2) := by decide +kernel
theorem dM_encoding_73 : decode cM_encoding 73 = .ok (.aload_n 0, 1) := by decide +kernel
theorem dM_encoding_74 : decode cM_encoding 74 = .ok (.dup, 1) := by decide +kernel
theorem dM_encoding_75 : decode cM_encoding 75 = .ok (.getfield 52, 3) := by decide +kernel
theorem dM_encoding_78 : decode cM_encoding 78 = .ok (.iconst 1, 1) := by decide +kernel
theorem dM_encoding_79 : decode cM_encoding 79 = .ok (.iadd, 1) := by decide +kernel
theorem dM_encoding_80 : decode cM_encoding 80 = .ok (.putfield 52, 3) := by decide +kernel
theorem dM_encoding_83 : decode cM_encoding 83 = .ok (.aload_n 0, 1) := by decide +kernel
theorem dM_encoding_84 : decode cM_encoding 84 = .ok (.getfield 7, 3) := by decide +kernel
theorem dM_encoding_87 : decode cM_encoding 87 = .ok (.iload 6, 2) := by decide +kernel
theorem dM_encoding_89 : decode cM_encoding 89 = .ok (.lload_n 1, 1) := by decide +kernel
theorem dM_encoding_90 : decode cM_encoding 90 = .ok (.l2i, 1) := by decide +kernel
theorem dM_encoding_91 : decode cM_encoding 91 = .ok (.iastore, 1) := by decide +kernel
theorem dM_encoding_92 : decode cM_encoding 92 = .ok (.aload_n 0, 1) := by decide +kernel
theorem dM_encoding_93 : decode cM_encoding 93 = .ok (.getfield 13, 3) := by decide +kernel
theorem dM_encoding_96 : decode cM_encoding 96 = .ok (.iload 6, 2) := by decide +kernel
theorem dM_encoding_98 : decode cM_encoding 98 = .ok (.iconst 0, 1) := by decide +kernel
theorem dM_encoding_99 : decode cM_encoding 99 = .ok (.iastore, 1) := by decide +kernel
theorem dM_encoding_100 : decode cM_encoding 100 = .ok (.aload_n 0, 1) := by decide +kernel
theorem dM_encoding_101 : decode cM_encoding 101 = .ok (.getfield 16, 3) := by decide +kernel
theorem dM_encoding_104 : decode cM_encoding 104 = .ok (.iload 6, 2) := by decide +kernel
theorem dM_encoding_106 : decode cM_encoding 106 = .ok (.iconst 0, 1) := by decide +kernel
theorem dM_encoding_107 : decode cM_encoding 107 = .ok (.iastore, 1) := by decide +kernel
theorem dM_encoding_108 : decode cM_encoding 108 = .ok (.aload_n 0, 1) := by decide +kernel
theorem dM_encoding_109 : decode cM_encoding 109 = .ok (.getfield 19, 3) := by decide +kernel
theorem dM_encoding_112 : decode cM_encoding 112 = .ok (.iload 6, 2) := by decide +kernel
theorem dM_encoding_114 : decode cM_encoding 114 = .ok (.iconst 0, 1) := by decide +kernel
theorem dM_encoding_115 : decode cM_encoding 115 = .ok (.iastore, 1) := by decide +kernel
theorem dM_encoding_116 : decode cM_encoding 116 = .ok (.aload_n 0, 1) := by decide +kernel
theorem dM_encoding_117 : decode cM_encoding 117 = .ok (.getfield 22, 3) := by decide +kernel
theorem dM_encoding_120 : decode cM_encoding 120 = .ok (.iload 6, 2) := by decide +kernel
theorem dM_encoding_122 : decode cM_encoding 122 = .ok (.iconst 0, 1) := by decide +kernel
theorem dM_encoding_123 : decode cM_encoding 123 = .ok (.iastore, 1) := by decide +kernel
theorem dM_encoding_124 : decode cM_encoding 124 = .ok (.iconst 0, 1) := by decide +kernel
theorem dM_encoding_125 : decode cM_encoding 125 = .ok (.istore 7, 2) := by decide +kernel
theorem dM_encoding_127 : decode cM_encoding 127 = .ok (.iload 7, 2) := by decide +kernel
theorem dM_encoding_129 : decode cM_encoding 129 = .ok (.aload_n 0, 1) := by decide +kernel
theorem dM_encoding_130 : decode cM_encoding 130 = .ok (.getfield 43, 3) := by decide +kernel
theorem dM_encoding_133 : decode cM_encoding 133 = .ok (.if_icmp .ge 78, 3) := by decide +kernel
theorem dM_encoding_136 : decode cM_encoding 136 = .ok (.iconst 0, 1) := by decide +kernel
theorem dM_encoding_137 : decode cM_encoding 137 = .ok (.istore 8, 2) := by decide +kernel
theorem dM_encoding_139 : decode cM_encoding 139 = .ok (.iconst 0, 1) := by decide +kernel
theorem dM_encoding_140 : decode cM_encoding 140 = .ok (.istore 9, 2) := by decide +kernel
theorem dM_encoding_142 : decode cM_encoding 142 = .ok (.iload 9, 2) := by decide +kernel
theorem dM_encoding_144 : decode cM_encoding 144 = .ok (.bipush 32, 2) := by decide +kernel
theorem dM_encoding_146 : decode cM_encoding 146 = .ok (.if_icmp .ge 38, 3) := by decide +kernel
theorem dM_encoding_149 : decode cM_encoding 149 = .ok (.iload 8, 2) := by decide +kernel
theorem dM_encoding_151 : decode cM_encoding 151 = .ok (.bipush 32, 2) := by decide +kernel
theorem dM_encoding_153 : decode cM_encoding 153 = .ok (.iload 7, 2) := by decide +kernel
theorem dM_encoding_155 : decode cM_encoding 155 = .ok (.imul, 1) := by decide +kernel
theorem dM_encoding_156 : decode cM_encoding 156 = .ok (.iload 9, 2) := by decide +kernel
theorem dM_encoding_158 : decode cM_encoding 158 = .ok (.iadd, 1) := by decide +kernel
theorem dM_encoding_159 : decode cM_encoding 159 = .ok (.lload_n 1, 1) := by decide +kernel
theorem dM_encoding_160 : decode cM_encoding 160 = .ok (.l2i, 1) := by decide +kernel
theorem dM_encoding_161 : decode cM_encoding 161 = .ok (.iand, 1) := by decide +kernel
theorem dM_encoding_162 : decode cM_encoding 162 = .ok (.lload_n 3, 1) := by decide +kernel
theorem dM_encoding_163 : decode cM_encoding 163 = .ok (.l2i, 1) := by decide +kernel
theorem dM_encoding_164 : decode cM_encoding 164 = .ok (.if_icmp .ne 10, 3) := by decide +kernel
theorem dM_encoding_167 : decode cM_encoding 167 = .ok (.iconst 1, 1) := by decide +kernel
theorem dM_encoding_168 : decode cM_encoding 168 = .ok (.iload 9, 2) := by decide +kernel
theorem dM_encoding_170 : decode cM_encoding 170 = .ok (.ishl, 1) := by decide +kernel
theorem dM_encoding_171 : decode cM_encoding 171 = .ok (.goto 4, 3) := by decide +kernel
theorem dM_encoding_174 : decode cM_encoding 174 = .ok (.iconst 0, 1) := by decide +kernel
theorem dM_encoding_175 : decode cM_encoding 175 = .ok (.ior, 1) := by decide +kernel
theorem dM_encoding_176 : decode cM_encoding 176 = .ok (.istore 8, 2) := by decide +kernel
theorem dM_encoding_178 : decode cM_encoding 178 = .ok (.iinc 9 1, 3) := by decide +kernel
theorem dM_encoding_181 : decode cM_encoding 181 = .ok (.goto (-39), 3) := by decide +kernel
theorem dM_encoding_184 : decode cM_encoding 184 = .ok (.aload_n 0, 1) := by decide +kernel
theorem dM_encoding_185 : decode cM_encoding 185 = .ok (.getfield 26, 3) := by decide +kernel
theorem dM_encoding_188 : decode cM_encoding 188 = .ok (.sipush 2048, 3) := by decide +kernel
theorem dM_encoding_191 : decode cM_encoding 191 = .ok (.iload 6, 2) := by decide +kernel
theorem dM_encoding_193 : decode cM_encoding 193 = .ok (.imul, 1) := by decide +kernel
theorem dM_encoding_194 : decode cM_encoding 194 = .ok (.iload 7, 2) := by decide +kernel
theorem dM_encoding_196 : decode cM_encoding 196 = .ok (.iadd, 1) := by decide +kernel
theorem dM_encoding_197 : decode cM_encoding 197 = .ok (.iload 8, 2) := by decide +kernel
theorem dM_encoding_199 : decode cM_encoding 199 = .ok (.aload_n 0, 1) := by decide +kernel
theorem dM_encoding_200 : decode cM_encoding 200 = .ok (.getfield 46, 3) := by decide +kernel
theorem dM_encoding_203 : decode cM_encoding 203 = .ok (.iand, 1) := by decide +kernel
theorem dM_encoding_204 : decode cM_encoding 204 = .ok (.iastore, 1) := by decide +kernel
theorem dM_encoding_205 : decode cM_encoding 205 = .ok (.iinc 7 1, 3) := by decide +kernel
theorem dM_encoding_208 : decode cM_encoding 208 = .ok (.goto (-81), 3) := by decide +kernel
theorem dM_encoding_211 : decode cM_encoding 211 = .ok (.aload_n 0, 1) := by decide +kernel
theorem dM_encoding_212 : decode cM_encoding 212 = .ok (.iconst 0, 1) := by decide +kernel
theorem dM_encoding_213 : decode cM_encoding 213 = .ok (.putfield 73, 3) := by decide +kernel
theorem dM_encoding_216 : decode cM_encoding 216 = .ok (.iload 6, 2) := by decide +kernel
theorem dM_encoding_218 : decode cM_encoding 218 = .ok (.ireturn, 1) := by decide +kernel
theorem dM_fails_0 : decode cM_fails 0 = .ok (.aload_n 0, 1) := by decide +kernel
theorem dM_fails_1 : decode cM_fails 1 = .ok (.iload_n 1, 1) := by decide +kernel
theorem dM_fails_2 : decode cM_fails 2 = .ok (.ifCond .eq 7, 3) := by decide +kernel
theorem dM_fails_5 : decode cM_fails 5 = .ok (.iconst 1, 1) := by decide +kernel
theorem dM_fails_6 : decode cM_fails 6 = .ok (.goto 20, 3) := by decide +kernel
theorem dM_fails_9 : decode cM_fails 9 = .ok (.iload_n 2, 1) := by decide +kernel
theorem dM_fails_10 : decode cM_fails 10 = .ok (.ifCond .eq 7, 3) := by decide +kernel
theorem dM_fails_13 : decode cM_fails 13 = .ok (.iconst 2, 1) := by decide +kernel
theorem dM_fails_14 : decode cM_fails 14 = .ok (.goto 12, 3) := by decide +kernel
theorem dM_fails_17 : decode cM_fails 17 = .ok (.iload_n 3, 1) := by decide +kernel
theorem dM_fails_18 : decode cM_fails 18 = .ok (.ifCond .eq 7, 3) := by decide +kernel
theorem dM_fails_21 : decode cM_fails 21 = .ok (.iconst 3, 1) := by decide +kernel
theorem dM_fails_22 : decode cM_fails 22 = .ok (.goto 4, 3) := by decide +kernel
theorem dM_fails_25 : decode cM_fails 25 = .ok (.iconst 0, 1) := by decide +kernel
theorem dM_fails_26 : decode cM_fails 26 = .ok (.putfield 49, 3) := by decide +kernel
theorem dM_fails_29 : decode cM_fails 29 = .ok (.aload_n 0, 1) := by decide +kernel
theorem dM_fails_30 : decode cM_fails 30 = .ok (.getfield 49, 3) := by decide +kernel
theorem dM_fails_33 : decode cM_fails 33 = .ok (.ifCond .le 7, 3) := by decide +kernel
theorem dM_fails_36 : decode cM_fails 36 = .ok (.iconst 1, 1) := by decide +kernel
theorem dM_fails_37 : decode cM_fails 37 = .ok (.goto 4, 3) := by decide +kernel
theorem dM_fails_40 : decode cM_fails 40 = .ok (.iconst 0, 1) := by decide +kernel
theorem dM_fails_41 : decode cM_fails 41 = .ok (.ireturn, 1) := by decide +kernel
theorem dM_condition_0 : decode cM_condition 0 = .ok (.aload_n 0, 1) := by decide +kernel
theorem dM_condition_1 : decode cM_condition 1 = .ok (.iload_n 2, 1) := by decide +kernel
theorem dM_condition_2 : decode cM_condition 2 = .ok (.iload_n 3, 1) := by decide +kernel
theorem dM_condition_3 : decode cM_condition 3 = .ok (.invokevirtual 77, 3) := by decide +kernel
theorem dM_condition_6 : decode cM_condition 6 = .ok (.ifCond .eq 24, 3) := by decide +kernel
theorem dM_condition_9 : decode cM_condition 9 = .ok (.iload 4, 2) := by decide +kernel
theorem dM_condition_11 : decode cM_condition 11 = .ok (.iconst 0, 1) := by decide +kernel
theorem dM_condition_12 : decode cM_condition 12 = .ok (.iconst 5, 1) := by decide +kernel
theorem dM_condition_13 : decode cM_condition 13 = .ok (.invokestatic 55, 3) := by decide +kernel
theorem dM_condition_16 : decode cM_condition 16 = .ok (.ifCond .eq 14, 3) := by decide +kernel
theorem dM_condition_19 : decode cM_condition 19 = .ok (.iload 5, 2) := by decide +kernel
theorem dM_condition_21 : decode cM_condition 21 = .ok (.iconst 0, 1) := by decide +kernel
theorem dM_condition_22 : decode cM_condition 22 = .ok (.ldc 81, 2) := by decide +kernel
theorem dM_condition_24 : decode cM_condition 24 = .ok (.invokestatic 55, 3) := by decide +kernel
theorem dM_condition_27 : decode cM_condition 27 = .ok (.ifCond .ne 7, 3) := by decide +kernel
theorem dM_condition_30 : decode cM_condition 30 = .ok (.iconst 1, 1) := by decide +kernel
theorem dM_condition_31 : decode cM_condition 31 = .ok (.goto 4, 3) := by decide +kernel
theorem dM_condition_34 : decode cM_condition 34 = .ok (.iconst 0, 1) := by decide +kernel
theorem dM_condition_35 : decode cM_condition 35 = .ok (.istore 6, 2) := by decide +kernel
theorem dM_condition_37 : decode cM_condition 37 = .ok (.aload_n 0, 1) := by decide +kernel
theorem dM_condition_38 : decode cM_condition 38 = .ok (.aload_n 0, 1) := by decide +kernel
theorem dM_condition_39 : decode cM_condition 39 = .ok (.iload_n 1, 1) := by decide +kernel
theorem dM_condition_40 : decode cM_condition 40 = .ok (.invokevirtual 82, 3) := by decide +kernel
theorem dM_condition_43 : decode cM_condition 43 = .ok (.ifCond .ne 7, 3) := by decide +kernel
theorem dM_condition_46 : decode cM_condition 46 = .ok (.iconst 1, 1) := by decide +kernel
theorem dM_condition_47 : decode cM_condition 47 = .ok (.goto 4, 3) := by decide +kernel
theorem dM_condition_50 : decode cM_condition 50 = .ok (.iconst 0, 1) := by decide +kernel
theorem dM_condition_51 : decode cM_condition 51 = .ok (.iload 6, 2) := by decide +kernel
theorem dM_condition_53 : decode cM_condition 53 = .ok (.aload_n 0, 1) := by decide +kernel
theorem dM_condition_54 : decode cM_condition 54 = .ok (.iload_n 1, 1) := by decide +kernel
theorem dM_condition_55 : decode cM_condition 55 = .ok (.invokevirtual 82, 3) := by decide +kernel
theorem dM_condition_58 : decode cM_condition 58 = .ok (.ifCond .eq 17, 3) := by decide +kernel
theorem dM_condition_61 : decode cM_condition 61 = .ok (.aload_n 0, 1) := by decide +kernel
theorem dM_condition_62 : decode cM_condition 62 = .ok (.getfield 13, 3) := by decide +kernel
theorem dM_condition_65 : decode cM_condition 65 = .ok (.iload_n 1, 1) := by decide +kernel
theorem dM_condition_66 : decode cM_condition 66 = .ok (.iaload, 1) := by decide +kernel
theorem dM_condition_67 : decode cM_condition 67 = .ok (.iconst 4, 1) := by decide +kernel
theorem dM_condition_68 : decode cM_condition 68 = .ok (.if_icmp .ne 7, 3) := by decide +kernel
theorem dM_condition_71 : decode cM_condition 71 = .ok (.iconst 1, 1) := by decide +kernel
theorem dM_condition_72 : decode cM_condition 72 = .ok (.goto 4, 3) := by decide +kernel
theorem dM_condition_75 : decode cM_condition 75 = .ok (.iconst 0, 1) := by decide +kernel
theorem dM_condition_76 : decode cM_condition 76 = .ok (.invokevirtual 69, 3) := by decide +kernel
theorem dM_condition_79 : decode cM_condition 79 = .ok (.ifCond .eq 5, 3) := by decide +kernel
theorem dM_condition_82 : decode cM_condition 82 = .ok (.iconst 0, 1) := by decide +kernel
theorem dM_condition_83 : decode cM_condition 83 = .ok (.ireturn, 1) := by decide +kernel
theorem dM_condition_84 : decode cM_condition 84 = .ok (.aload_n 0, 1) := by decide +kernel
theorem dM_condition_85 : decode cM_condition 85 = .ok (.getfield 13, 3) := by decide +kernel
theorem dM_condition_88 : decode cM_condition 88 = .ok (.iload_n 1, 1) := by decide +kernel
theorem dM_condition_89 : decode cM_condition 89 = .ok (.dup2, 1) := by decide +kernel
theorem dM_condition_90 : decode cM_condition 90 = .ok (.iaload, 1) := by decide +kernel
theorem dM_condition_91 : decode cM_condition 91 = .ok (.iconst 1, 1) := by decide +kernel
theorem dM_condition_92 : decode cM_condition 92 = .ok (.iadd, 1) := by decide +kernel
theorem dM_condition_93 : decode cM_condition 93 = .ok (.iastore, 1) := by decide +kernel
theorem dM_condition_94 : decode cM_condition 94 = .ok (.aload_n 0, 1) := by decide +kernel
theorem dM_condition_95 : decode cM_condition 95 = .ok (.getfield 16, 3) := by decide +kernel
theorem dM_condition_98 : decode cM_condition 98 = .ok (.iload_n 1, 1) := by decide +kernel
theorem dM_condition_99 : decode cM_condition 99 = .ok (.dup2, 1) := by decide +kernel
theorem dM_condition_100 : decode cM_condition 100 = .ok (.iaload, 1) := by decide +kernel
theorem dM_condition_101 : decode cM_condition 101 = .ok (.iload_n 2, 1) := by decide +kernel
theorem dM_condition_102 : decode cM_condition 102 = .ok (.iload_n 3, 1) := by decide +kernel
theorem dM_condition_103 : decode cM_condition 103 = .ok (.invokestatic 86, 3) := by decide +kernel
theorem dM_condition_106 : decode cM_condition 106 = .ok (.ior, 1) := by decide +kernel
theorem dM_condition_107 : decode cM_condition 107 = .ok (.iastore, 1) := by decide +kernel
theorem dM_condition_108 : decode cM_condition 108 = .ok (.iconst 0, 1) := by decide +kernel
theorem dM_condition_109 : decode cM_condition 109 = .ok (.istore 7, 2) := by decide +kernel
theorem dM_condition_111 : decode cM_condition 111 = .ok (.iconst 0, 1) := by decide +kernel
theorem dM_condition_112 : decode cM_condition 112 = .ok (.istore 8, 2) := by decide +kernel
theorem dM_condition_114 : decode cM_condition 114 = .ok (.iload 8, 2) := by decide +kernel
theorem dM_condition_116 : decode cM_condition 116 = .ok (.aload_n 0, 1) := by decide +kernel
theorem dM_condition_117 : decode cM_condition 117 = .ok (.getfield 43, 3) := by decide +kernel
theorem dM_condition_120 : decode cM_condition 120 = .ok (.if_icmp .ge 131, 3) := by decide +kernel
theorem dM_condition_123 : decode cM_condition 123 = .ok (.aload_n 0, 1) := by decide +kernel
theorem dM_condition_124 : decode cM_condition 124 = .ok (.getfield 26, 3) := by decide +kernel
theorem dM_condition_127 : decode cM_condition 127 = .ok (.sipush 2048, 3) := by decide +kernel
theorem dM_condition_130 : decode cM_condition 130 = .ok (.iload_n 1, 1) := by decide +kernel
theorem dM_condition_131 : decode cM_condition 131 = .ok (.imul, 1) := by decide +kernel
theorem dM_condition_132 : decode cM_condition 132 = .ok (.iload 8, 2) := by decide +kernel
theorem dM_condition_134 : decode cM_condition 134 = .ok (.iadd, 1) := by decide +kernel
theorem dM_condition_135 : decode cM_condition 135 = .ok (.iaload, 1) := by decide +kernel
theorem dM_condition_136 : decode cM_condition 136 = .ok (.istore 9, 2) := by decide +kernel
theorem dM_condition_138 : decode cM_condition 138 = .ok (.iconst 0, 1) := by decide +kernel
theorem dM_condition_139 : decode cM_condition 139 = .ok (.istore 10, 2) := by decide +kernel
theorem dM_condition_141 : decode cM_condition 141 = .ok (.iconst 0, 1) := by decide +kernel
theorem dM_condition_142 : decode cM_condition 142 = .ok (.istore 11, 2) := by decide +kernel
theorem dM_condition_144 : decode cM_condition 144 = .ok (.iload 11, 2) := by decide +kernel
theorem dM_condition_146 : decode cM_condition 146 = .ok (.bipush 32, 2) := by decide +kernel
theorem dM_condition_148 : decode cM_condition 148 = .ok (.if_icmp .ge 57, 3) := by decide +kernel
theorem dM_condition_151 : decode cM_condition 151 = .ok (.iload 9, 2) := by decide +kernel
theorem dM_condition_153 : decode cM_condition 153 = .ok (.ifCond .eq 52, 3) := by decide +kernel
theorem dM_condition_156 : decode cM_condition 156 = .ok (.bipush 32, 2) := by decide +kernel
theorem dM_condition_158 : decode cM_condition 158 = .ok (.iload 8, 2) := by decide +kernel
theorem dM_condition_160 : decode cM_condition 160 = .ok (.imul, 1) := by decide +kernel
theorem dM_condition_161 : decode cM_condition 161 = .ok (.iload 11, 2) := by decide +kernel
theorem dM_condition_163 : decode cM_condition 163 = .ok (.iadd, 1) := by decide +kernel
theorem dM_condition_164 : decode cM_condition 164 = .ok (.iload_n 2, 1) := by decide +kernel
theorem dM_condition_165 : decode cM_condition 165 = .ok (.iload_n 3, 1) := by decide +kernel
theorem dM_condition_166 : decode cM_condition 166 = .ok (.invokestatic 86, 3) := by decide +kernel
theorem dM_condition_169 : decode cM_condition 169 = .ok (.iand, 1) := by decide +kernel
theorem dM_condition_170 : decode cM_condition 170 = .ok (.iload_n 2, 1) := by decide +kernel
theorem dM_condition_171 : decode cM_condition 171 = .ok (.ishr, 1) := by decide +kernel
theorem dM_condition_172 : decode cM_condition 172 = .ok (.istore 12, 2) := by decide +kernel
theorem dM_condition_174 : decode cM_condition 174 = .ok (.iload 10, 2) := by decide +kernel
theorem dM_condition_176 : decode cM_condition 176 = .ok (.iload 12, 2) := by decide +kernel
theorem dM_condition_178 : decode cM_condition 178 = .ok (.iload 4, 2) := by decide +kernel
theorem dM_condition_180 : decode cM_condition 180 = .ok (.iload 5, 2) := by decide +kernel
theorem dM_condition_182 : decode cM_condition 182 = .ok (.invokestatic 90, 3) := by decide +kernel
theorem dM_condition_185 : decode cM_condition 185 = .ok (.ifCond .eq 10, 3) := by decide +kernel
theorem dM_condition_188 : decode cM_condition 188 = .ok (.iconst 1, 1) := by decide +kernel
theorem dM_condition_189 : decode cM_condition 189 = .ok (.iload 11, 2) := by decide +kernel
theorem dM_condition_191 : decode cM_condition 191 = .ok (.ishl, 1) := by decide +kernel
theorem dM_condition_192 : decode cM_condition 192 = .ok (.goto 4, 3) := by decide +kernel
theorem dM_condition_195 : decode cM_condition 195 = .ok (.iconst 0, 1) := by decide +kernel
theorem dM_condition_196 : decode cM_condition 196 = .ok (.ior, 1) := by decide +kernel
theorem dM_condition_197 : decode cM_condition 197 = .ok (.istore 10, 2) := by decide +kernel
theorem dM_condition_199 : decode cM_condition 199 = .ok (.iinc 11 1, 3) := by decide +kernel
theorem dM_condition_202 : decode cM_condition 202 = .ok (.goto (-58), 3) := by decide +kernel
theorem dM_condition_205 : decode cM_condition 205 = .ok (.aload_n 0, 1) := by decide +kernel
theorem dM_condition_206 : decode cM_condition 206 = .ok (.getfield 26, 3) := by decide +kernel
theorem dM_condition_209 : decode cM_condition 209 = .ok (.sipush 2048, 3) := by decide +kernel
theorem dM_condition_212 : decode cM_condition 212 = .ok (.iload_n 1, 1) := by decide +kernel
theorem dM_condition_213 : decode cM_condition 213 = .ok (.imul, 1) := by decide +kernel
theorem dM_condition_214 : decode cM_condition 214 = .ok (.iload 8, 2) := by decide +kernel
theorem dM_condition_216 : decode cM_condition 216 = .ok (.iadd, 1) := by decide +kernel
theorem dM_condition_217 : decode cM_condition 217 = .ok (.iload 9, 2) := by decide +kernel
theorem dM_condition_219 : decode cM_condition 219 = .ok (.iload 10, 2) := by decide +kernel
theorem dM_condition_221 : decode cM_condition 221 = .ok (.iand, 1) := by decide +kernel
theorem dM_condition_222 : decode cM_condition 222 = .ok (.iastore, 1) := by decide +kernel
theorem dM_condition_223 : decode cM_condition 223 = .ok (.iload 7, 2) := by decide +kernel
theorem dM_condition_225 : decode cM_condition 225 = .ok (.ifCond .ne 13, 3) := by decide +kernel
theorem dM_condition_228 : decode cM_condition 228 = .ok (.iload 9, 2) := by decide +kernel
theorem dM_condition_230 : decode cM_condition 230 = .ok (.iload 10, 2) := by decide +kernel
theorem dM_condition_232 : decode cM_condition 232 = .ok (.iand, 1) := by decide +kernel
theorem dM_condition_233 : decode cM_condition 233 = .ok (.iload 9, 2) := by decide +kernel
theorem dM_condition_235 : decode cM_condition 235 = .ok (.if_icmp .eq 7, 3) := by decide +kernel
theorem dM_condition_238 : decode cM_condition 238 = .ok (.iconst 1, 1) := by decide +kernel
theorem dM_condition_239 : decode cM_condition 239 = .ok (.goto 4, 3) := by decide +kernel
theorem dM_condition_242 : decode cM_condition 242 = .ok (.iconst 0, 1) := by decide +kernel
theorem dM_condition_243 : decode cM_condition 243 = .ok (.istore 7, 2) := by decide +kernel
theorem dM_condition_245 : decode cM_condition 245 = .ok (.iinc 8 1, 3) := by decide +kernel
theorem dM_condition_248 : decode cM_condition 248 = .ok (.goto (-134), 3) := by decide +kernel
theorem dM_condition_251 : decode cM_condition 251 = .ok (.aload_n 0, 1) := by decide +kernel
theorem dM_condition_252 : decode cM_condition 252 = .ok (.aload_n 0, 1) := by decide +kernel
theorem dM_condition_253 : decode cM_condition 253 = .ok (.getfield 73, 3) := by decide +kernel
theorem dM_condition_256 : decode cM_condition 256 = .ok (.ifCond .eq 12, 3) := by decide +kernel
theorem dM_condition_259 : decode cM_condition 259 = .ok (.iload 7, 2) := by decide +kernel
theorem dM_condition_261 : decode cM_condition 261 = .ok (.ifCond .ne 7, 3) := by decide +kernel
theorem dM_condition_264 : decode cM_condition 264 = .ok (.iconst 1, 1) := by decide +kernel
theorem dM_condition_265 : decode cM_condition 265 = .ok (.goto 4, 3) := by decide +kernel
theorem dM_condition_268 : decode cM_condition 268 = .ok (.iconst 0, 1) := by decide +kernel
theorem dM_condition_269 : decode cM_condition 269 = .ok (.putfield 73, 3) := by decide +kernel
theorem dM_condition_272 : decode cM_condition 272 = .ok (.iload 7, 2) := by decide +kernel
theorem dM_condition_274 : decode cM_condition 274 = .ok (.ireturn, 1) := by decide +kernel
theorem dM_isField_0 : decode cM_isField 0 = .ok (.iload_n 1, 1) := by decide +kernel
theorem dM_isField_1 : decode cM_isField 1 = .ok (.ifCond .lt 20, 3) := by decide +kernel
theorem dM_isField_4 : decode cM_isField 4 = .ok (.iload_n 1, 1) := by decide +kernel
theorem dM_isField_5 : decode cM_isField 5 = .ok (.iload_n 2, 1) := by decide +kernel
theorem dM_isField_6 : decode cM_isField 6 = .ok (.if_icmp .gt 15, 3) := by decide +kernel
theorem dM_isField_9 : decode cM_isField 9 = .ok (.iload_n 2, 1) := by decide +kernel
theorem dM_isField_10 : decode cM_isField 10 = .ok (.aload_n 0, 1) := by decide +kernel
theorem dM_isField_11 : decode cM_isField 11 = .ok (.getfield 39, 3) := by decide +kernel
theorem dM_isField_14 : decode cM_isField 14 = .ok (.if_icmp .ge 7, 3) := by decide +kernel
theorem dM_isField_17 : decode cM_isField 17 = .ok (.iconst 1, 1) := by decide +kernel
theorem dM_isField_18 : decode cM_isField 18 = .ok (.goto 4, 3) := by decide +kernel
theorem dM_isField_21 : decode cM_isField 21 = .ok (.iconst 0, 1) := by decide +kernel
theorem dM_isField_22 : decode cM_isField 22 = .ok (.ireturn, 1) := by decide +kernel
theorem dM_in_0 : decode cM_in 0 = .ok (.iload_n 0, 1) := by decide +kernel
theorem dM_in_1 : decode cM_in 1 = .ok (.iload_n 1, 1) := by decide +kernel
theorem dM_in_2 : decode cM_in 2 = .ok (.if_icmp .lt 12, 3) := by decide +kernel
theorem dM_in_5 : decode cM_in 5 = .ok (.iload_n 0, 1) := by decide +kernel
theorem dM_in_6 : decode cM_in 6 = .ok (.iload_n 2, 1) := by decide +kernel
theorem dM_in_7 : decode cM_in 7 = .ok (.if_icmp .gt 7, 3) := by decide +kernel
theorem dM_in_10 : decode cM_in 10 = .ok (.iconst 1, 1) := by decide +kernel
theorem dM_in_11 : decode cM_in 11 = .ok (.goto 4, 3) := by decide +kernel
theorem dM_in_14 : decode cM_in 14 = .ok (.iconst 0, 1) := by decide +kernel
theorem dM_in_15 : decode cM_in 15 = .ok (.ireturn, 1) := by decide +kernel
theorem dM_is_0 : decode cM_is 0 = .ok (.iload_n 1, 1) := by decide +kernel
theorem dM_is_1 : decode cM_is 1 = .ok (.iconst 0, 1) := by decide +kernel
theorem dM_is_2 : decode cM_is 2 = .ok (.aload_n 0, 1) := by decide +kernel
theorem dM_is_3 : decode cM_is 3 = .ok (.getfield 52, 3) := by decide +kernel
theorem dM_is_6 : decode cM_is 6 = .ok (.iconst 1, 1) := by decide +kernel
theorem dM_is_7 : decode cM_is 7 = .ok (.isub, 1) := by decide +kernel
theorem dM_is_8 : decode cM_is 8 = .ok (.invokestatic 55, 3) := by decide +kernel
theorem dM_is_11 : decode cM_is 11 = .ok (.ireturn, 1) := by decide +kernel
theorem dM_bitsOf_0 : decode cM_bitsOf 0 = .ok (.iconst 1, 1) := by decide +kernel
theorem dM_bitsOf_1 : decode cM_bitsOf 1 = .ok (.iload_n 1, 1) := by decide +kernel
theorem dM_bitsOf_2 : decode cM_bitsOf 2 = .ok (.iconst 1, 1) := by decide +kernel
theorem dM_bitsOf_3 : decode cM_bitsOf 3 = .ok (.iadd, 1) := by decide +kernel
theorem dM_bitsOf_4 : decode cM_bitsOf 4 = .ok (.ishl, 1) := by decide +kernel
theorem dM_bitsOf_5 : decode cM_bitsOf 5 = .ok (.iconst 1, 1) := by decide +kernel
theorem dM_bitsOf_6 : decode cM_bitsOf 6 = .ok (.iload_n 0, 1) := by decide +kernel
theorem dM_bitsOf_7 : decode cM_bitsOf 7 = .ok (.ishl, 1) := by decide +kernel
theorem dM_bitsOf_8 : decode cM_bitsOf 8 = .ok (.isub, 1) := by decide +kernel
theorem dM_bitsOf_9 : decode cM_bitsOf 9 = .ok (.ireturn, 1) := by decide +kernel
theorem dM_holds_0 : decode cM_holds 0 = .ok (.iload_n 1, 1) := by decide +kernel
theorem dM_holds_1 : decode cM_holds 1 = .ok (.tableswitch 102 0 4 #[35, 46, 57, 68, 79], 35) := by decide +kernel
theorem dM_holds_36 : decode cM_holds 36 = .ok (.iload_n 0, 1) := by decide +kernel
theorem dM_holds_37 : decode cM_holds 37 = .ok (.iload_n 2, 1) := by decide +kernel
theorem dM_holds_38 : decode cM_holds 38 = .ok (.if_icmp .ne 7, 3) := by decide +kernel
theorem dM_holds_41 : decode cM_holds 41 = .ok (.iconst 1, 1) := by decide +kernel
theorem dM_holds_42 : decode cM_holds 42 = .ok (.goto 4, 3) := by decide +kernel
theorem dM_holds_45 : decode cM_holds 45 = .ok (.iconst 0, 1) := by decide +kernel
theorem dM_holds_46 : decode cM_holds 46 = .ok (.ireturn, 1) := by decide +kernel
theorem dM_holds_47 : decode cM_holds 47 = .ok (.iload_n 0, 1) := by decide +kernel
theorem dM_holds_48 : decode cM_holds 48 = .ok (.iload_n 2, 1) := by decide +kernel
theorem dM_holds_49 : decode cM_holds 49 = .ok (.if_icmp .eq 7, 3) := by decide +kernel
theorem dM_holds_52 : decode cM_holds 52 = .ok (.iconst 1, 1) := by decide +kernel
theorem dM_holds_53 : decode cM_holds 53 = .ok (.goto 4, 3) := by decide +kernel
theorem dM_holds_56 : decode cM_holds 56 = .ok (.iconst 0, 1) := by decide +kernel
theorem dM_holds_57 : decode cM_holds 57 = .ok (.ireturn, 1) := by decide +kernel
theorem dM_holds_58 : decode cM_holds 58 = .ok (.iload_n 0, 1) := by decide +kernel
theorem dM_holds_59 : decode cM_holds 59 = .ok (.iload_n 2, 1) := by decide +kernel
theorem dM_holds_60 : decode cM_holds 60 = .ok (.if_icmp .ge 7, 3) := by decide +kernel
theorem dM_holds_63 : decode cM_holds 63 = .ok (.iconst 1, 1) := by decide +kernel
theorem dM_holds_64 : decode cM_holds 64 = .ok (.goto 4, 3) := by decide +kernel
theorem dM_holds_67 : decode cM_holds 67 = .ok (.iconst 0, 1) := by decide +kernel
theorem dM_holds_68 : decode cM_holds 68 = .ok (.ireturn, 1) := by decide +kernel
theorem dM_holds_69 : decode cM_holds 69 = .ok (.iload_n 0, 1) := by decide +kernel
theorem dM_holds_70 : decode cM_holds 70 = .ok (.iload_n 2, 1) := by decide +kernel
theorem dM_holds_71 : decode cM_holds 71 = .ok (.if_icmp .le 7, 3) := by decide +kernel
theorem dM_holds_74 : decode cM_holds 74 = .ok (.iconst 1, 1) := by decide +kernel
theorem dM_holds_75 : decode cM_holds 75 = .ok (.goto 4, 3) := by decide +kernel
theorem dM_holds_78 : decode cM_holds 78 = .ok (.iconst 0, 1) := by decide +kernel
theorem dM_holds_79 : decode cM_holds 79 = .ok (.ireturn, 1) := by decide +kernel
theorem dM_holds_80 : decode cM_holds 80 = .ok (.iload_n 0, 1) := by decide +kernel
theorem dM_holds_81 : decode cM_holds 81 = .ok (.ifCond .le 20, 3) := by decide +kernel
theorem dM_holds_84 : decode cM_holds 84 = .ok (.iload_n 0, 1) := by decide +kernel
theorem dM_holds_85 : decode cM_holds 85 = .ok (.iload_n 0, 1) := by decide +kernel
theorem dM_holds_86 : decode cM_holds 86 = .ok (.iconst 1, 1) := by decide +kernel
theorem dM_holds_87 : decode cM_holds 87 = .ok (.isub, 1) := by decide +kernel
theorem dM_holds_88 : decode cM_holds 88 = .ok (.iand, 1) := by decide +kernel
theorem dM_holds_89 : decode cM_holds 89 = .ok (.ifCond .ne 12, 3) := by decide +kernel
theorem dM_holds_92 : decode cM_holds 92 = .ok (.iload_n 0, 1) := by decide +kernel
theorem dM_holds_93 : decode cM_holds 93 = .ok (.iload_n 2, 1) := by decide +kernel
theorem dM_holds_94 : decode cM_holds 94 = .ok (.if_icmp .gt 7, 3) := by decide +kernel
theorem dM_holds_97 : decode cM_holds 97 = .ok (.iconst 1, 1) := by decide +kernel
theorem dM_holds_98 : decode cM_holds 98 = .ok (.goto 4, 3) := by decide +kernel
theorem dM_holds_101 : decode cM_holds 101 = .ok (.iconst 0, 1) := by decide +kernel
theorem dM_holds_102 : decode cM_holds 102 = .ok (.ireturn, 1) := by decide +kernel
theorem dM_holds_103 : decode cM_holds 103 = .ok (.iload_n 0, 1) := by decide +kernel
theorem dM_holds_104 : decode cM_holds 104 = .ok (.iload_n 2, 1) := by decide +kernel
theorem dM_holds_105 : decode cM_holds 105 = .ok (.if_icmp .lt 13, 3) := by decide +kernel
theorem dM_holds_108 : decode cM_holds 108 = .ok (.iload_n 0, 1) := by decide +kernel
theorem dM_holds_109 : decode cM_holds 109 = .ok (.iconst 2, 1) := by decide +kernel
theorem dM_holds_110 : decode cM_holds 110 = .ok (.irem, 1) := by decide +kernel
theorem dM_holds_111 : decode cM_holds 111 = .ok (.ifCond .ne 7, 3) := by decide +kernel
theorem dM_holds_114 : decode cM_holds 114 = .ok (.iconst 1, 1) := by decide +kernel
theorem dM_holds_115 : decode cM_holds 115 = .ok (.goto 4, 3) := by decide +kernel
theorem dM_holds_118 : decode cM_holds 118 = .ok (.iconst 0, 1) := by decide +kernel
theorem dM_holds_119 : decode cM_holds 119 = .ok (.ireturn, 1) := by decide +kernel
theorem dM_operand_0 : decode cM_operand 0 = .ok (.aload_n 0, 1) := by decide +kernel
theorem dM_operand_1 : decode cM_operand 1 = .ok (.aload_n 0, 1) := by decide +kernel
theorem dM_operand_2 : decode cM_operand 2 = .ok (.iload_n 1, 1) := by decide +kernel
theorem dM_operand_3 : decode cM_operand 3 = .ok (.invokevirtual 82, 3) := by decide +kernel
theorem dM_operand_6 : decode cM_operand 6 = .ok (.ifCond .ne 7, 3) := by decide +kernel
theorem dM_operand_9 : decode cM_operand 9 = .ok (.iconst 1, 1) := by decide +kernel
theorem dM_operand_10 : decode cM_operand 10 = .ok (.goto 4, 3) := by decide +kernel
theorem dM_operand_13 : decode cM_operand 13 = .ok (.iconst 0, 1) := by decide +kernel
theorem dM_operand_14 : decode cM_operand 14 = .ok (.aload_n 0, 1) := by decide +kernel
theorem dM_operand_15 : decode cM_operand 15 = .ok (.iload_n 2, 1) := by decide +kernel
theorem dM_operand_16 : decode cM_operand 16 = .ok (.iload_n 3, 1) := by decide +kernel
theorem dM_operand_17 : decode cM_operand 17 = .ok (.invokevirtual 77, 3) := by decide +kernel
theorem dM_operand_20 : decode cM_operand 20 = .ok (.ifCond .ne 7, 3) := by decide +kernel
theorem dM_operand_23 : decode cM_operand 23 = .ok (.iconst 1, 1) := by decide +kernel
theorem dM_operand_24 : decode cM_operand 24 = .ok (.goto 4, 3) := by decide +kernel
theorem dM_operand_27 : decode cM_operand 27 = .ok (.iconst 0, 1) := by decide +kernel
theorem dM_operand_28 : decode cM_operand 28 = .ok (.iconst 0, 1) := by decide +kernel
theorem dM_operand_29 : decode cM_operand 29 = .ok (.invokevirtual 69, 3) := by decide +kernel
theorem dM_operand_32 : decode cM_operand 32 = .ok (.ifCond .eq 5, 3) := by decide +kernel
theorem dM_operand_35 : decode cM_operand 35 = .ok (.iconst 0, 1) := by decide +kernel
theorem dM_operand_36 : decode cM_operand 36 = .ok (.ireturn, 1) := by decide +kernel
theorem dM_operand_37 : decode cM_operand 37 = .ok (.iload_n 2, 1) := by decide +kernel
theorem dM_operand_38 : decode cM_operand 38 = .ok (.iload_n 3, 1) := by decide +kernel
theorem dM_operand_39 : decode cM_operand 39 = .ok (.invokestatic 86, 3) := by decide +kernel
theorem dM_operand_42 : decode cM_operand 42 = .ok (.aload_n 0, 1) := by decide +kernel
theorem dM_operand_43 : decode cM_operand 43 = .ok (.getfield 19, 3) := by decide +kernel
theorem dM_operand_46 : decode cM_operand 46 = .ok (.iload_n 1, 1) := by decide +kernel
theorem dM_operand_47 : decode cM_operand 47 = .ok (.iaload, 1) := by decide +kernel
theorem dM_operand_48 : decode cM_operand 48 = .ok (.iconst (-1), 1) := by decide +kernel
theorem dM_operand_49 : decode cM_operand 49 = .ok (.ixor, 1) := by decide +kernel
theorem dM_operand_50 : decode cM_operand 50 = .ok (.iand, 1) := by decide +kernel
theorem dM_operand_51 : decode cM_operand 51 = .ok (.istore 4, 2) := by decide +kernel
theorem dM_operand_53 : decode cM_operand 53 = .ok (.aload_n 0, 1) := by decide +kernel
theorem dM_operand_54 : decode cM_operand 54 = .ok (.getfield 19, 3) := by decide +kernel
theorem dM_operand_57 : decode cM_operand 57 = .ok (.iload_n 1, 1) := by decide +kernel
theorem dM_operand_58 : decode cM_operand 58 = .ok (.dup2, 1) := by decide +kernel
theorem dM_operand_59 : decode cM_operand 59 = .ok (.iaload, 1) := by decide +kernel
theorem dM_operand_60 : decode cM_operand 60 = .ok (.iload 4, 2) := by decide +kernel
theorem dM_operand_62 : decode cM_operand 62 = .ok (.ior, 1) := by decide +kernel
theorem dM_operand_63 : decode cM_operand 63 = .ok (.iastore, 1) := by decide +kernel
theorem dM_operand_64 : decode cM_operand 64 = .ok (.iload 4, 2) := by decide +kernel
theorem dM_operand_66 : decode cM_operand 66 = .ok (.invokestatic 63, 3) := by decide +kernel
theorem dM_operand_69 : decode cM_operand 69 = .ok (.ireturn, 1) := by decide +kernel
theorem dM_ones_0 : decode cM_ones 0 = .ok (.iload_n 0, 1) := by decide +kernel
theorem dM_ones_1 : decode cM_ones 1 = .ok (.iload_n 0, 1) := by decide +kernel
theorem dM_ones_2 : decode cM_ones 2 = .ok (.iconst 1, 1) := by decide +kernel
theorem dM_ones_3 : decode cM_ones 3 = .ok (.iushr, 1) := by decide +kernel
theorem dM_ones_4 : decode cM_ones 4 = .ok (.ldc 59, 2) := by decide +kernel
theorem dM_ones_6 : decode cM_ones 6 = .ok (.iand, 1) := by decide +kernel
theorem dM_ones_7 : decode cM_ones 7 = .ok (.isub, 1) := by decide +kernel
theorem dM_ones_8 : decode cM_ones 8 = .ok (.istore_n 1, 1) := by decide +kernel
theorem dM_ones_9 : decode cM_ones 9 = .ok (.iload_n 1, 1) := by decide +kernel
theorem dM_ones_10 : decode cM_ones 10 = .ok (.ldc 60, 2) := by decide +kernel
theorem dM_ones_12 : decode cM_ones 12 = .ok (.iand, 1) := by decide +kernel
theorem dM_ones_13 : decode cM_ones 13 = .ok (.iload_n 1, 1) := by decide +kernel
theorem dM_ones_14 : decode cM_ones 14 = .ok (.iconst 2, 1) := by decide +kernel
theorem dM_ones_15 : decode cM_ones 15 = .ok (.iushr, 1) := by decide +kernel
theorem dM_ones_16 : decode cM_ones 16 = .ok (.ldc 60, 2) := by decide +kernel
theorem dM_ones_18 : decode cM_ones 18 = .ok (.iand, 1) := by decide +kernel
theorem dM_ones_19 : decode cM_ones 19 = .ok (.iadd, 1) := by decide +kernel
theorem dM_ones_20 : decode cM_ones 20 = .ok (.istore_n 2, 1) := by decide +kernel
theorem dM_ones_21 : decode cM_ones 21 = .ok (.iload_n 2, 1) := by decide +kernel
theorem dM_ones_22 : decode cM_ones 22 = .ok (.iload_n 2, 1) := by decide +kernel
theorem dM_ones_23 : decode cM_ones 23 = .ok (.iconst 4, 1) := by decide +kernel
theorem dM_ones_24 : decode cM_ones 24 = .ok (.iushr, 1) := by decide +kernel
theorem dM_ones_25 : decode cM_ones 25 = .ok (.iadd, 1) := by decide +kernel
theorem dM_ones_26 : decode cM_ones 26 = .ok (.ldc 61, 2) := by decide +kernel
theorem dM_ones_28 : decode cM_ones 28 = .ok (.iand, 1) := by decide +kernel
theorem dM_ones_29 : decode cM_ones 29 = .ok (.istore_n 3, 1) := by decide +kernel
theorem dM_ones_30 : decode cM_ones 30 = .ok (.iload_n 3, 1) := by decide +kernel
theorem dM_ones_31 : decode cM_ones 31 = .ok (.ldc 62, 2) := by decide +kernel
theorem dM_ones_33 : decode cM_ones 33 = .ok (.imul, 1) := by decide +kernel
theorem dM_ones_34 : decode cM_ones 34 = .ok (.bipush 24, 2) := by decide +kernel
theorem dM_ones_36 : decode cM_ones 36 = .ok (.iushr, 1) := by decide +kernel
theorem dM_ones_37 : decode cM_ones 37 = .ok (.ireturn, 1) := by decide +kernel
theorem dM_needs_0 : decode cM_needs 0 = .ok (.aload_n 0, 1) := by decide +kernel
theorem dM_needs_1 : decode cM_needs 1 = .ok (.aload_n 0, 1) := by decide +kernel
theorem dM_needs_2 : decode cM_needs 2 = .ok (.iload_n 1, 1) := by decide +kernel
theorem dM_needs_3 : decode cM_needs 3 = .ok (.invokevirtual 82, 3) := by decide +kernel
theorem dM_needs_6 : decode cM_needs 6 = .ok (.ifCond .ne 7, 3) := by decide +kernel
theorem dM_needs_9 : decode cM_needs 9 = .ok (.iconst 1, 1) := by decide +kernel
theorem dM_needs_10 : decode cM_needs 10 = .ok (.goto 4, 3) := by decide +kernel
theorem dM_needs_13 : decode cM_needs 13 = .ok (.iconst 0, 1) := by decide +kernel
theorem dM_needs_14 : decode cM_needs 14 = .ok (.iload_n 2, 1) := by decide +kernel
theorem dM_needs_15 : decode cM_needs 15 = .ok (.iconst 0, 1) := by decide +kernel
theorem dM_needs_16 : decode cM_needs 16 = .ok (.sipush 255, 3) := by decide +kernel
theorem dM_needs_19 : decode cM_needs 19 = .ok (.invokestatic 55, 3) := by decide +kernel
theorem dM_needs_22 : decode cM_needs 22 = .ok (.ifCond .ne 7, 3) := by decide +kernel
theorem dM_needs_25 : decode cM_needs 25 = .ok (.iconst 1, 1) := by decide +kernel
theorem dM_needs_26 : decode cM_needs 26 = .ok (.goto 4, 3) := by decide +kernel
theorem dM_needs_29 : decode cM_needs 29 = .ok (.iconst 0, 1) := by decide +kernel
theorem dM_needs_30 : decode cM_needs 30 = .ok (.iconst 0, 1) := by decide +kernel
theorem dM_needs_31 : decode cM_needs 31 = .ok (.invokevirtual 69, 3) := by decide +kernel
theorem dM_needs_34 : decode cM_needs 34 = .ok (.ifCond .eq 5, 3) := by decide +kernel
theorem dM_needs_37 : decode cM_needs 37 = .ok (.iconst 0, 1) := by decide +kernel
theorem dM_needs_38 : decode cM_needs 38 = .ok (.ireturn, 1) := by decide +kernel
theorem dM_needs_39 : decode cM_needs 39 = .ok (.aload_n 0, 1) := by decide +kernel
theorem dM_needs_40 : decode cM_needs 40 = .ok (.getfield 22, 3) := by decide +kernel
theorem dM_needs_43 : decode cM_needs 43 = .ok (.iload_n 1, 1) := by decide +kernel
theorem dM_needs_44 : decode cM_needs 44 = .ok (.iaload, 1) := by decide +kernel
theorem dM_needs_45 : decode cM_needs 45 = .ok (.istore_n 3, 1) := by decide +kernel
theorem dM_needs_46 : decode cM_needs 46 = .ok (.aload_n 0, 1) := by decide +kernel
theorem dM_needs_47 : decode cM_needs 47 = .ok (.getfield 22, 3) := by decide +kernel
theorem dM_needs_50 : decode cM_needs 50 = .ok (.iload_n 1, 1) := by decide +kernel
theorem dM_needs_51 : decode cM_needs 51 = .ok (.iload_n 2, 1) := by decide +kernel
theorem dM_needs_52 : decode cM_needs 52 = .ok (.iastore, 1) := by decide +kernel
theorem dM_needs_53 : decode cM_needs 53 = .ok (.iload_n 3, 1) := by decide +kernel
theorem dM_needs_54 : decode cM_needs 54 = .ok (.ireturn, 1) := by decide +kernel
theorem dM_clear_0 : decode cM_clear 0 = .ok (.aload_n 0, 1) := by decide +kernel
theorem dM_clear_1 : decode cM_clear 1 = .ok (.iconst 0, 1) := by decide +kernel
theorem dM_clear_2 : decode cM_clear 2 = .ok (.putfield 49, 3) := by decide +kernel
theorem dM_clear_5 : decode cM_clear 5 = .ok (.aload_n 0, 1) := by decide +kernel
theorem dM_clear_6 : decode cM_clear 6 = .ok (.getfield 52, 3) := by decide +kernel
theorem dM_clear_9 : decode cM_clear 9 = .ok (.istore_n 1, 1) := by decide +kernel
theorem dM_clear_10 : decode cM_clear 10 = .ok (.aload_n 0, 1) := by decide +kernel
theorem dM_clear_11 : decode cM_clear 11 = .ok (.iconst 0, 1) := by decide +kernel
theorem dM_clear_12 : decode cM_clear 12 = .ok (.putfield 52, 3) := by decide +kernel
theorem dM_clear_15 : decode cM_clear 15 = .ok (.aload_n 0, 1) := by decide +kernel
theorem dM_clear_16 : decode cM_clear 16 = .ok (.iconst 0, 1) := by decide +kernel
theorem dM_clear_17 : decode cM_clear 17 = .ok (.putfield 73, 3) := by decide +kernel
theorem dM_clear_20 : decode cM_clear 20 = .ok (.iload_n 1, 1) := by decide +kernel
theorem dM_clear_21 : decode cM_clear 21 = .ok (.ireturn, 1) := by decide +kernel
theorem dM_pairs_0 : decode cM_pairs 0 = .ok (.aload_n 0, 1) := by decide +kernel
theorem dM_pairs_1 : decode cM_pairs 1 = .ok (.iconst 0, 1) := by decide +kernel
theorem dM_pairs_2 : decode cM_pairs 2 = .ok (.putfield 49, 3) := by decide +kernel
theorem dM_pairs_5 : decode cM_pairs 5 = .ok (.aload_n 0, 1) := by decide +kernel
theorem dM_pairs_6 : decode cM_pairs 6 = .ok (.invokevirtual 97, 3) := by decide +kernel
theorem dM_pairs_9 : decode cM_pairs 9 = .ok (.iconst 0, 1) := by decide +kernel
theorem dM_pairs_10 : decode cM_pairs 10 = .ok (.istore_n 1, 1) := by decide +kernel
theorem dM_pairs_11 : decode cM_pairs 11 = .ok (.iconst 0, 1) := by decide +kernel
theorem dM_pairs_12 : decode cM_pairs 12 = .ok (.istore_n 2, 1) := by decide +kernel
theorem dM_pairs_13 : decode cM_pairs 13 = .ok (.iload_n 2, 1) := by decide +kernel
theorem dM_pairs_14 : decode cM_pairs 14 = .ok (.aload_n 0, 1) := by decide +kernel
theorem dM_pairs_15 : decode cM_pairs 15 = .ok (.getfield 52, 3) := by decide +kernel
theorem dM_pairs_18 : decode cM_pairs 18 = .ok (.if_icmp .ge 49, 3) := by decide +kernel
theorem dM_pairs_21 : decode cM_pairs 21 = .ok (.iload_n 2, 1) := by decide +kernel
theorem dM_pairs_22 : decode cM_pairs 22 = .ok (.iconst 1, 1) := by decide +kernel
theorem dM_pairs_23 : decode cM_pairs 23 = .ok (.iadd, 1) := by decide +kernel
theorem dM_pairs_24 : decode cM_pairs 24 = .ok (.istore_n 3, 1) := by decide +kernel
theorem dM_pairs_25 : decode cM_pairs 25 = .ok (.iload_n 3, 1) := by decide +kernel
theorem dM_pairs_26 : decode cM_pairs 26 = .ok (.aload_n 0, 1) := by decide +kernel
theorem dM_pairs_27 : decode cM_pairs 27 = .ok (.getfield 52, 3) := by decide +kernel
theorem dM_pairs_30 : decode cM_pairs 30 = .ok (.if_icmp .ge 31, 3) := by decide +kernel
theorem dM_pairs_33 : decode cM_pairs 33 = .ok (.iload_n 1, 1) := by decide +kernel
theorem dM_pairs_34 : decode cM_pairs 34 = .ok (.aload_n 0, 1) := by decide +kernel
theorem dM_pairs_35 : decode cM_pairs 35 = .ok (.getfield 29, 3) := by decide +kernel
theorem dM_pairs_38 : decode cM_pairs 38 = .ok (.bipush 40, 2) := by decide +kernel
theorem dM_pairs_40 : decode cM_pairs 40 = .ok (.iload_n 2, 1) := by decide +kernel
theorem dM_pairs_41 : decode cM_pairs 41 = .ok (.imul, 1) := by decide +kernel
theorem dM_pairs_42 : decode cM_pairs 42 = .ok (.iload_n 3, 1) := by decide +kernel
theorem dM_pairs_43 : decode cM_pairs 43 = .ok (.iadd, 1) := by decide +kernel
theorem dM_pairs_44 : decode cM_pairs 44 = .ok (.iaload, 1) := by decide +kernel
theorem dM_pairs_45 : decode cM_pairs 45 = .ok (.ifCond .le 7, 3) := by decide +kernel
theorem dM_pairs_48 : decode cM_pairs 48 = .ok (.iconst 1, 1) := by decide +kernel
theorem dM_pairs_49 : decode cM_pairs 49 = .ok (.goto 4, 3) := by decide +kernel
theorem dM_pairs_52 : decode cM_pairs 52 = .ok (.iconst 0, 1) := by decide +kernel
theorem dM_pairs_53 : decode cM_pairs 53 = .ok (.iadd, 1) := by decide +kernel
theorem dM_pairs_54 : decode cM_pairs 54 = .ok (.istore_n 1, 1) := by decide +kernel
theorem dM_pairs_55 : decode cM_pairs 55 = .ok (.iinc 3 1, 3) := by decide +kernel
theorem dM_pairs_58 : decode cM_pairs 58 = .ok (.goto (-33), 3) := by decide +kernel
theorem dM_pairs_61 : decode cM_pairs 61 = .ok (.iinc 2 1, 3) := by decide +kernel
theorem dM_pairs_64 : decode cM_pairs 64 = .ok (.goto (-51), 3) := by decide +kernel
theorem dM_pairs_67 : decode cM_pairs 67 = .ok (.iload_n 1, 1) := by decide +kernel
theorem dM_pairs_68 : decode cM_pairs 68 = .ok (.ireturn, 1) := by decide +kernel
theorem dM_know_0 : decode cM_know 0 = .ok (.iconst 0, 1) := by decide +kernel
theorem dM_know_1 : decode cM_know 1 = .ok (.istore_n 1, 1) := by decide +kernel
theorem dM_know_2 : decode cM_know 2 = .ok (.iload_n 1, 1) := by decide +kernel
theorem dM_know_3 : decode cM_know 3 = .ok (.aload_n 0, 1) := by decide +kernel
theorem dM_know_4 : decode cM_know 4 = .ok (.getfield 52, 3) := by decide +kernel
theorem dM_know_7 : decode cM_know 7 = .ok (.if_icmp .ge 38, 3) := by decide +kernel
theorem dM_know_10 : decode cM_know 10 = .ok (.aload_n 0, 1) := by decide +kernel
theorem dM_know_11 : decode cM_know 11 = .ok (.getfield 73, 3) := by decide +kernel
theorem dM_know_14 : decode cM_know 14 = .ok (.ifCond .ne 31, 3) := by decide +kernel
theorem dM_know_17 : decode cM_know 17 = .ok (.iconst 0, 1) := by decide +kernel
theorem dM_know_18 : decode cM_know 18 = .ok (.istore_n 2, 1) := by decide +kernel
theorem dM_know_19 : decode cM_know 19 = .ok (.iload_n 2, 1) := by decide +kernel
theorem dM_know_20 : decode cM_know 20 = .ok (.aload_n 0, 1) := by decide +kernel
theorem dM_know_21 : decode cM_know 21 = .ok (.getfield 52, 3) := by decide +kernel
theorem dM_know_24 : decode cM_know 24 = .ok (.if_icmp .ge 15, 3) := by decide +kernel
theorem dM_know_27 : decode cM_know 27 = .ok (.aload_n 0, 1) := by decide +kernel
theorem dM_know_28 : decode cM_know 28 = .ok (.iload_n 1, 1) := by decide +kernel
theorem dM_know_29 : decode cM_know 29 = .ok (.iload_n 2, 1) := by decide +kernel
theorem dM_know_30 : decode cM_know 30 = .ok (.invokevirtual 93, 3) := by decide +kernel
theorem dM_know_33 : decode cM_know 33 = .ok (.iinc 2 1, 3) := by decide +kernel
theorem dM_know_36 : decode cM_know 36 = .ok (.goto (-17), 3) := by decide +kernel
theorem dM_know_39 : decode cM_know 39 = .ok (.iinc 1 1, 3) := by decide +kernel
theorem dM_know_42 : decode cM_know 42 = .ok (.goto (-40), 3) := by decide +kernel
theorem dM_know_45 : decode cM_know 45 = .ok (.aload_n 0, 1) := by decide +kernel
theorem dM_know_46 : decode cM_know 46 = .ok (.iconst 1, 1) := by decide +kernel
theorem dM_know_47 : decode cM_know 47 = .ok (.putfield 73, 3) := by decide +kernel
theorem dM_know_50 : decode cM_know 50 = .ok (.return_, 1) := by decide +kernel
theorem dM_compare_0 : decode cM_compare 0 = .ok (.iconst 0, 1) := by decide +kernel
theorem dM_compare_1 : decode cM_compare 1 = .ok (.istore_n 3, 1) := by decide +kernel
theorem dM_compare_2 : decode cM_compare 2 = .ok (.iconst 1, 1) := by decide +kernel
theorem dM_compare_3 : decode cM_compare 3 = .ok (.istore 4, 2) := by decide +kernel
theorem dM_compare_5 : decode cM_compare 5 = .ok (.iconst 0, 1) := by decide +kernel
theorem dM_compare_6 : decode cM_compare 6 = .ok (.istore 5, 2) := by decide +kernel
theorem dM_compare_8 : decode cM_compare 8 = .ok (.iload 5, 2) := by decide +kernel
theorem dM_compare_10 : decode cM_compare 10 = .ok (.aload_n 0, 1) := by decide +kernel
theorem dM_compare_11 : decode cM_compare 11 = .ok (.getfield 43, 3) := by decide +kernel
theorem dM_compare_14 : decode cM_compare 14 = .ok (.if_icmp .ge 84, 3) := by decide +kernel
theorem dM_compare_17 : decode cM_compare 17 = .ok (.aload_n 0, 1) := by decide +kernel
theorem dM_compare_18 : decode cM_compare 18 = .ok (.getfield 26, 3) := by decide +kernel
theorem dM_compare_21 : decode cM_compare 21 = .ok (.sipush 2048, 3) := by decide +kernel
theorem dM_compare_24 : decode cM_compare 24 = .ok (.iload_n 1, 1) := by decide +kernel
theorem dM_compare_25 : decode cM_compare 25 = .ok (.imul, 1) := by decide +kernel
theorem dM_compare_26 : decode cM_compare 26 = .ok (.iload 5, 2) := by decide +kernel
theorem dM_compare_28 : decode cM_compare 28 = .ok (.iadd, 1) := by decide +kernel
theorem dM_compare_29 : decode cM_compare 29 = .ok (.iaload, 1) := by decide +kernel
theorem dM_compare_30 : decode cM_compare 30 = .ok (.istore 6, 2) := by decide +kernel
theorem dM_compare_32 : decode cM_compare 32 = .ok (.aload_n 0, 1) := by decide +kernel
theorem dM_compare_33 : decode cM_compare 33 = .ok (.getfield 26, 3) := by decide +kernel
theorem dM_compare_36 : decode cM_compare 36 = .ok (.sipush 2048, 3) := by decide +kernel
theorem dM_compare_39 : decode cM_compare 39 = .ok (.iload_n 2, 1) := by decide +kernel
theorem dM_compare_40 : decode cM_compare 40 = .ok (.imul, 1) := by decide +kernel
theorem dM_compare_41 : decode cM_compare 41 = .ok (.iload 5, 2) := by decide +kernel
theorem dM_compare_43 : decode cM_compare 43 = .ok (.iadd, 1) := by decide +kernel
theorem dM_compare_44 : decode cM_compare 44 = .ok (.iaload, 1) := by decide +kernel
theorem dM_compare_45 : decode cM_compare 45 = .ok (.istore 7, 2) := by decide +kernel
theorem dM_compare_47 : decode cM_compare 47 = .ok (.iload_n 3, 1) := by decide +kernel
theorem dM_compare_48 : decode cM_compare 48 = .ok (.iload 6, 2) := by decide +kernel
theorem dM_compare_50 : decode cM_compare 50 = .ok (.iload 7, 2) := by decide +kernel
theorem dM_compare_52 : decode cM_compare 52 = .ok (.iand, 1) := by decide +kernel
theorem dM_compare_53 : decode cM_compare 53 = .ok (.ifCond .ne 7, 3) := by decide +kernel
theorem dM_compare_56 : decode cM_compare 56 = .ok (.iconst 0, 1) := by decide +kernel
theorem dM_compare_57 : decode cM_compare 57 = .ok (.goto 11, 3) := by decide +kernel
theorem dM_compare_60 : decode cM_compare 60 = .ok (.iload 6, 2) := by decide +kernel
theorem dM_compare_62 : decode cM_compare 62 = .ok (.iload 7, 2) := by decide +kernel
theorem dM_compare_64 : decode cM_compare 64 = .ok (.iand, 1) := by decide +kernel
theorem dM_compare_65 : decode cM_compare 65 = .ok (.invokestatic 63, 3) := by decide +kernel
theorem dM_compare_68 : decode cM_compare 68 = .ok (.iadd, 1) := by decide +kernel
theorem dM_compare_69 : decode cM_compare 69 = .ok (.istore_n 3, 1) := by decide +kernel
theorem dM_compare_70 : decode cM_compare 70 = .ok (.iload 4, 2) := by decide +kernel
theorem dM_compare_72 : decode cM_compare 72 = .ok (.ifCond .eq 17, 3) := by decide +kernel
theorem dM_compare_75 : decode cM_compare 75 = .ok (.iload 6, 2) := by decide +kernel
theorem dM_compare_77 : decode cM_compare 77 = .ok (.iload 7, 2) := by decide +kernel
theorem dM_compare_79 : decode cM_compare 79 = .ok (.iconst (-1), 1) := by decide +kernel
theorem dM_compare_80 : decode cM_compare 80 = .ok (.ixor, 1) := by decide +kernel
theorem dM_compare_81 : decode cM_compare 81 = .ok (.iand, 1) := by decide +kernel
theorem dM_compare_82 : decode cM_compare 82 = .ok (.ifCond .ne 7, 3) := by decide +kernel
theorem dM_compare_85 : decode cM_compare 85 = .ok (.iconst 1, 1) := by decide +kernel
theorem dM_compare_86 : decode cM_compare 86 = .ok (.goto 4, 3) := by decide +kernel
theorem dM_compare_89 : decode cM_compare 89 = .ok (.iconst 0, 1) := by decide +kernel
theorem dM_compare_90 : decode cM_compare 90 = .ok (.istore 4, 2) := by decide +kernel
theorem dM_compare_92 : decode cM_compare 92 = .ok (.iinc 5 1, 3) := by decide +kernel
theorem dM_compare_95 : decode cM_compare 95 = .ok (.goto (-87), 3) := by decide +kernel
theorem dM_compare_98 : decode cM_compare 98 = .ok (.aload_n 0, 1) := by decide +kernel
theorem dM_compare_99 : decode cM_compare 99 = .ok (.getfield 29, 3) := by decide +kernel
theorem dM_compare_102 : decode cM_compare 102 = .ok (.bipush 40, 2) := by decide +kernel
theorem dM_compare_104 : decode cM_compare 104 = .ok (.iload_n 1, 1) := by decide +kernel
theorem dM_compare_105 : decode cM_compare 105 = .ok (.imul, 1) := by decide +kernel
theorem dM_compare_106 : decode cM_compare 106 = .ok (.iload_n 2, 1) := by decide +kernel
theorem dM_compare_107 : decode cM_compare 107 = .ok (.iadd, 1) := by decide +kernel
theorem dM_compare_108 : decode cM_compare 108 = .ok (.iload_n 3, 1) := by decide +kernel
theorem dM_compare_109 : decode cM_compare 109 = .ok (.iastore, 1) := by decide +kernel
theorem dM_compare_110 : decode cM_compare 110 = .ok (.aload_n 0, 1) := by decide +kernel
theorem dM_compare_111 : decode cM_compare 111 = .ok (.getfield 32, 3) := by decide +kernel
theorem dM_compare_114 : decode cM_compare 114 = .ok (.bipush 40, 2) := by decide +kernel
theorem dM_compare_116 : decode cM_compare 116 = .ok (.iload_n 1, 1) := by decide +kernel
theorem dM_compare_117 : decode cM_compare 117 = .ok (.imul, 1) := by decide +kernel
theorem dM_compare_118 : decode cM_compare 118 = .ok (.iload_n 2, 1) := by decide +kernel
theorem dM_compare_119 : decode cM_compare 119 = .ok (.iadd, 1) := by decide +kernel
theorem dM_compare_120 : decode cM_compare 120 = .ok (.iload 4, 2) := by decide +kernel
theorem dM_compare_122 : decode cM_compare 122 = .ok (.bastore, 1) := by decide +kernel
theorem dM_compare_123 : decode cM_compare 123 = .ok (.return_, 1) := by decide +kernel
theorem dM_pair_0 : decode cM_pair 0 = .ok (.iconst (-1), 1) := by decide +kernel
theorem dM_pair_1 : decode cM_pair 1 = .ok (.istore_n 3, 1) := by decide +kernel
theorem dM_pair_2 : decode cM_pair 2 = .ok (.iconst (-1), 1) := by decide +kernel
theorem dM_pair_3 : decode cM_pair 3 = .ok (.istore 4, 2) := by decide +kernel
theorem dM_pair_5 : decode cM_pair 5 = .ok (.aload_n 0, 1) := by decide +kernel
theorem dM_pair_6 : decode cM_pair 6 = .ok (.invokevirtual 97, 3) := by decide +kernel
theorem dM_pair_9 : decode cM_pair 9 = .ok (.iconst 0, 1) := by decide +kernel
theorem dM_pair_10 : decode cM_pair 10 = .ok (.istore 5, 2) := by decide +kernel
theorem dM_pair_12 : decode cM_pair 12 = .ok (.iconst 0, 1) := by decide +kernel
theorem dM_pair_13 : decode cM_pair 13 = .ok (.istore 6, 2) := by decide +kernel
theorem dM_pair_15 : decode cM_pair 15 = .ok (.iload 6, 2) := by decide +kernel
theorem dM_pair_17 : decode cM_pair 17 = .ok (.aload_n 0, 1) := by decide +kernel
theorem dM_pair_18 : decode cM_pair 18 = .ok (.getfield 52, 3) := by decide +kernel
theorem dM_pair_21 : decode cM_pair 21 = .ok (.if_icmp .ge 106, 3) := by decide +kernel
theorem dM_pair_24 : decode cM_pair 24 = .ok (.iload 6, 2) := by decide +kernel
theorem dM_pair_26 : decode cM_pair 26 = .ok (.iconst 1, 1) := by decide +kernel
theorem dM_pair_27 : decode cM_pair 27 = .ok (.iadd, 1) := by decide +kernel
theorem dM_pair_28 : decode cM_pair 28 = .ok (.istore 7, 2) := by decide +kernel
theorem dM_pair_30 : decode cM_pair 30 = .ok (.iload 7, 2) := by decide +kernel
theorem dM_pair_32 : decode cM_pair 32 = .ok (.aload_n 0, 1) := by decide +kernel
theorem dM_pair_33 : decode cM_pair 33 = .ok (.getfield 52, 3) := by decide +kernel
theorem dM_pair_36 : decode cM_pair 36 = .ok (.if_icmp .ge 85, 3) := by decide +kernel
theorem dM_pair_39 : decode cM_pair 39 = .ok (.aload_n 0, 1) := by decide +kernel
theorem dM_pair_40 : decode cM_pair 40 = .ok (.getfield 29, 3) := by decide +kernel
theorem dM_pair_43 : decode cM_pair 43 = .ok (.bipush 40, 2) := by decide +kernel
theorem dM_pair_45 : decode cM_pair 45 = .ok (.iload 6, 2) := by decide +kernel
theorem dM_pair_47 : decode cM_pair 47 = .ok (.imul, 1) := by decide +kernel
theorem dM_pair_48 : decode cM_pair 48 = .ok (.iload 7, 2) := by decide +kernel
theorem dM_pair_50 : decode cM_pair 50 = .ok (.iadd, 1) := by decide +kernel
theorem dM_pair_51 : decode cM_pair 51 = .ok (.iaload, 1) := by decide +kernel
theorem dM_pair_52 : decode cM_pair 52 = .ok (.ifCond .le 7, 3) := by decide +kernel
theorem dM_pair_55 : decode cM_pair 55 = .ok (.iconst 1, 1) := by decide +kernel
theorem dM_pair_56 : decode cM_pair 56 = .ok (.goto 4, 3) := by decide +kernel
theorem dM_pair_59 : decode cM_pair 59 = .ok (.iconst 0, 1) := by decide +kernel
theorem dM_pair_60 : decode cM_pair 60 = .ok (.istore 8, 2) := by decide +kernel
theorem dM_pair_62 : decode cM_pair 62 = .ok (.iload 8, 2) := by decide +kernel
theorem dM_pair_64 : decode cM_pair 64 = .ok (.ifCond .eq 14, 3) := by decide +kernel
theorem dM_pair_67 : decode cM_pair 67 = .ok (.iload 5, 2) := by decide +kernel
theorem dM_pair_69 : decode cM_pair 69 = .ok (.iload_n 1, 1) := by decide +kernel
theorem dM_pair_70 : decode cM_pair 70 = .ok (.if_icmp .ne 8, 3) := by decide +kernel
theorem dM_pair_73 : decode cM_pair 73 = .ok (.iload 6, 2) := by decide +kernel
theorem dM_pair_75 : decode cM_pair 75 = .ok (.goto 4, 3) := by decide +kernel
theorem dM_pair_78 : decode cM_pair 78 = .ok (.iload_n 3, 1) := by decide +kernel
theorem dM_pair_79 : decode cM_pair 79 = .ok (.istore_n 3, 1) := by decide +kernel
theorem dM_pair_80 : decode cM_pair 80 = .ok (.iload 8, 2) := by decide +kernel
theorem dM_pair_82 : decode cM_pair 82 = .ok (.ifCond .eq 14, 3) := by decide +kernel
theorem dM_pair_85 : decode cM_pair 85 = .ok (.iload 5, 2) := by decide +kernel
theorem dM_pair_87 : decode cM_pair 87 = .ok (.iload_n 1, 1) := by decide +kernel
theorem dM_pair_88 : decode cM_pair 88 = .ok (.if_icmp .ne 8, 3) := by decide +kernel
theorem dM_pair_91 : decode cM_pair 91 = .ok (.iload 7, 2) := by decide +kernel
theorem dM_pair_93 : decode cM_pair 93 = .ok (.goto 5, 3) := by decide +kernel
theorem dM_pair_96 : decode cM_pair 96 = .ok (.iload 4, 2) := by decide +kernel
theorem dM_pair_98 : decode cM_pair 98 = .ok (.istore 4, 2) := by decide +kernel
theorem dM_pair_100 : decode cM_pair 100 = .ok (.iload 5, 2) := by decide +kernel
theorem dM_pair_102 : decode cM_pair 102 = .ok (.iload 8, 2) := by decide +kernel
theorem dM_pair_104 : decode cM_pair 104 = .ok (.ifCond .eq 7, 3) := by decide +kernel
theorem dM_pair_107 : decode cM_pair 107 = .ok (.iconst 1, 1) := by decide +kernel
theorem dM_pair_108 : decode cM_pair 108 = .ok (.goto 4, 3) := by decide +kernel
theorem dM_pair_111 : decode cM_pair 111 = .ok (.iconst 0, 1) := by decide +kernel
theorem dM_pair_112 : decode cM_pair 112 = .ok (.iadd, 1) := by decide +kernel
theorem dM_pair_113 : decode cM_pair 113 = .ok (.istore 5, 2) := by decide +kernel
theorem dM_pair_115 : decode cM_pair 115 = .ok (.iinc 7 1, 3) := by decide +kernel
theorem dM_pair_118 : decode cM_pair 118 = .ok (.goto (-88), 3) := by decide +kernel
theorem dM_pair_121 : decode cM_pair 121 = .ok (.iinc 6 1, 3) := by decide +kernel
theorem dM_pair_124 : decode cM_pair 124 = .ok (.goto (-109), 3) := by decide +kernel
theorem dM_pair_127 : decode cM_pair 127 = .ok (.aload_n 0, 1) := by decide +kernel
theorem dM_pair_128 : decode cM_pair 128 = .ok (.iload_n 3, 1) := by decide +kernel
theorem dM_pair_129 : decode cM_pair 129 = .ok (.ifCond .lt 12, 3) := by decide +kernel
theorem dM_pair_132 : decode cM_pair 132 = .ok (.iload_n 2, 1) := by decide +kernel
theorem dM_pair_133 : decode cM_pair 133 = .ok (.iconst 0, 1) := by decide +kernel
theorem dM_pair_134 : decode cM_pair 134 = .ok (.iconst 3, 1) := by decide +kernel
theorem dM_pair_135 : decode cM_pair 135 = .ok (.invokestatic 55, 3) := by decide +kernel
theorem dM_pair_138 : decode cM_pair 138 = .ok (.ifCond .ne 7, 3) := by decide +kernel
theorem dM_pair_141 : decode cM_pair 141 = .ok (.iconst 1, 1) := by decide +kernel
theorem dM_pair_142 : decode cM_pair 142 = .ok (.goto 4, 3) := by decide +kernel
theorem dM_pair_145 : decode cM_pair 145 = .ok (.iconst 0, 1) := by decide +kernel
theorem dM_pair_146 : decode cM_pair 146 = .ok (.iconst 0, 1) := by decide +kernel
theorem dM_pair_147 : decode cM_pair 147 = .ok (.iconst 0, 1) := by decide +kernel
theorem dM_pair_148 : decode cM_pair 148 = .ok (.invokevirtual 69, 3) := by decide +kernel
theorem dM_pair_151 : decode cM_pair 151 = .ok (.ifCond .eq 5, 3) := by decide +kernel
theorem dM_pair_154 : decode cM_pair 154 = .ok (.iconst 0, 1) := by decide +kernel
theorem dM_pair_155 : decode cM_pair 155 = .ok (.ireturn, 1) := by decide +kernel
theorem dM_pair_156 : decode cM_pair 156 = .ok (.iload_n 2, 1) := by decide +kernel
theorem dM_pair_157 : decode cM_pair 157 = .ok (.ifCond .ne 7, 3) := by decide +kernel
theorem dM_pair_160 : decode cM_pair 160 = .ok (.iload_n 3, 1) := by decide +kernel
theorem dM_pair_161 : decode cM_pair 161 = .ok (.goto 40, 3) := by decide +kernel
theorem dM_pair_164 : decode cM_pair 164 = .ok (.iload_n 2, 1) := by decide +kernel
theorem dM_pair_165 : decode cM_pair 165 = .ok (.iconst 1, 1) := by decide +kernel
theorem dM_pair_166 : decode cM_pair 166 = .ok (.if_icmp .ne 8, 3) := by decide +kernel
theorem dM_pair_169 : decode cM_pair 169 = .ok (.iload 4, 2) := by decide +kernel
theorem dM_pair_171 : decode cM_pair 171 = .ok (.goto 30, 3) := by decide +kernel
theorem dM_pair_174 : decode cM_pair 174 = .ok (.iload_n 2, 1) := by decide +kernel
theorem dM_pair_175 : decode cM_pair 175 = .ok (.iconst 2, 1) := by decide +kernel
theorem dM_pair_176 : decode cM_pair 176 = .ok (.if_icmp .ne 13, 3) := by decide +kernel
theorem dM_pair_179 : decode cM_pair 179 = .ok (.aload_n 0, 1) := by decide +kernel
theorem dM_pair_180 : decode cM_pair 180 = .ok (.iload_n 3, 1) := by decide +kernel
theorem dM_pair_181 : decode cM_pair 181 = .ok (.iload 4, 2) := by decide +kernel
theorem dM_pair_183 : decode cM_pair 183 = .ok (.invokevirtual 103, 3) := by decide +kernel
theorem dM_pair_186 : decode cM_pair 186 = .ok (.goto 15, 3) := by decide +kernel
theorem dM_pair_189 : decode cM_pair 189 = .ok (.aload_n 0, 1) := by decide +kernel
theorem dM_pair_190 : decode cM_pair 190 = .ok (.getfield 29, 3) := by decide +kernel
theorem dM_pair_193 : decode cM_pair 193 = .ok (.bipush 40, 2) := by decide +kernel
theorem dM_pair_195 : decode cM_pair 195 = .ok (.iload_n 3, 1) := by decide +kernel
theorem dM_pair_196 : decode cM_pair 196 = .ok (.imul, 1) := by decide +kernel
theorem dM_pair_197 : decode cM_pair 197 = .ok (.iload 4, 2) := by decide +kernel
theorem dM_pair_199 : decode cM_pair 199 = .ok (.iadd, 1) := by decide +kernel
theorem dM_pair_200 : decode cM_pair 200 = .ok (.iaload, 1) := by decide +kernel
theorem dM_pair_201 : decode cM_pair 201 = .ok (.ireturn, 1) := by decide +kernel
theorem dM_lowest_0 : decode cM_lowest 0 = .ok (.iconst 0, 1) := by decide +kernel
theorem dM_lowest_1 : decode cM_lowest 1 = .ok (.istore_n 3, 1) := by decide +kernel
theorem dM_lowest_2 : decode cM_lowest 2 = .ok (.aload_n 0, 1) := by decide +kernel
theorem dM_lowest_3 : decode cM_lowest 3 = .ok (.iload_n 1, 1) := by decide +kernel
theorem dM_lowest_4 : decode cM_lowest 4 = .ok (.iload_n 3, 1) := by decide +kernel
theorem dM_lowest_5 : decode cM_lowest 5 = .ok (.invokevirtual 100, 3) := by decide +kernel
theorem dM_lowest_8 : decode cM_lowest 8 = .ok (.ifCond .eq 12, 3) := by decide +kernel
theorem dM_lowest_11 : decode cM_lowest 11 = .ok (.aload_n 0, 1) := by decide +kernel
theorem dM_lowest_12 : decode cM_lowest 12 = .ok (.iload_n 2, 1) := by decide +kernel
theorem dM_lowest_13 : decode cM_lowest 13 = .ok (.iload_n 3, 1) := by decide +kernel
theorem dM_lowest_14 : decode cM_lowest 14 = .ok (.invokevirtual 100, 3) := by decide +kernel
theorem dM_lowest_17 : decode cM_lowest 17 = .ok (.ifCond .ne 9, 3) := by decide +kernel
theorem dM_lowest_20 : decode cM_lowest 20 = .ok (.iinc 3 1, 3) := by decide +kernel
theorem dM_lowest_23 : decode cM_lowest 23 = .ok (.goto (-21), 3) := by decide +kernel
theorem dM_lowest_26 : decode cM_lowest 26 = .ok (.iload_n 3, 1) := by decide +kernel
theorem dM_lowest_27 : decode cM_lowest 27 = .ok (.ireturn, 1) := by decide +kernel
theorem dM_has_0 : decode cM_has 0 = .ok (.aload_n 0, 1) := by decide +kernel
theorem dM_has_1 : decode cM_has 1 = .ok (.getfield 26, 3) := by decide +kernel
theorem dM_has_4 : decode cM_has 4 = .ok (.sipush 2048, 3) := by decide +kernel
theorem dM_has_7 : decode cM_has 7 = .ok (.iload_n 1, 1) := by decide +kernel
theorem dM_has_8 : decode cM_has 8 = .ok (.imul, 1) := by decide +kernel
theorem dM_has_9 : decode cM_has 9 = .ok (.iload_n 2, 1) := by decide +kernel
theorem dM_has_10 : decode cM_has 10 = .ok (.bipush 32, 2) := by decide +kernel
theorem dM_has_12 : decode cM_has 12 = .ok (.idiv, 1) := by decide +kernel
theorem dM_has_13 : decode cM_has 13 = .ok (.iadd, 1) := by decide +kernel
theorem dM_has_14 : decode cM_has 14 = .ok (.iaload, 1) := by decide +kernel
theorem dM_has_15 : decode cM_has 15 = .ok (.iload_n 2, 1) := by decide +kernel
theorem dM_has_16 : decode cM_has 16 = .ok (.bipush 32, 2) := by decide +kernel
theorem dM_has_18 : decode cM_has 18 = .ok (.irem, 1) := by decide +kernel
theorem dM_has_19 : decode cM_has 19 = .ok (.ishr, 1) := by decide +kernel
theorem dM_has_20 : decode cM_has 20 = .ok (.iconst 1, 1) := by decide +kernel
theorem dM_has_21 : decode cM_has 21 = .ok (.iand, 1) := by decide +kernel
theorem dM_has_22 : decode cM_has 22 = .ok (.iconst 1, 1) := by decide +kernel
theorem dM_has_23 : decode cM_has 23 = .ok (.if_icmp .ne 7, 3) := by decide +kernel
theorem dM_has_26 : decode cM_has 26 = .ok (.iconst 1, 1) := by decide +kernel
theorem dM_has_27 : decode cM_has 27 = .ok (.goto 4, 3) := by decide +kernel
theorem dM_has_30 : decode cM_has 30 = .ok (.iconst 0, 1) := by decide +kernel
theorem dM_has_31 : decode cM_has 31 = .ok (.ireturn, 1) := by decide +kernel
theorem dM_alias_0 : decode cM_alias 0 = .ok (.aload_n 0, 1) := by decide +kernel
theorem dM_alias_1 : decode cM_alias 1 = .ok (.aload_n 0, 1) := by decide +kernel
theorem dM_alias_2 : decode cM_alias 2 = .ok (.iload_n 1, 1) := by decide +kernel
theorem dM_alias_3 : decode cM_alias 3 = .ok (.invokevirtual 82, 3) := by decide +kernel
theorem dM_alias_6 : decode cM_alias 6 = .ok (.ifCond .eq 11, 3) := by decide +kernel
theorem dM_alias_9 : decode cM_alias 9 = .ok (.aload_n 0, 1) := by decide +kernel
theorem dM_alias_10 : decode cM_alias 10 = .ok (.iload_n 2, 1) := by decide +kernel
theorem dM_alias_11 : decode cM_alias 11 = .ok (.invokevirtual 82, 3) := by decide +kernel
theorem dM_alias_14 : decode cM_alias 14 = .ok (.ifCond .ne 7, 3) := by decide +kernel
theorem dM_alias_17 : decode cM_alias 17 = .ok (.iconst 1, 1) := by decide +kernel
theorem dM_alias_18 : decode cM_alias 18 = .ok (.goto 4, 3) := by decide +kernel
theorem dM_alias_21 : decode cM_alias 21 = .ok (.iconst 0, 1) := by decide +kernel
theorem dM_alias_22 : decode cM_alias 22 = .ok (.iconst 0, 1) := by decide +kernel
theorem dM_alias_23 : decode cM_alias 23 = .ok (.iconst 0, 1) := by decide +kernel
theorem dM_alias_24 : decode cM_alias 24 = .ok (.invokevirtual 69, 3) := by decide +kernel
theorem dM_alias_27 : decode cM_alias 27 = .ok (.ifCond .eq 5, 3) := by decide +kernel
theorem dM_alias_30 : decode cM_alias 30 = .ok (.iconst 0, 1) := by decide +kernel
theorem dM_alias_31 : decode cM_alias 31 = .ok (.ireturn, 1) := by decide +kernel
theorem dM_alias_32 : decode cM_alias 32 = .ok (.aload_n 0, 1) := by decide +kernel
theorem dM_alias_33 : decode cM_alias 33 = .ok (.invokevirtual 97, 3) := by decide +kernel
theorem dM_alias_36 : decode cM_alias 36 = .ok (.aload_n 0, 1) := by decide +kernel
theorem dM_alias_37 : decode cM_alias 37 = .ok (.getfield 29, 3) := by decide +kernel
theorem dM_alias_40 : decode cM_alias 40 = .ok (.bipush 40, 2) := by decide +kernel
theorem dM_alias_42 : decode cM_alias 42 = .ok (.iload_n 1, 1) := by decide +kernel
theorem dM_alias_43 : decode cM_alias 43 = .ok (.imul, 1) := by decide +kernel
theorem dM_alias_44 : decode cM_alias 44 = .ok (.iload_n 2, 1) := by decide +kernel
theorem dM_alias_45 : decode cM_alias 45 = .ok (.iadd, 1) := by decide +kernel
theorem dM_alias_46 : decode cM_alias 46 = .ok (.iaload, 1) := by decide +kernel
theorem dM_alias_47 : decode cM_alias 47 = .ok (.ifCond .ne 5, 3) := by decide +kernel
theorem dM_alias_50 : decode cM_alias 50 = .ok (.iconst 0, 1) := by decide +kernel
theorem dM_alias_51 : decode cM_alias 51 = .ok (.ireturn, 1) := by decide +kernel
theorem dM_alias_52 : decode cM_alias 52 = .ok (.aload_n 0, 1) := by decide +kernel
theorem dM_alias_53 : decode cM_alias 53 = .ok (.getfield 32, 3) := by decide +kernel
theorem dM_alias_56 : decode cM_alias 56 = .ok (.bipush 40, 2) := by decide +kernel
theorem dM_alias_58 : decode cM_alias 58 = .ok (.iload_n 1, 1) := by decide +kernel
theorem dM_alias_59 : decode cM_alias 59 = .ok (.imul, 1) := by decide +kernel
theorem dM_alias_60 : decode cM_alias 60 = .ok (.iload_n 2, 1) := by decide +kernel
theorem dM_alias_61 : decode cM_alias 61 = .ok (.iadd, 1) := by decide +kernel
theorem dM_alias_62 : decode cM_alias 62 = .ok (.baload, 1) := by decide +kernel
theorem dM_alias_63 : decode cM_alias 63 = .ok (.istore_n 3, 1) := by decide +kernel
theorem dM_alias_64 : decode cM_alias 64 = .ok (.aload_n 0, 1) := by decide +kernel
theorem dM_alias_65 : decode cM_alias 65 = .ok (.getfield 32, 3) := by decide +kernel
theorem dM_alias_68 : decode cM_alias 68 = .ok (.bipush 40, 2) := by decide +kernel
theorem dM_alias_70 : decode cM_alias 70 = .ok (.iload_n 2, 1) := by decide +kernel
theorem dM_alias_71 : decode cM_alias 71 = .ok (.imul, 1) := by decide +kernel
theorem dM_alias_72 : decode cM_alias 72 = .ok (.iload_n 1, 1) := by decide +kernel
theorem dM_alias_73 : decode cM_alias 73 = .ok (.iadd, 1) := by decide +kernel
theorem dM_alias_74 : decode cM_alias 74 = .ok (.baload, 1) := by decide +kernel
theorem dM_alias_75 : decode cM_alias 75 = .ok (.istore 4, 2) := by decide +kernel
theorem dM_alias_77 : decode cM_alias 77 = .ok (.iload_n 3, 1) := by decide +kernel
theorem dM_alias_78 : decode cM_alias 78 = .ok (.ifCond .eq 12, 3) := by decide +kernel
theorem dM_alias_81 : decode cM_alias 81 = .ok (.iload 4, 2) := by decide +kernel
theorem dM_alias_83 : decode cM_alias 83 = .ok (.ifCond .eq 7, 3) := by decide +kernel
theorem dM_alias_86 : decode cM_alias 86 = .ok (.iconst 1, 1) := by decide +kernel
theorem dM_alias_87 : decode cM_alias 87 = .ok (.goto 21, 3) := by decide +kernel
theorem dM_alias_90 : decode cM_alias 90 = .ok (.iload_n 3, 1) := by decide +kernel
theorem dM_alias_91 : decode cM_alias 91 = .ok (.ifCond .eq 7, 3) := by decide +kernel
theorem dM_alias_94 : decode cM_alias 94 = .ok (.iconst 2, 1) := by decide +kernel
theorem dM_alias_95 : decode cM_alias 95 = .ok (.goto 13, 3) := by decide +kernel
theorem dM_alias_98 : decode cM_alias 98 = .ok (.iload 4, 2) := by decide +kernel
theorem dM_alias_100 : decode cM_alias 100 = .ok (.ifCond .eq 7, 3) := by decide +kernel
theorem dM_alias_103 : decode cM_alias 103 = .ok (.iconst 3, 1) := by decide +kernel
theorem dM_alias_104 : decode cM_alias 104 = .ok (.goto 4, 3) := by decide +kernel
theorem dM_alias_107 : decode cM_alias 107 = .ok (.iconst 4, 1) := by decide +kernel
theorem dM_alias_108 : decode cM_alias 108 = .ok (.ireturn, 1) := by decide +kernel
theorem dM_clashes_0 : decode cM_clashes 0 = .ok (.aload_n 0, 1) := by decide +kernel
theorem dM_clashes_1 : decode cM_clashes 1 = .ok (.iload_n 1, 1) := by decide +kernel
theorem dM_clashes_2 : decode cM_clashes 2 = .ok (.iconst 0, 1) := by decide +kernel
theorem dM_clashes_3 : decode cM_clashes 3 = .ok (.sipush 255, 3) := by decide +kernel
theorem dM_clashes_6 : decode cM_clashes 6 = .ok (.invokestatic 55, 3) := by decide +kernel
theorem dM_clashes_9 : decode cM_clashes 9 = .ok (.ifCond .ne 7, 3) := by decide +kernel
theorem dM_clashes_12 : decode cM_clashes 12 = .ok (.iconst 1, 1) := by decide +kernel
theorem dM_clashes_13 : decode cM_clashes 13 = .ok (.goto 4, 3) := by decide +kernel
theorem dM_clashes_16 : decode cM_clashes 16 = .ok (.iconst 0, 1) := by decide +kernel
theorem dM_clashes_17 : decode cM_clashes 17 = .ok (.iconst 0, 1) := by decide +kernel
theorem dM_clashes_18 : decode cM_clashes 18 = .ok (.iconst 0, 1) := by decide +kernel
theorem dM_clashes_19 : decode cM_clashes 19 = .ok (.invokevirtual 69, 3) := by decide +kernel
theorem dM_clashes_22 : decode cM_clashes 22 = .ok (.ifCond .eq 5, 3) := by decide +kernel
theorem dM_clashes_25 : decode cM_clashes 25 = .ok (.iconst 0, 1) := by decide +kernel
theorem dM_clashes_26 : decode cM_clashes 26 = .ok (.ireturn, 1) := by decide +kernel
theorem dM_clashes_27 : decode cM_clashes 27 = .ok (.aload_n 0, 1) := by decide +kernel
theorem dM_clashes_28 : decode cM_clashes 28 = .ok (.invokevirtual 97, 3) := by decide +kernel
theorem dM_clashes_31 : decode cM_clashes 31 = .ok (.aload_n 0, 1) := by decide +kernel
theorem dM_clashes_32 : decode cM_clashes 32 = .ok (.iload_n 1, 1) := by decide +kernel
theorem dM_clashes_33 : decode cM_clashes 33 = .ok (.invokevirtual 106, 3) := by decide +kernel
theorem dM_clashes_36 : decode cM_clashes 36 = .ok (.ireturn, 1) := by decide +kernel
theorem dM_clashesIn_0 : decode cM_clashesIn 0 = .ok (.iconst 0, 1) := by decide +kernel
theorem dM_clashesIn_1 : decode cM_clashesIn 1 = .ok (.istore_n 2, 1) := by decide +kernel
theorem dM_clashesIn_2 : decode cM_clashesIn 2 = .ok (.iconst 0, 1) := by decide +kernel
theorem dM_clashesIn_3 : decode cM_clashesIn 3 = .ok (.istore_n 3, 1) := by decide +kernel
theorem dM_clashesIn_4 : decode cM_clashesIn 4 = .ok (.iload_n 3, 1) := by decide +kernel
theorem dM_clashesIn_5 : decode cM_clashesIn 5 = .ok (.aload_n 0, 1) := by decide +kernel
theorem dM_clashesIn_6 : decode cM_clashesIn 6 = .ok (.getfield 52, 3) := by decide +kernel
theorem dM_clashesIn_9 : decode cM_clashesIn 9 = .ok (.if_icmp .ge 133, 3) := by decide +kernel
theorem dM_clashesIn_12 : decode cM_clashesIn 12 = .ok (.iload_n 3, 1) := by decide +kernel
theorem dM_clashesIn_13 : decode cM_clashesIn 13 = .ok (.iconst 1, 1) := by decide +kernel
theorem dM_clashesIn_14 : decode cM_clashesIn 14 = .ok (.iadd, 1) := by decide +kernel
theorem dM_clashesIn_15 : decode cM_clashesIn 15 = .ok (.istore 4, 2) := by decide +kernel
theorem dM_clashesIn_17 : decode cM_clashesIn 17 = .ok (.iload 4, 2) := by decide +kernel
theorem dM_clashesIn_19 : decode cM_clashesIn 19 = .ok (.aload_n 0, 1) := by decide +kernel
theorem dM_clashesIn_20 : decode cM_clashesIn 20 = .ok (.getfield 52, 3) := by decide +kernel
theorem dM_clashesIn_23 : decode cM_clashesIn 23 = .ok (.if_icmp .ge 113, 3) := by decide +kernel
theorem dM_clashesIn_26 : decode cM_clashesIn 26 = .ok (.aload_n 0, 1) := by decide +kernel
theorem dM_clashesIn_27 : decode cM_clashesIn 27 = .ok (.getfield 22, 3) := by decide +kernel
theorem dM_clashesIn_30 : decode cM_clashesIn 30 = .ok (.iload_n 3, 1) := by decide +kernel
theorem dM_clashesIn_31 : decode cM_clashesIn 31 = .ok (.iaload, 1) := by decide +kernel
theorem dM_clashesIn_32 : decode cM_clashesIn 32 = .ok (.iload_n 1, 1) := by decide +kernel
theorem dM_clashesIn_33 : decode cM_clashesIn 33 = .ok (.iconst (-1), 1) := by decide +kernel
theorem dM_clashesIn_34 : decode cM_clashesIn 34 = .ok (.ixor, 1) := by decide +kernel
theorem dM_clashesIn_35 : decode cM_clashesIn 35 = .ok (.iand, 1) := by decide +kernel
theorem dM_clashesIn_36 : decode cM_clashesIn 36 = .ok (.ifCond .ne 21, 3) := by decide +kernel
theorem dM_clashesIn_39 : decode cM_clashesIn 39 = .ok (.aload_n 0, 1) := by decide +kernel
theorem dM_clashesIn_40 : decode cM_clashesIn 40 = .ok (.getfield 22, 3) := by decide +kernel
theorem dM_clashesIn_43 : decode cM_clashesIn 43 = .ok (.iload 4, 2) := by decide +kernel
theorem dM_clashesIn_45 : decode cM_clashesIn 45 = .ok (.iaload, 1) := by decide +kernel
theorem dM_clashesIn_46 : decode cM_clashesIn 46 = .ok (.iload_n 1, 1) := by decide +kernel
theorem dM_clashesIn_47 : decode cM_clashesIn 47 = .ok (.iconst (-1), 1) := by decide +kernel
theorem dM_clashesIn_48 : decode cM_clashesIn 48 = .ok (.ixor, 1) := by decide +kernel
theorem dM_clashesIn_49 : decode cM_clashesIn 49 = .ok (.iand, 1) := by decide +kernel
theorem dM_clashesIn_50 : decode cM_clashesIn 50 = .ok (.ifCond .ne 7, 3) := by decide +kernel
theorem dM_clashesIn_53 : decode cM_clashesIn 53 = .ok (.iconst 1, 1) := by decide +kernel
theorem dM_clashesIn_54 : decode cM_clashesIn 54 = .ok (.goto 4, 3) := by decide +kernel
theorem dM_clashesIn_57 : decode cM_clashesIn 57 = .ok (.iconst 0, 1) := by decide +kernel
theorem dM_clashesIn_58 : decode cM_clashesIn 58 = .ok (.istore 5, 2) := by decide +kernel
theorem dM_clashesIn_60 : decode cM_clashesIn 60 = .ok (.aload_n 0, 1) := by decide +kernel
theorem dM_clashesIn_61 : decode cM_clashesIn 61 = .ok (.getfield 29, 3) := by decide +kernel
theorem dM_clashesIn_64 : decode cM_clashesIn 64 = .ok (.bipush 40, 2) := by decide +kernel
theorem dM_clashesIn_66 : decode cM_clashesIn 66 = .ok (.iload_n 3, 1) := by decide +kernel
theorem dM_clashesIn_67 : decode cM_clashesIn 67 = .ok (.imul, 1) := by decide +kernel
theorem dM_clashesIn_68 : decode cM_clashesIn 68 = .ok (.iload 4, 2) := by decide +kernel
theorem dM_clashesIn_70 : decode cM_clashesIn 70 = .ok (.iadd, 1) := by decide +kernel
theorem dM_clashesIn_71 : decode cM_clashesIn 71 = .ok (.iaload, 1) := by decide +kernel
theorem dM_clashesIn_72 : decode cM_clashesIn 72 = .ok (.ifCond .le 37, 3) := by decide +kernel
theorem dM_clashesIn_75 : decode cM_clashesIn 75 = .ok (.aload_n 0, 1) := by decide +kernel
theorem dM_clashesIn_76 : decode cM_clashesIn 76 = .ok (.getfield 32, 3) := by decide +kernel
theorem dM_clashesIn_79 : decode cM_clashesIn 79 = .ok (.bipush 40, 2) := by decide +kernel
theorem dM_clashesIn_81 : decode cM_clashesIn 81 = .ok (.iload_n 3, 1) := by decide +kernel
theorem dM_clashesIn_82 : decode cM_clashesIn 82 = .ok (.imul, 1) := by decide +kernel
theorem dM_clashesIn_83 : decode cM_clashesIn 83 = .ok (.iload 4, 2) := by decide +kernel
theorem dM_clashesIn_85 : decode cM_clashesIn 85 = .ok (.iadd, 1) := by decide +kernel
theorem dM_clashesIn_86 : decode cM_clashesIn 86 = .ok (.baload, 1) := by decide +kernel
theorem dM_clashesIn_87 : decode cM_clashesIn 87 = .ok (.ifCond .ne 22, 3) := by decide +kernel
theorem dM_clashesIn_90 : decode cM_clashesIn 90 = .ok (.aload_n 0, 1) := by decide +kernel
theorem dM_clashesIn_91 : decode cM_clashesIn 91 = .ok (.getfield 32, 3) := by decide +kernel
theorem dM_clashesIn_94 : decode cM_clashesIn 94 = .ok (.bipush 40, 2) := by decide +kernel
theorem dM_clashesIn_96 : decode cM_clashesIn 96 = .ok (.iload 4, 2) := by decide +kernel
theorem dM_clashesIn_98 : decode cM_clashesIn 98 = .ok (.imul, 1) := by decide +kernel
theorem dM_clashesIn_99 : decode cM_clashesIn 99 = .ok (.iload_n 3, 1) := by decide +kernel
theorem dM_clashesIn_100 : decode cM_clashesIn 100 = .ok (.iadd, 1) := by decide +kernel
theorem dM_clashesIn_101 : decode cM_clashesIn 101 = .ok (.baload, 1) := by decide +kernel
theorem dM_clashesIn_102 : decode cM_clashesIn 102 = .ok (.ifCond .ne 7, 3) := by decide +kernel
theorem dM_clashesIn_105 : decode cM_clashesIn 105 = .ok (.iconst 1, 1) := by decide +kernel
theorem dM_clashesIn_106 : decode cM_clashesIn 106 = .ok (.goto 4, 3) := by decide +kernel
theorem dM_clashesIn_109 : decode cM_clashesIn 109 = .ok (.iconst 0, 1) := by decide +kernel
theorem dM_clashesIn_110 : decode cM_clashesIn 110 = .ok (.istore 6, 2) := by decide +kernel
theorem dM_clashesIn_112 : decode cM_clashesIn 112 = .ok (.iload_n 2, 1) := by decide +kernel
theorem dM_clashesIn_113 : decode cM_clashesIn 113 = .ok (.iload 5, 2) := by decide +kernel
theorem dM_clashesIn_115 : decode cM_clashesIn 115 = .ok (.ifCond .eq 12, 3) := by decide +kernel
theorem dM_clashesIn_118 : decode cM_clashesIn 118 = .ok (.iload 6, 2) := by decide +kernel
theorem dM_clashesIn_120 : decode cM_clashesIn 120 = .ok (.ifCond .eq 7, 3) := by decide +kernel
theorem dM_clashesIn_123 : decode cM_clashesIn 123 = .ok (.iconst 1, 1) := by decide +kernel
theorem dM_clashesIn_124 : decode cM_clashesIn 124 = .ok (.goto 4, 3) := by decide +kernel
theorem dM_clashesIn_127 : decode cM_clashesIn 127 = .ok (.iconst 0, 1) := by decide +kernel
theorem dM_clashesIn_128 : decode cM_clashesIn 128 = .ok (.iadd, 1) := by decide +kernel
theorem dM_clashesIn_129 : decode cM_clashesIn 129 = .ok (.istore_n 2, 1) := by decide +kernel
theorem dM_clashesIn_130 : decode cM_clashesIn 130 = .ok (.iinc 4 1, 3) := by decide +kernel
theorem dM_clashesIn_133 : decode cM_clashesIn 133 = .ok (.goto (-116), 3) := by decide +kernel
theorem dM_clashesIn_136 : decode cM_clashesIn 136 = .ok (.iinc 3 1, 3) := by decide +kernel
theorem dM_clashesIn_139 : decode cM_clashesIn 139 = .ok (.goto (-135), 3) := by decide +kernel
theorem dM_clashesIn_142 : decode cM_clashesIn 142 = .ok (.iload_n 2, 1) := by decide +kernel
theorem dM_clashesIn_143 : decode cM_clashesIn 143 = .ok (.ireturn, 1) := by decide +kernel
theorem dM_worst_0 : decode cM_worst 0 = .ok (.aload_n 0, 1) := by decide +kernel
theorem dM_worst_1 : decode cM_worst 1 = .ok (.iconst 0, 1) := by decide +kernel
theorem dM_worst_2 : decode cM_worst 2 = .ok (.putfield 49, 3) := by decide +kernel
theorem dM_worst_5 : decode cM_worst 5 = .ok (.aload_n 0, 1) := by decide +kernel
theorem dM_worst_6 : decode cM_worst 6 = .ok (.invokevirtual 97, 3) := by decide +kernel
theorem dM_worst_9 : decode cM_worst 9 = .ok (.iconst 0, 1) := by decide +kernel
theorem dM_worst_10 : decode cM_worst 10 = .ok (.istore_n 1, 1) := by decide +kernel
theorem dM_worst_11 : decode cM_worst 11 = .ok (.aload_n 0, 1) := by decide +kernel
theorem dM_worst_12 : decode cM_worst 12 = .ok (.iconst 0, 1) := by decide +kernel
theorem dM_worst_13 : decode cM_worst 13 = .ok (.invokevirtual 106, 3) := by decide +kernel
theorem dM_worst_16 : decode cM_worst 16 = .ok (.istore_n 2, 1) := by decide +kernel
theorem dM_worst_17 : decode cM_worst 17 = .ok (.iconst 1, 1) := by decide +kernel
theorem dM_worst_18 : decode cM_worst 18 = .ok (.istore_n 3, 1) := by decide +kernel
theorem dM_worst_19 : decode cM_worst 19 = .ok (.iload_n 3, 1) := by decide +kernel
theorem dM_worst_20 : decode cM_worst 20 = .ok (.sipush 256, 3) := by decide +kernel
theorem dM_worst_23 : decode cM_worst 23 = .ok (.if_icmp .ge 41, 3) := by decide +kernel
theorem dM_worst_26 : decode cM_worst 26 = .ok (.aload_n 0, 1) := by decide +kernel
theorem dM_worst_27 : decode cM_worst 27 = .ok (.iload_n 3, 1) := by decide +kernel
theorem dM_worst_28 : decode cM_worst 28 = .ok (.invokevirtual 106, 3) := by decide +kernel
theorem dM_worst_31 : decode cM_worst 31 = .ok (.istore 4, 2) := by decide +kernel
theorem dM_worst_33 : decode cM_worst 33 = .ok (.iload 4, 2) := by decide +kernel
theorem dM_worst_35 : decode cM_worst 35 = .ok (.iload_n 2, 1) := by decide +kernel
theorem dM_worst_36 : decode cM_worst 36 = .ok (.if_icmp .le 7, 3) := by decide +kernel
theorem dM_worst_39 : decode cM_worst 39 = .ok (.iload_n 3, 1) := by decide +kernel
theorem dM_worst_40 : decode cM_worst 40 = .ok (.goto 4, 3) := by decide +kernel
theorem dM_worst_43 : decode cM_worst 43 = .ok (.iload_n 1, 1) := by decide +kernel
theorem dM_worst_44 : decode cM_worst 44 = .ok (.istore_n 1, 1) := by decide +kernel
theorem dM_worst_45 : decode cM_worst 45 = .ok (.iload 4, 2) := by decide +kernel
theorem dM_worst_47 : decode cM_worst 47 = .ok (.iload_n 2, 1) := by decide +kernel
theorem dM_worst_48 : decode cM_worst 48 = .ok (.if_icmp .le 8, 3) := by decide +kernel
theorem dM_worst_51 : decode cM_worst 51 = .ok (.iload 4, 2) := by decide +kernel
theorem dM_worst_53 : decode cM_worst 53 = .ok (.goto 4, 3) := by decide +kernel
theorem dM_worst_56 : decode cM_worst 56 = .ok (.iload_n 2, 1) := by decide +kernel
theorem dM_worst_57 : decode cM_worst 57 = .ok (.istore_n 2, 1) := by decide +kernel
theorem dM_worst_58 : decode cM_worst 58 = .ok (.iinc 3 1, 3) := by decide +kernel
theorem dM_worst_61 : decode cM_worst 61 = .ok (.goto (-42), 3) := by decide +kernel
theorem dM_worst_64 : decode cM_worst 64 = .ok (.iload_n 1, 1) := by decide +kernel
theorem dM_worst_65 : decode cM_worst 65 = .ok (.ireturn, 1) := by decide +kernel
theorem dM_meaningless_0 : decode cM_meaningless 0 = .ok (.aload_n 0, 1) := by decide +kernel
theorem dM_meaningless_1 : decode cM_meaningless 1 = .ok (.aload_n 0, 1) := by decide +kernel
theorem dM_meaningless_2 : decode cM_meaningless 2 = .ok (.iload_n 1, 1) := by decide +kernel
theorem dM_meaningless_3 : decode cM_meaningless 3 = .ok (.invokevirtual 82, 3) := by decide +kernel
theorem dM_meaningless_6 : decode cM_meaningless 6 = .ok (.ifCond .ne 7, 3) := by decide +kernel
theorem dM_meaningless_9 : decode cM_meaningless 9 = .ok (.iconst 1, 1) := by decide +kernel
theorem dM_meaningless_10 : decode cM_meaningless 10 = .ok (.goto 4, 3) := by decide +kernel
theorem dM_meaningless_13 : decode cM_meaningless 13 = .ok (.iconst 0, 1) := by decide +kernel
theorem dM_meaningless_14 : decode cM_meaningless 14 = .ok (.iconst 0, 1) := by decide +kernel
theorem dM_meaningless_15 : decode cM_meaningless 15 = .ok (.iconst 0, 1) := by decide +kernel
theorem dM_meaningless_16 : decode cM_meaningless 16 = .ok (.invokevirtual 69, 3) := by decide +kernel
theorem dM_meaningless_19 : decode cM_meaningless 19 = .ok (.ifCond .eq 7, 3) := by decide +kernel
theorem dM_meaningless_22 : decode cM_meaningless 22 = .ok (.iconst 0, 1) := by decide +kernel
theorem dM_meaningless_23 : decode cM_meaningless 23 = .ok (.goto 11, 3) := by decide +kernel
theorem dM_meaningless_26 : decode cM_meaningless 26 = .ok (.aload_n 0, 1) := by decide +kernel
theorem dM_meaningless_27 : decode cM_meaningless 27 = .ok (.iload_n 1, 1) := by decide +kernel
theorem dM_meaningless_28 : decode cM_meaningless 28 = .ok (.invokevirtual 109, 3) := by decide +kernel
theorem dM_meaningless_31 : decode cM_meaningless 31 = .ok (.invokestatic 63, 3) := by decide +kernel
theorem dM_meaningless_34 : decode cM_meaningless 34 = .ok (.ireturn, 1) := by decide +kernel
theorem dM_idleBits_0 : decode cM_idleBits 0 = .ok (.iconst 1, 1) := by decide +kernel
theorem dM_idleBits_1 : decode cM_idleBits 1 = .ok (.aload_n 0, 1) := by decide +kernel
theorem dM_idleBits_2 : decode cM_idleBits 2 = .ok (.getfield 39, 3) := by decide +kernel
theorem dM_idleBits_5 : decode cM_idleBits 5 = .ok (.ishl, 1) := by decide +kernel
theorem dM_idleBits_6 : decode cM_idleBits 6 = .ok (.iconst 1, 1) := by decide +kernel
theorem dM_idleBits_7 : decode cM_idleBits 7 = .ok (.isub, 1) := by decide +kernel
theorem dM_idleBits_8 : decode cM_idleBits 8 = .ok (.aload_n 0, 1) := by decide +kernel
theorem dM_idleBits_9 : decode cM_idleBits 9 = .ok (.getfield 7, 3) := by decide +kernel
theorem dM_idleBits_12 : decode cM_idleBits 12 = .ok (.iload_n 1, 1) := by decide +kernel
theorem dM_idleBits_13 : decode cM_idleBits 13 = .ok (.iaload, 1) := by decide +kernel
theorem dM_idleBits_14 : decode cM_idleBits 14 = .ok (.iconst (-1), 1) := by decide +kernel
theorem dM_idleBits_15 : decode cM_idleBits 15 = .ok (.ixor, 1) := by decide +kernel
theorem dM_idleBits_16 : decode cM_idleBits 16 = .ok (.iand, 1) := by decide +kernel
theorem dM_idleBits_17 : decode cM_idleBits 17 = .ok (.aload_n 0, 1) := by decide +kernel
theorem dM_idleBits_18 : decode cM_idleBits 18 = .ok (.getfield 16, 3) := by decide +kernel
theorem dM_idleBits_21 : decode cM_idleBits 21 = .ok (.iload_n 1, 1) := by decide +kernel
theorem dM_idleBits_22 : decode cM_idleBits 22 = .ok (.iaload, 1) := by decide +kernel
theorem dM_idleBits_23 : decode cM_idleBits 23 = .ok (.iconst (-1), 1) := by decide +kernel
theorem dM_idleBits_24 : decode cM_idleBits 24 = .ok (.ixor, 1) := by decide +kernel
theorem dM_idleBits_25 : decode cM_idleBits 25 = .ok (.iand, 1) := by decide +kernel
theorem dM_idleBits_26 : decode cM_idleBits 26 = .ok (.aload_n 0, 1) := by decide +kernel
theorem dM_idleBits_27 : decode cM_idleBits 27 = .ok (.getfield 19, 3) := by decide +kernel
theorem dM_idleBits_30 : decode cM_idleBits 30 = .ok (.iload_n 1, 1) := by decide +kernel
theorem dM_idleBits_31 : decode cM_idleBits 31 = .ok (.iaload, 1) := by decide +kernel
theorem dM_idleBits_32 : decode cM_idleBits 32 = .ok (.iconst (-1), 1) := by decide +kernel
theorem dM_idleBits_33 : decode cM_idleBits 33 = .ok (.ixor, 1) := by decide +kernel
theorem dM_idleBits_34 : decode cM_idleBits 34 = .ok (.iand, 1) := by decide +kernel
theorem dM_idleBits_35 : decode cM_idleBits 35 = .ok (.ireturn, 1) := by decide +kernel
theorem dM_idle_0 : decode cM_idle 0 = .ok (.aload_n 0, 1) := by decide +kernel
theorem dM_idle_1 : decode cM_idle 1 = .ok (.iload_n 1, 1) := by decide +kernel
theorem dM_idle_2 : decode cM_idle 2 = .ok (.invokevirtual 82, 3) := by decide +kernel
theorem dM_idle_5 : decode cM_idle 5 = .ok (.ifCond .eq 11, 3) := by decide +kernel
theorem dM_idle_8 : decode cM_idle 8 = .ok (.aload_n 0, 1) := by decide +kernel
theorem dM_idle_9 : decode cM_idle 9 = .ok (.iload_n 1, 1) := by decide +kernel
theorem dM_idle_10 : decode cM_idle 10 = .ok (.invokevirtual 109, 3) := by decide +kernel
theorem dM_idle_13 : decode cM_idle 13 = .ok (.goto 4, 3) := by decide +kernel
theorem dM_idle_16 : decode cM_idle 16 = .ok (.iconst 0, 1) := by decide +kernel
theorem dM_idle_17 : decode cM_idle 17 = .ok (.istore_n 3, 1) := by decide +kernel
theorem dM_idle_18 : decode cM_idle 18 = .ok (.aload_n 0, 1) := by decide +kernel
theorem dM_idle_19 : decode cM_idle 19 = .ok (.aload_n 0, 1) := by decide +kernel
theorem dM_idle_20 : decode cM_idle 20 = .ok (.iload_n 1, 1) := by decide +kernel
theorem dM_idle_21 : decode cM_idle 21 = .ok (.invokevirtual 82, 3) := by decide +kernel
theorem dM_idle_24 : decode cM_idle 24 = .ok (.ifCond .ne 7, 3) := by decide +kernel
theorem dM_idle_27 : decode cM_idle 27 = .ok (.iconst 1, 1) := by decide +kernel
theorem dM_idle_28 : decode cM_idle 28 = .ok (.goto 4, 3) := by decide +kernel
theorem dM_idle_31 : decode cM_idle 31 = .ok (.iconst 0, 1) := by decide +kernel
theorem dM_idle_32 : decode cM_idle 32 = .ok (.aload_n 0, 1) := by decide +kernel
theorem dM_idle_33 : decode cM_idle 33 = .ok (.iload_n 1, 1) := by decide +kernel
theorem dM_idle_34 : decode cM_idle 34 = .ok (.invokevirtual 82, 3) := by decide +kernel
theorem dM_idle_37 : decode cM_idle 37 = .ok (.ifCond .eq 21, 3) := by decide +kernel
theorem dM_idle_40 : decode cM_idle 40 = .ok (.iload_n 2, 1) := by decide +kernel
theorem dM_idle_41 : decode cM_idle 41 = .ok (.iconst 0, 1) := by decide +kernel
theorem dM_idle_42 : decode cM_idle 42 = .ok (.iload_n 3, 1) := by decide +kernel
theorem dM_idle_43 : decode cM_idle 43 = .ok (.invokestatic 63, 3) := by decide +kernel
theorem dM_idle_46 : decode cM_idle 46 = .ok (.iconst 1, 1) := by decide +kernel
theorem dM_idle_47 : decode cM_idle 47 = .ok (.isub, 1) := by decide +kernel
theorem dM_idle_48 : decode cM_idle 48 = .ok (.invokestatic 55, 3) := by decide +kernel
theorem dM_idle_51 : decode cM_idle 51 = .ok (.ifCond .ne 7, 3) := by decide +kernel
theorem dM_idle_54 : decode cM_idle 54 = .ok (.iconst 1, 1) := by decide +kernel
theorem dM_idle_55 : decode cM_idle 55 = .ok (.goto 4, 3) := by decide +kernel
theorem dM_idle_58 : decode cM_idle 58 = .ok (.iconst 0, 1) := by decide +kernel
theorem dM_idle_59 : decode cM_idle 59 = .ok (.iconst 0, 1) := by decide +kernel
theorem dM_idle_60 : decode cM_idle 60 = .ok (.invokevirtual 69, 3) := by decide +kernel
theorem dM_idle_63 : decode cM_idle 63 = .ok (.ifCond .eq 5, 3) := by decide +kernel
theorem dM_idle_66 : decode cM_idle 66 = .ok (.iconst 0, 1) := by decide +kernel
theorem dM_idle_67 : decode cM_idle 67 = .ok (.ireturn, 1) := by decide +kernel
theorem dM_idle_68 : decode cM_idle 68 = .ok (.iload_n 2, 1) := by decide +kernel
theorem dM_idle_69 : decode cM_idle 69 = .ok (.istore 4, 2) := by decide +kernel
theorem dM_idle_71 : decode cM_idle 71 = .ok (.iconst 0, 1) := by decide +kernel
theorem dM_idle_72 : decode cM_idle 72 = .ok (.istore 5, 2) := by decide +kernel
theorem dM_idle_74 : decode cM_idle 74 = .ok (.iload 4, 2) := by decide +kernel
theorem dM_idle_76 : decode cM_idle 76 = .ok (.ifCond .gt 12, 3) := by decide +kernel
theorem dM_idle_79 : decode cM_idle 79 = .ok (.iload_n 3, 1) := by decide +kernel
theorem dM_idle_80 : decode cM_idle 80 = .ok (.iload 5, 2) := by decide +kernel
theorem dM_idle_82 : decode cM_idle 82 = .ok (.ishr, 1) := by decide +kernel
theorem dM_idle_83 : decode cM_idle 83 = .ok (.iconst 1, 1) := by decide +kernel
theorem dM_idle_84 : decode cM_idle 84 = .ok (.iand, 1) := by decide +kernel
theorem dM_idle_85 : decode cM_idle 85 = .ok (.ifCond .ne 20, 3) := by decide +kernel
theorem dM_idle_88 : decode cM_idle 88 = .ok (.iload 4, 2) := by decide +kernel
theorem dM_idle_90 : decode cM_idle 90 = .ok (.iload_n 3, 1) := by decide +kernel
theorem dM_idle_91 : decode cM_idle 91 = .ok (.iload 5, 2) := by decide +kernel
theorem dM_idle_93 : decode cM_idle 93 = .ok (.ishr, 1) := by decide +kernel
theorem dM_idle_94 : decode cM_idle 94 = .ok (.iconst 1, 1) := by decide +kernel
theorem dM_idle_95 : decode cM_idle 95 = .ok (.iand, 1) := by decide +kernel
theorem dM_idle_96 : decode cM_idle 96 = .ok (.isub, 1) := by decide +kernel
theorem dM_idle_97 : decode cM_idle 97 = .ok (.istore 4, 2) := by decide +kernel
theorem dM_idle_99 : decode cM_idle 99 = .ok (.iinc 5 1, 3) := by decide +kernel
theorem dM_idle_102 : decode cM_idle 102 = .ok (.goto (-28), 3) := by decide +kernel
theorem dM_idle_105 : decode cM_idle 105 = .ok (.iload 5, 2) := by decide +kernel
theorem dM_idle_107 : decode cM_idle 107 = .ok (.ireturn, 1) := by decide +kernel
theorem dM_count_0 : decode cM_count 0 = .ok (.aload_n 0, 1) := by decide +kernel
theorem dM_count_1 : decode cM_count 1 = .ok (.aload_n 0, 1) := by decide +kernel
theorem dM_count_2 : decode cM_count 2 = .ok (.iload_n 1, 1) := by decide +kernel
theorem dM_count_3 : decode cM_count 3 = .ok (.invokevirtual 82, 3) := by decide +kernel
theorem dM_count_6 : decode cM_count 6 = .ok (.ifCond .ne 7, 3) := by decide +kernel
theorem dM_count_9 : decode cM_count 9 = .ok (.iconst 1, 1) := by decide +kernel
theorem dM_count_10 : decode cM_count 10 = .ok (.goto 4, 3) := by decide +kernel
theorem dM_count_13 : decode cM_count 13 = .ok (.iconst 0, 1) := by decide +kernel
theorem dM_count_14 : decode cM_count 14 = .ok (.iconst 0, 1) := by decide +kernel
theorem dM_count_15 : decode cM_count 15 = .ok (.iconst 0, 1) := by decide +kernel
theorem dM_count_16 : decode cM_count 16 = .ok (.invokevirtual 69, 3) := by decide +kernel
theorem dM_count_19 : decode cM_count 19 = .ok (.ifCond .eq 7, 3) := by decide +kernel
theorem dM_count_22 : decode cM_count 22 = .ok (.iconst 0, 1) := by decide +kernel
theorem dM_count_23 : decode cM_count 23 = .ok (.goto 8, 3) := by decide +kernel
theorem dM_count_26 : decode cM_count 26 = .ok (.aload_n 0, 1) := by decide +kernel
theorem dM_count_27 : decode cM_count 27 = .ok (.iload_n 1, 1) := by decide +kernel
theorem dM_count_28 : decode cM_count 28 = .ok (.invokevirtual 112, 3) := by decide +kernel
theorem dM_count_31 : decode cM_count 31 = .ok (.ireturn, 1) := by decide +kernel
theorem dM_countOf_0 : decode cM_countOf 0 = .ok (.iconst 0, 1) := by decide +kernel
theorem dM_countOf_1 : decode cM_countOf 1 = .ok (.istore_n 2, 1) := by decide +kernel
theorem dM_countOf_2 : decode cM_countOf 2 = .ok (.iconst 0, 1) := by decide +kernel
theorem dM_countOf_3 : decode cM_countOf 3 = .ok (.istore_n 3, 1) := by decide +kernel
theorem dM_countOf_4 : decode cM_countOf 4 = .ok (.iload_n 3, 1) := by decide +kernel
theorem dM_countOf_5 : decode cM_countOf 5 = .ok (.aload_n 0, 1) := by decide +kernel
theorem dM_countOf_6 : decode cM_countOf 6 = .ok (.getfield 43, 3) := by decide +kernel
theorem dM_countOf_9 : decode cM_countOf 9 = .ok (.if_icmp .ge 51, 3) := by decide +kernel
theorem dM_countOf_12 : decode cM_countOf 12 = .ok (.aload_n 0, 1) := by decide +kernel
theorem dM_countOf_13 : decode cM_countOf 13 = .ok (.getfield 26, 3) := by decide +kernel
theorem dM_countOf_16 : decode cM_countOf 16 = .ok (.sipush 2048, 3) := by decide +kernel
theorem dM_countOf_19 : decode cM_countOf 19 = .ok (.iload_n 1, 1) := by decide +kernel
theorem dM_countOf_20 : decode cM_countOf 20 = .ok (.imul, 1) := by decide +kernel
theorem dM_countOf_21 : decode cM_countOf 21 = .ok (.iload_n 3, 1) := by decide +kernel
theorem dM_countOf_22 : decode cM_countOf 22 = .ok (.iadd, 1) := by decide +kernel
theorem dM_countOf_23 : decode cM_countOf 23 = .ok (.iaload, 1) := by decide +kernel
theorem dM_countOf_24 : decode cM_countOf 24 = .ok (.istore 4, 2) := by decide +kernel
theorem dM_countOf_26 : decode cM_countOf 26 = .ok (.iload_n 2, 1) := by decide +kernel
theorem dM_countOf_27 : decode cM_countOf 27 = .ok (.iload 4, 2) := by decide +kernel
theorem dM_countOf_29 : decode cM_countOf 29 = .ok (.ifCond .ne 7, 3) := by decide +kernel
theorem dM_countOf_32 : decode cM_countOf 32 = .ok (.iconst 0, 1) := by decide +kernel
theorem dM_countOf_33 : decode cM_countOf 33 = .ok (.goto 19, 3) := by decide +kernel
theorem dM_countOf_36 : decode cM_countOf 36 = .ok (.iload 4, 2) := by decide +kernel
theorem dM_countOf_38 : decode cM_countOf 38 = .ok (.iconst (-1), 1) := by decide +kernel
theorem dM_countOf_39 : decode cM_countOf 39 = .ok (.if_icmp .ne 8, 3) := by decide +kernel
theorem dM_countOf_42 : decode cM_countOf 42 = .ok (.bipush 32, 2) := by decide +kernel
theorem dM_countOf_44 : decode cM_countOf 44 = .ok (.goto 8, 3) := by decide +kernel
theorem dM_countOf_47 : decode cM_countOf 47 = .ok (.iload 4, 2) := by decide +kernel
theorem dM_countOf_49 : decode cM_countOf 49 = .ok (.invokestatic 63, 3) := by decide +kernel
theorem dM_countOf_52 : decode cM_countOf 52 = .ok (.iadd, 1) := by decide +kernel
theorem dM_countOf_53 : decode cM_countOf 53 = .ok (.istore_n 2, 1) := by decide +kernel
theorem dM_countOf_54 : decode cM_countOf 54 = .ok (.iinc 3 1, 3) := by decide +kernel
theorem dM_countOf_57 : decode cM_countOf 57 = .ok (.goto (-53), 3) := by decide +kernel
theorem dM_countOf_60 : decode cM_countOf 60 = .ok (.iload_n 2, 1) := by decide +kernel
theorem dM_countOf_61 : decode cM_countOf 61 = .ok (.ireturn, 1) := by decide +kernel
theorem dM_gaps_0 : decode cM_gaps 0 = .ok (.aload_n 0, 1) := by decide +kernel
theorem dM_gaps_1 : decode cM_gaps 1 = .ok (.iconst 0, 1) := by decide +kernel
theorem dM_gaps_2 : decode cM_gaps 2 = .ok (.putfield 49, 3) := by decide +kernel
theorem dM_gaps_5 : decode cM_gaps 5 = .ok (.aload_n 0, 1) := by decide +kernel
theorem dM_gaps_6 : decode cM_gaps 6 = .ok (.invokevirtual 116, 3) := by decide +kernel
theorem dM_gaps_9 : decode cM_gaps 9 = .ok (.aload_n 0, 1) := by decide +kernel
theorem dM_gaps_10 : decode cM_gaps 10 = .ok (.bipush 40, 2) := by decide +kernel
theorem dM_gaps_12 : decode cM_gaps 12 = .ok (.invokevirtual 112, 3) := by decide +kernel
theorem dM_gaps_15 : decode cM_gaps 15 = .ok (.ireturn, 1) := by decide +kernel
theorem dM_lack_0 : decode cM_lack 0 = .ok (.iconst 0, 1) := by decide +kernel
theorem dM_lack_1 : decode cM_lack 1 = .ok (.istore_n 1, 1) := by decide +kernel
theorem dM_lack_2 : decode cM_lack 2 = .ok (.iload_n 1, 1) := by decide +kernel
theorem dM_lack_3 : decode cM_lack 3 = .ok (.aload_n 0, 1) := by decide +kernel
theorem dM_lack_4 : decode cM_lack 4 = .ok (.getfield 43, 3) := by decide +kernel
theorem dM_lack_7 : decode cM_lack 7 = .ok (.if_icmp .ge 59, 3) := by decide +kernel
theorem dM_lack_10 : decode cM_lack 10 = .ok (.iconst 0, 1) := by decide +kernel
theorem dM_lack_11 : decode cM_lack 11 = .ok (.istore_n 2, 1) := by decide +kernel
theorem dM_lack_12 : decode cM_lack 12 = .ok (.iconst 0, 1) := by decide +kernel
theorem dM_lack_13 : decode cM_lack 13 = .ok (.istore_n 3, 1) := by decide +kernel
theorem dM_lack_14 : decode cM_lack 14 = .ok (.iload_n 3, 1) := by decide +kernel
theorem dM_lack_15 : decode cM_lack 15 = .ok (.aload_n 0, 1) := by decide +kernel
theorem dM_lack_16 : decode cM_lack 16 = .ok (.getfield 52, 3) := by decide +kernel
theorem dM_lack_19 : decode cM_lack 19 = .ok (.if_icmp .ge 24, 3) := by decide +kernel
theorem dM_lack_22 : decode cM_lack 22 = .ok (.iload_n 2, 1) := by decide +kernel
theorem dM_lack_23 : decode cM_lack 23 = .ok (.aload_n 0, 1) := by decide +kernel
theorem dM_lack_24 : decode cM_lack 24 = .ok (.getfield 26, 3) := by decide +kernel
theorem dM_lack_27 : decode cM_lack 27 = .ok (.sipush 2048, 3) := by decide +kernel
theorem dM_lack_30 : decode cM_lack 30 = .ok (.iload_n 3, 1) := by decide +kernel
theorem dM_lack_31 : decode cM_lack 31 = .ok (.imul, 1) := by decide +kernel
theorem dM_lack_32 : decode cM_lack 32 = .ok (.iload_n 1, 1) := by decide +kernel
theorem dM_lack_33 : decode cM_lack 33 = .ok (.iadd, 1) := by decide +kernel
theorem dM_lack_34 : decode cM_lack 34 = .ok (.iaload, 1) := by decide +kernel
theorem dM_lack_35 : decode cM_lack 35 = .ok (.ior, 1) := by decide +kernel
theorem dM_lack_36 : decode cM_lack 36 = .ok (.istore_n 2, 1) := by decide +kernel
theorem dM_lack_37 : decode cM_lack 37 = .ok (.iinc 3 1, 3) := by decide +kernel
theorem dM_lack_40 : decode cM_lack 40 = .ok (.goto (-26), 3) := by decide +kernel
theorem dM_lack_43 : decode cM_lack 43 = .ok (.aload_n 0, 1) := by decide +kernel
theorem dM_lack_44 : decode cM_lack 44 = .ok (.getfield 26, 3) := by decide +kernel
theorem dM_lack_47 : decode cM_lack 47 = .ok (.ldc 115, 2) := by decide +kernel
theorem dM_lack_49 : decode cM_lack 49 = .ok (.iload_n 1, 1) := by decide +kernel
theorem dM_lack_50 : decode cM_lack 50 = .ok (.iadd, 1) := by decide +kernel
theorem dM_lack_51 : decode cM_lack 51 = .ok (.iload_n 2, 1) := by decide +kernel
theorem dM_lack_52 : decode cM_lack 52 = .ok (.iconst (-1), 1) := by decide +kernel
theorem dM_lack_53 : decode cM_lack 53 = .ok (.ixor, 1) := by decide +kernel
theorem dM_lack_54 : decode cM_lack 54 = .ok (.aload_n 0, 1) := by decide +kernel
theorem dM_lack_55 : decode cM_lack 55 = .ok (.getfield 46, 3) := by decide +kernel
theorem dM_lack_58 : decode cM_lack 58 = .ok (.iand, 1) := by decide +kernel
theorem dM_lack_59 : decode cM_lack 59 = .ok (.iastore, 1) := by decide +kernel
theorem dM_lack_60 : decode cM_lack 60 = .ok (.iinc 1 1, 3) := by decide +kernel
theorem dM_lack_63 : decode cM_lack 63 = .ok (.goto (-61), 3) := by decide +kernel
theorem dM_lack_66 : decode cM_lack 66 = .ok (.return_, 1) := by decide +kernel
theorem dM_blocks_0 : decode cM_blocks 0 = .ok (.aload_n 0, 1) := by decide +kernel
theorem dM_blocks_1 : decode cM_blocks 1 = .ok (.iload_n 1, 1) := by decide +kernel
theorem dM_blocks_2 : decode cM_blocks 2 = .ok (.iconst (-1), 1) := by decide +kernel
theorem dM_blocks_3 : decode cM_blocks 3 = .ok (.if_icmp .eq 15, 3) := by decide +kernel
theorem dM_blocks_6 : decode cM_blocks 6 = .ok (.aload_n 0, 1) := by decide +kernel
theorem dM_blocks_7 : decode cM_blocks 7 = .ok (.iload_n 1, 1) := by decide +kernel
theorem dM_blocks_8 : decode cM_blocks 8 = .ok (.invokevirtual 82, 3) := by decide +kernel
theorem dM_blocks_11 : decode cM_blocks 11 = .ok (.ifCond .ne 7, 3) := by decide +kernel
theorem dM_blocks_14 : decode cM_blocks 14 = .ok (.iconst 1, 1) := by decide +kernel
theorem dM_blocks_15 : decode cM_blocks 15 = .ok (.goto 4, 3) := by decide +kernel
theorem dM_blocks_18 : decode cM_blocks 18 = .ok (.iconst 0, 1) := by decide +kernel
theorem dM_blocks_19 : decode cM_blocks 19 = .ok (.iconst 0, 1) := by decide +kernel
theorem dM_blocks_20 : decode cM_blocks 20 = .ok (.iconst 0, 1) := by decide +kernel
theorem dM_blocks_21 : decode cM_blocks 21 = .ok (.invokevirtual 69, 3) := by decide +kernel
theorem dM_blocks_24 : decode cM_blocks 24 = .ok (.ifCond .eq 7, 3) := by decide +kernel
theorem dM_blocks_27 : decode cM_blocks 27 = .ok (.iconst 0, 1) := by decide +kernel
theorem dM_blocks_28 : decode cM_blocks 28 = .ok (.goto 13, 3) := by decide +kernel
theorem dM_blocks_31 : decode cM_blocks 31 = .ok (.aload_n 0, 1) := by decide +kernel
theorem dM_blocks_32 : decode cM_blocks 32 = .ok (.aload_n 0, 1) := by decide +kernel
theorem dM_blocks_33 : decode cM_blocks 33 = .ok (.iload_n 1, 1) := by decide +kernel
theorem dM_blocks_34 : decode cM_blocks 34 = .ok (.invokevirtual 128, 3) := by decide +kernel
theorem dM_blocks_37 : decode cM_blocks 37 = .ok (.iconst (-1), 1) := by decide +kernel
theorem dM_blocks_38 : decode cM_blocks 38 = .ok (.invokevirtual 131, 3) := by decide +kernel
theorem dM_blocks_41 : decode cM_blocks 41 = .ok (.ireturn, 1) := by decide +kernel
theorem dM_rowOf_0 : decode cM_rowOf 0 = .ok (.iload_n 1, 1) := by decide +kernel
theorem dM_rowOf_1 : decode cM_rowOf 1 = .ok (.iconst (-1), 1) := by decide +kernel
theorem dM_rowOf_2 : decode cM_rowOf 2 = .ok (.if_icmp .ne 10, 3) := by decide +kernel
theorem dM_rowOf_5 : decode cM_rowOf 5 = .ok (.aload_n 0, 1) := by decide +kernel
theorem dM_rowOf_6 : decode cM_rowOf 6 = .ok (.invokevirtual 116, 3) := by decide +kernel
theorem dM_rowOf_9 : decode cM_rowOf 9 = .ok (.bipush 40, 2) := by decide +kernel
theorem dM_rowOf_11 : decode cM_rowOf 11 = .ok (.ireturn, 1) := by decide +kernel
theorem dM_rowOf_12 : decode cM_rowOf 12 = .ok (.iload_n 1, 1) := by decide +kernel
theorem dM_rowOf_13 : decode cM_rowOf 13 = .ok (.ireturn, 1) := by decide +kernel
theorem dM_goOver_0 : decode cM_goOver 0 = .ok (.iconst 0, 1) := by decide +kernel
theorem dM_goOver_1 : decode cM_goOver 1 = .ok (.istore_n 3, 1) := by decide +kernel
theorem dM_goOver_2 : decode cM_goOver 2 = .ok (.iconst 0, 1) := by decide +kernel
theorem dM_goOver_3 : decode cM_goOver 3 = .ok (.istore 4, 2) := by decide +kernel
theorem dM_goOver_5 : decode cM_goOver 5 = .ok (.iload 4, 2) := by decide +kernel
theorem dM_goOver_7 : decode cM_goOver 7 = .ok (.iconst 1, 1) := by decide +kernel
theorem dM_goOver_8 : decode cM_goOver 8 = .ok (.aload_n 0, 1) := by decide +kernel
theorem dM_goOver_9 : decode cM_goOver 9 = .ok (.getfield 39, 3) := by decide +kernel
theorem dM_goOver_12 : decode cM_goOver 12 = .ok (.ishl, 1) := by decide +kernel
theorem dM_goOver_13 : decode cM_goOver 13 = .ok (.if_icmp .ge 117, 3) := by decide +kernel
theorem dM_goOver_16 : decode cM_goOver 16 = .ok (.aload_n 0, 1) := by decide +kernel
theorem dM_goOver_17 : decode cM_goOver 17 = .ok (.iload_n 1, 1) := by decide +kernel
theorem dM_goOver_18 : decode cM_goOver 18 = .ok (.iload 4, 2) := by decide +kernel
theorem dM_goOver_20 : decode cM_goOver 20 = .ok (.invokevirtual 100, 3) := by decide +kernel
theorem dM_goOver_23 : decode cM_goOver 23 = .ok (.ifCond .ne 9, 3) := by decide +kernel
theorem dM_goOver_26 : decode cM_goOver 26 = .ok (.iinc 4 1, 3) := by decide +kernel
theorem dM_goOver_29 : decode cM_goOver 29 = .ok (.goto (-24), 3) := by decide +kernel
theorem dM_goOver_32 : decode cM_goOver 32 = .ok (.iconst 0, 1) := by decide +kernel
theorem dM_goOver_33 : decode cM_goOver 33 = .ok (.istore 5, 2) := by decide +kernel
theorem dM_goOver_35 : decode cM_goOver 35 = .ok (.iload 5, 2) := by decide +kernel
theorem dM_goOver_37 : decode cM_goOver 37 = .ok (.aload_n 0, 1) := by decide +kernel
theorem dM_goOver_38 : decode cM_goOver 38 = .ok (.getfield 39, 3) := by decide +kernel
theorem dM_goOver_41 : decode cM_goOver 41 = .ok (.if_icmp .ge 38, 3) := by decide +kernel
theorem dM_goOver_44 : decode cM_goOver 44 = .ok (.iload 4, 2) := by decide +kernel
theorem dM_goOver_46 : decode cM_goOver 46 = .ok (.iconst 2, 1) := by decide +kernel
theorem dM_goOver_47 : decode cM_goOver 47 = .ok (.iload 5, 2) := by decide +kernel
theorem dM_goOver_49 : decode cM_goOver 49 = .ok (.ishl, 1) := by decide +kernel
theorem dM_goOver_50 : decode cM_goOver 50 = .ok (.irem, 1) := by decide +kernel
theorem dM_goOver_51 : decode cM_goOver 51 = .ok (.ifCond .ne 28, 3) := by decide +kernel
theorem dM_goOver_54 : decode cM_goOver 54 = .ok (.aload_n 0, 1) := by decide +kernel
theorem dM_goOver_55 : decode cM_goOver 55 = .ok (.iload_n 1, 1) := by decide +kernel
theorem dM_goOver_56 : decode cM_goOver 56 = .ok (.iload 4, 2) := by decide +kernel
theorem dM_goOver_58 : decode cM_goOver 58 = .ok (.iconst 1, 1) := by decide +kernel
theorem dM_goOver_59 : decode cM_goOver 59 = .ok (.iload 5, 2) := by decide +kernel
theorem dM_goOver_61 : decode cM_goOver 61 = .ok (.ishl, 1) := by decide +kernel
theorem dM_goOver_62 : decode cM_goOver 62 = .ok (.iadd, 1) := by decide +kernel
theorem dM_goOver_63 : decode cM_goOver 63 = .ok (.iconst 1, 1) := by decide +kernel
theorem dM_goOver_64 : decode cM_goOver 64 = .ok (.iload 5, 2) := by decide +kernel
theorem dM_goOver_66 : decode cM_goOver 66 = .ok (.ishl, 1) := by decide +kernel
theorem dM_goOver_67 : decode cM_goOver 67 = .ok (.invokevirtual 119, 3) := by decide +kernel
theorem dM_goOver_70 : decode cM_goOver 70 = .ok (.ifCond .eq 9, 3) := by decide +kernel
theorem dM_goOver_73 : decode cM_goOver 73 = .ok (.iinc 5 1, 3) := by decide +kernel
theorem dM_goOver_76 : decode cM_goOver 76 = .ok (.goto (-41), 3) := by decide +kernel
theorem dM_goOver_79 : decode cM_goOver 79 = .ok (.aload_n 0, 1) := by decide +kernel
theorem dM_goOver_80 : decode cM_goOver 80 = .ok (.iload_n 3, 1) := by decide +kernel
theorem dM_goOver_81 : decode cM_goOver 81 = .ok (.iload_n 2, 1) := by decide +kernel
theorem dM_goOver_82 : decode cM_goOver 82 = .ok (.if_icmp .ne 8, 3) := by decide +kernel
theorem dM_goOver_85 : decode cM_goOver 85 = .ok (.iload 4, 2) := by decide +kernel
theorem dM_goOver_87 : decode cM_goOver 87 = .ok (.goto 7, 3) := by decide +kernel
theorem dM_goOver_90 : decode cM_goOver 90 = .ok (.aload_n 0, 1) := by decide +kernel
theorem dM_goOver_91 : decode cM_goOver 91 = .ok (.getfield 122, 3) := by decide +kernel
theorem dM_goOver_94 : decode cM_goOver 94 = .ok (.putfield 122, 3) := by decide +kernel
theorem dM_goOver_97 : decode cM_goOver 97 = .ok (.aload_n 0, 1) := by decide +kernel
theorem dM_goOver_98 : decode cM_goOver 98 = .ok (.iload_n 3, 1) := by decide +kernel
theorem dM_goOver_99 : decode cM_goOver 99 = .ok (.iload_n 2, 1) := by decide +kernel
theorem dM_goOver_100 : decode cM_goOver 100 = .ok (.if_icmp .ne 8, 3) := by decide +kernel
theorem dM_goOver_103 : decode cM_goOver 103 = .ok (.iload 5, 2) := by decide +kernel
theorem dM_goOver_105 : decode cM_goOver 105 = .ok (.goto 7, 3) := by decide +kernel
theorem dM_goOver_108 : decode cM_goOver 108 = .ok (.aload_n 0, 1) := by decide +kernel
theorem dM_goOver_109 : decode cM_goOver 109 = .ok (.getfield 125, 3) := by decide +kernel
theorem dM_goOver_112 : decode cM_goOver 112 = .ok (.putfield 125, 3) := by decide +kernel
theorem dM_goOver_115 : decode cM_goOver 115 = .ok (.iinc 3 1, 3) := by decide +kernel
theorem dM_goOver_118 : decode cM_goOver 118 = .ok (.iload 4, 2) := by decide +kernel
theorem dM_goOver_120 : decode cM_goOver 120 = .ok (.iconst 1, 1) := by decide +kernel
theorem dM_goOver_121 : decode cM_goOver 121 = .ok (.iload 5, 2) := by decide +kernel
theorem dM_goOver_123 : decode cM_goOver 123 = .ok (.ishl, 1) := by decide +kernel
theorem dM_goOver_124 : decode cM_goOver 124 = .ok (.iadd, 1) := by decide +kernel
theorem dM_goOver_125 : decode cM_goOver 125 = .ok (.istore 4, 2) := by decide +kernel
theorem dM_goOver_127 : decode cM_goOver 127 = .ok (.goto (-122), 3) := by decide +kernel
theorem dM_goOver_130 : decode cM_goOver 130 = .ok (.iload_n 3, 1) := by decide +kernel
theorem dM_goOver_131 : decode cM_goOver 131 = .ok (.ireturn, 1) := by decide +kernel
theorem dM_isWhole_0 : decode cM_isWhole 0 = .ok (.iconst 1, 1) := by decide +kernel
theorem dM_isWhole_1 : decode cM_isWhole 1 = .ok (.istore 4, 2) := by decide +kernel
theorem dM_isWhole_3 : decode cM_isWhole 3 = .ok (.iload_n 2, 1) := by decide +kernel
theorem dM_isWhole_4 : decode cM_isWhole 4 = .ok (.istore 5, 2) := by decide +kernel
theorem dM_isWhole_6 : decode cM_isWhole 6 = .ok (.iload 5, 2) := by decide +kernel
theorem dM_isWhole_8 : decode cM_isWhole 8 = .ok (.iload_n 2, 1) := by decide +kernel
theorem dM_isWhole_9 : decode cM_isWhole 9 = .ok (.iload_n 3, 1) := by decide +kernel
theorem dM_isWhole_10 : decode cM_isWhole 10 = .ok (.iadd, 1) := by decide +kernel
theorem dM_isWhole_11 : decode cM_isWhole 11 = .ok (.if_icmp .ge 23, 3) := by decide +kernel
theorem dM_isWhole_14 : decode cM_isWhole 14 = .ok (.iload 4, 2) := by decide +kernel
theorem dM_isWhole_16 : decode cM_isWhole 16 = .ok (.ifCond .eq 18, 3) := by decide +kernel
theorem dM_isWhole_19 : decode cM_isWhole 19 = .ok (.aload_n 0, 1) := by decide +kernel
theorem dM_isWhole_20 : decode cM_isWhole 20 = .ok (.iload_n 1, 1) := by decide +kernel
theorem dM_isWhole_21 : decode cM_isWhole 21 = .ok (.iload 5, 2) := by decide +kernel
theorem dM_isWhole_23 : decode cM_isWhole 23 = .ok (.invokevirtual 100, 3) := by decide +kernel
theorem dM_isWhole_26 : decode cM_isWhole 26 = .ok (.istore 4, 2) := by decide +kernel
theorem dM_isWhole_28 : decode cM_isWhole 28 = .ok (.iinc 5 1, 3) := by decide +kernel
theorem dM_isWhole_31 : decode cM_isWhole 31 = .ok (.goto (-25), 3) := by decide +kernel
theorem dM_isWhole_34 : decode cM_isWhole 34 = .ok (.iload 4, 2) := by decide +kernel
theorem dM_isWhole_36 : decode cM_isWhole 36 = .ok (.ireturn, 1) := by decide +kernel
theorem dM_block_0 : decode cM_block 0 = .ok (.iload_n 1, 1) := by decide +kernel
theorem dM_block_1 : decode cM_block 1 = .ok (.iconst (-1), 1) := by decide +kernel
theorem dM_block_2 : decode cM_block 2 = .ok (.if_icmp .eq 15, 3) := by decide +kernel
theorem dM_block_5 : decode cM_block 5 = .ok (.aload_n 0, 1) := by decide +kernel
theorem dM_block_6 : decode cM_block 6 = .ok (.iload_n 1, 1) := by decide +kernel
theorem dM_block_7 : decode cM_block 7 = .ok (.invokevirtual 82, 3) := by decide +kernel
theorem dM_block_10 : decode cM_block 10 = .ok (.ifCond .ne 7, 3) := by decide +kernel
theorem dM_block_13 : decode cM_block 13 = .ok (.iconst 1, 1) := by decide +kernel
theorem dM_block_14 : decode cM_block 14 = .ok (.goto 4, 3) := by decide +kernel
theorem dM_block_17 : decode cM_block 17 = .ok (.iconst 0, 1) := by decide +kernel
theorem dM_block_18 : decode cM_block 18 = .ok (.istore 4, 2) := by decide +kernel
theorem dM_block_20 : decode cM_block 20 = .ok (.iload 4, 2) := by decide +kernel
theorem dM_block_22 : decode cM_block 22 = .ok (.ifCond .eq 7, 3) := by decide +kernel
theorem dM_block_25 : decode cM_block 25 = .ok (.iconst 0, 1) := by decide +kernel
theorem dM_block_26 : decode cM_block 26 = .ok (.goto 13, 3) := by decide +kernel
theorem dM_block_29 : decode cM_block 29 = .ok (.aload_n 0, 1) := by decide +kernel
theorem dM_block_30 : decode cM_block 30 = .ok (.aload_n 0, 1) := by decide +kernel
theorem dM_block_31 : decode cM_block 31 = .ok (.iload_n 1, 1) := by decide +kernel
theorem dM_block_32 : decode cM_block 32 = .ok (.invokevirtual 128, 3) := by decide +kernel
theorem dM_block_35 : decode cM_block 35 = .ok (.iload_n 2, 1) := by decide +kernel
theorem dM_block_36 : decode cM_block 36 = .ok (.invokevirtual 131, 3) := by decide +kernel
theorem dM_block_39 : decode cM_block 39 = .ok (.istore 5, 2) := by decide +kernel
theorem dM_block_41 : decode cM_block 41 = .ok (.aload_n 0, 1) := by decide +kernel
theorem dM_block_42 : decode cM_block 42 = .ok (.iload 4, 2) := by decide +kernel
theorem dM_block_44 : decode cM_block 44 = .ok (.iload_n 2, 1) := by decide +kernel
theorem dM_block_45 : decode cM_block 45 = .ok (.iconst 0, 1) := by decide +kernel
theorem dM_block_46 : decode cM_block 46 = .ok (.iload 5, 2) := by decide +kernel
theorem dM_block_48 : decode cM_block 48 = .ok (.iconst 1, 1) := by decide +kernel
theorem dM_block_49 : decode cM_block 49 = .ok (.isub, 1) := by decide +kernel
theorem dM_block_50 : decode cM_block 50 = .ok (.invokestatic 55, 3) := by decide +kernel
theorem dM_block_53 : decode cM_block 53 = .ok (.ifCond .eq 12, 3) := by decide +kernel
theorem dM_block_56 : decode cM_block 56 = .ok (.iload_n 3, 1) := by decide +kernel
theorem dM_block_57 : decode cM_block 57 = .ok (.iconst 0, 1) := by decide +kernel
theorem dM_block_58 : decode cM_block 58 = .ok (.iconst 1, 1) := by decide +kernel
theorem dM_block_59 : decode cM_block 59 = .ok (.invokestatic 55, 3) := by decide +kernel
theorem dM_block_62 : decode cM_block 62 = .ok (.ifCond .ne 7, 3) := by decide +kernel
theorem dM_block_65 : decode cM_block 65 = .ok (.iconst 1, 1) := by decide +kernel
theorem dM_block_66 : decode cM_block 66 = .ok (.goto 4, 3) := by decide +kernel
theorem dM_block_69 : decode cM_block 69 = .ok (.iconst 0, 1) := by decide +kernel
theorem dM_block_70 : decode cM_block 70 = .ok (.iconst 0, 1) := by decide +kernel
theorem dM_block_71 : decode cM_block 71 = .ok (.invokevirtual 69, 3) := by decide +kernel
theorem dM_block_74 : decode cM_block 74 = .ok (.ifCond .eq 5, 3) := by decide +kernel
theorem dM_block_77 : decode cM_block 77 = .ok (.iconst 0, 1) := by decide +kernel
theorem dM_block_78 : decode cM_block 78 = .ok (.ireturn, 1) := by decide +kernel
theorem dM_block_79 : decode cM_block 79 = .ok (.iload_n 3, 1) := by decide +kernel
theorem dM_block_80 : decode cM_block 80 = .ok (.ifCond .ne 10, 3) := by decide +kernel
theorem dM_block_83 : decode cM_block 83 = .ok (.aload_n 0, 1) := by decide +kernel
theorem dM_block_84 : decode cM_block 84 = .ok (.getfield 122, 3) := by decide +kernel
theorem dM_block_87 : decode cM_block 87 = .ok (.goto 7, 3) := by decide +kernel
theorem dM_block_90 : decode cM_block 90 = .ok (.aload_n 0, 1) := by decide +kernel
theorem dM_block_91 : decode cM_block 91 = .ok (.getfield 125, 3) := by decide +kernel
theorem dM_block_94 : decode cM_block 94 = .ok (.ireturn, 1) := by decide +kernel
theorem dM_decode_0 : decode cM_decode 0 = .ok (.aload_n 0, 1) := by decide +kernel
theorem dM_decode_1 : decode cM_decode 1 = .ok (.iload_n 1, 1) := by decide +kernel
theorem dM_decode_2 : decode cM_decode 2 = .ok (.iconst 0, 1) := by decide +kernel
theorem dM_decode_3 : decode cM_decode 3 = .ok (.iconst 1, 1) := by decide +kernel
theorem dM_decode_4 : decode cM_decode 4 = .ok (.aload_n 0, 1) := by decide +kernel
theorem dM_decode_5 : decode cM_decode 5 = .ok (.getfield 39, 3) := by decide +kernel
theorem dM_decode_8 : decode cM_decode 8 = .ok (.ishl, 1) := by decide +kernel
theorem dM_decode_9 : decode cM_decode 9 = .ok (.iconst 1, 1) := by decide +kernel
theorem dM_decode_10 : decode cM_decode 10 = .ok (.isub, 1) := by decide +kernel
theorem dM_decode_11 : decode cM_decode 11 = .ok (.invokestatic 55, 3) := by decide +kernel
theorem dM_decode_14 : decode cM_decode 14 = .ok (.ifCond .ne 7, 3) := by decide +kernel
theorem dM_decode_17 : decode cM_decode 17 = .ok (.iconst 1, 1) := by decide +kernel
theorem dM_decode_18 : decode cM_decode 18 = .ok (.goto 4, 3) := by decide +kernel
theorem dM_decode_21 : decode cM_decode 21 = .ok (.iconst 0, 1) := by decide +kernel
theorem dM_decode_22 : decode cM_decode 22 = .ok (.iconst 0, 1) := by decide +kernel
theorem dM_decode_23 : decode cM_decode 23 = .ok (.iconst 0, 1) := by decide +kernel
theorem dM_decode_24 : decode cM_decode 24 = .ok (.invokevirtual 69, 3) := by decide +kernel
theorem dM_decode_27 : decode cM_decode 27 = .ok (.ifCond .eq 5, 3) := by decide +kernel
theorem dM_decode_30 : decode cM_decode 30 = .ok (.iconst 0, 1) := by decide +kernel
theorem dM_decode_31 : decode cM_decode 31 = .ok (.ireturn, 1) := by decide +kernel
theorem dM_decode_32 : decode cM_decode 32 = .ok (.aload_n 0, 1) := by decide +kernel
theorem dM_decode_33 : decode cM_decode 33 = .ok (.invokevirtual 97, 3) := by decide +kernel
theorem dM_decode_36 : decode cM_decode 36 = .ok (.iconst (-1), 1) := by decide +kernel
theorem dM_decode_37 : decode cM_decode 37 = .ok (.istore_n 2, 1) := by decide +kernel
theorem dM_decode_38 : decode cM_decode 38 = .ok (.iconst (-1), 1) := by decide +kernel
theorem dM_decode_39 : decode cM_decode 39 = .ok (.istore_n 3, 1) := by decide +kernel
theorem dM_decode_40 : decode cM_decode 40 = .ok (.aload_n 0, 1) := by decide +kernel
theorem dM_decode_41 : decode cM_decode 41 = .ok (.getfield 52, 3) := by decide +kernel
theorem dM_decode_44 : decode cM_decode 44 = .ok (.iconst 1, 1) := by decide +kernel
theorem dM_decode_45 : decode cM_decode 45 = .ok (.isub, 1) := by decide +kernel
theorem dM_decode_46 : decode cM_decode 46 = .ok (.istore 4, 2) := by decide +kernel
theorem dM_decode_48 : decode cM_decode 48 = .ok (.iload 4, 2) := by decide +kernel
theorem dM_decode_50 : decode cM_decode 50 = .ok (.ifCond .lt 43, 3) := by decide +kernel
theorem dM_decode_53 : decode cM_decode 53 = .ok (.aload_n 0, 1) := by decide +kernel
theorem dM_decode_54 : decode cM_decode 54 = .ok (.iload 4, 2) := by decide +kernel
theorem dM_decode_56 : decode cM_decode 56 = .ok (.iload_n 1, 1) := by decide +kernel
theorem dM_decode_57 : decode cM_decode 57 = .ok (.invokevirtual 100, 3) := by decide +kernel
theorem dM_decode_60 : decode cM_decode 60 = .ok (.ifCond .eq 8, 3) := by decide +kernel
theorem dM_decode_63 : decode cM_decode 63 = .ok (.iload 4, 2) := by decide +kernel
theorem dM_decode_65 : decode cM_decode 65 = .ok (.goto 4, 3) := by decide +kernel
theorem dM_decode_68 : decode cM_decode 68 = .ok (.iload_n 2, 1) := by decide +kernel
theorem dM_decode_69 : decode cM_decode 69 = .ok (.istore_n 2, 1) := by decide +kernel
theorem dM_decode_70 : decode cM_decode 70 = .ok (.aload_n 0, 1) := by decide +kernel
theorem dM_decode_71 : decode cM_decode 71 = .ok (.iload 4, 2) := by decide +kernel
theorem dM_decode_73 : decode cM_decode 73 = .ok (.iload_n 1, 1) := by decide +kernel
theorem dM_decode_74 : decode cM_decode 74 = .ok (.invokevirtual 134, 3) := by decide +kernel
theorem dM_decode_77 : decode cM_decode 77 = .ok (.ifCond .eq 8, 3) := by decide +kernel
theorem dM_decode_80 : decode cM_decode 80 = .ok (.iload 4, 2) := by decide +kernel
theorem dM_decode_82 : decode cM_decode 82 = .ok (.goto 4, 3) := by decide +kernel
theorem dM_decode_85 : decode cM_decode 85 = .ok (.iload_n 3, 1) := by decide +kernel
theorem dM_decode_86 : decode cM_decode 86 = .ok (.istore_n 3, 1) := by decide +kernel
theorem dM_decode_87 : decode cM_decode 87 = .ok (.iinc 4 (-1), 3) := by decide +kernel
theorem dM_decode_90 : decode cM_decode 90 = .ok (.goto (-42), 3) := by decide +kernel
theorem dM_decode_93 : decode cM_decode 93 = .ok (.iload_n 3, 1) := by decide +kernel
theorem dM_decode_94 : decode cM_decode 94 = .ok (.ifCond .lt 7, 3) := by decide +kernel
theorem dM_decode_97 : decode cM_decode 97 = .ok (.iload_n 3, 1) := by decide +kernel
theorem dM_decode_98 : decode cM_decode 98 = .ok (.goto 4, 3) := by decide +kernel
theorem dM_decode_101 : decode cM_decode 101 = .ok (.iload_n 2, 1) := by decide +kernel
theorem dM_decode_102 : decode cM_decode 102 = .ok (.ireturn, 1) := by decide +kernel
theorem dM_isLeast_0 : decode cM_isLeast 0 = .ok (.aload_n 0, 1) := by decide +kernel
theorem dM_isLeast_1 : decode cM_isLeast 1 = .ok (.iload_n 1, 1) := by decide +kernel
theorem dM_isLeast_2 : decode cM_isLeast 2 = .ok (.iload_n 2, 1) := by decide +kernel
theorem dM_isLeast_3 : decode cM_isLeast 3 = .ok (.invokevirtual 100, 3) := by decide +kernel
theorem dM_isLeast_6 : decode cM_isLeast 6 = .ok (.istore_n 3, 1) := by decide +kernel
theorem dM_isLeast_7 : decode cM_isLeast 7 = .ok (.iconst 0, 1) := by decide +kernel
theorem dM_isLeast_8 : decode cM_isLeast 8 = .ok (.istore 4, 2) := by decide +kernel
theorem dM_isLeast_10 : decode cM_isLeast 10 = .ok (.iload 4, 2) := by decide +kernel
theorem dM_isLeast_12 : decode cM_isLeast 12 = .ok (.aload_n 0, 1) := by decide +kernel
theorem dM_isLeast_13 : decode cM_isLeast 13 = .ok (.getfield 52, 3) := by decide +kernel
theorem dM_isLeast_16 : decode cM_isLeast 16 = .ok (.if_icmp .ge 44, 3) := by decide +kernel
theorem dM_isLeast_19 : decode cM_isLeast 19 = .ok (.iload_n 3, 1) := by decide +kernel
theorem dM_isLeast_20 : decode cM_isLeast 20 = .ok (.ifCond .eq 40, 3) := by decide +kernel
theorem dM_isLeast_23 : decode cM_isLeast 23 = .ok (.aload_n 0, 1) := by decide +kernel
theorem dM_isLeast_24 : decode cM_isLeast 24 = .ok (.iload 4, 2) := by decide +kernel
theorem dM_isLeast_26 : decode cM_isLeast 26 = .ok (.iload_n 2, 1) := by decide +kernel
theorem dM_isLeast_27 : decode cM_isLeast 27 = .ok (.invokevirtual 100, 3) := by decide +kernel
theorem dM_isLeast_30 : decode cM_isLeast 30 = .ok (.ifCond .eq 18, 3) := by decide +kernel
theorem dM_isLeast_33 : decode cM_isLeast 33 = .ok (.aload_n 0, 1) := by decide +kernel
theorem dM_isLeast_34 : decode cM_isLeast 34 = .ok (.getfield 32, 3) := by decide +kernel
theorem dM_isLeast_37 : decode cM_isLeast 37 = .ok (.bipush 40, 2) := by decide +kernel
theorem dM_isLeast_39 : decode cM_isLeast 39 = .ok (.iload_n 1, 1) := by decide +kernel
theorem dM_isLeast_40 : decode cM_isLeast 40 = .ok (.imul, 1) := by decide +kernel
theorem dM_isLeast_41 : decode cM_isLeast 41 = .ok (.iload 4, 2) := by decide +kernel
theorem dM_isLeast_43 : decode cM_isLeast 43 = .ok (.iadd, 1) := by decide +kernel
theorem dM_isLeast_44 : decode cM_isLeast 44 = .ok (.baload, 1) := by decide +kernel
theorem dM_isLeast_45 : decode cM_isLeast 45 = .ok (.ifCond .eq 7, 3) := by decide +kernel
theorem dM_isLeast_48 : decode cM_isLeast 48 = .ok (.iconst 1, 1) := by decide +kernel
theorem dM_isLeast_49 : decode cM_isLeast 49 = .ok (.goto 4, 3) := by decide +kernel
theorem dM_isLeast_52 : decode cM_isLeast 52 = .ok (.iconst 0, 1) := by decide +kernel
theorem dM_isLeast_53 : decode cM_isLeast 53 = .ok (.istore_n 3, 1) := by decide +kernel
theorem dM_isLeast_54 : decode cM_isLeast 54 = .ok (.iinc 4 1, 3) := by decide +kernel
theorem dM_isLeast_57 : decode cM_isLeast 57 = .ok (.goto (-47), 3) := by decide +kernel
theorem dM_isLeast_60 : decode cM_isLeast 60 = .ok (.iload_n 3, 1) := by decide +kernel
theorem dM_isLeast_61 : decode cM_isLeast 61 = .ok (.ireturn, 1) := by decide +kernel
theorem dM_order_0 : decode cM_order 0 = .ok (.aload_n 0, 1) := by decide +kernel
theorem dM_order_1 : decode cM_order 1 = .ok (.iload_n 1, 1) := by decide +kernel
theorem dM_order_2 : decode cM_order 2 = .ok (.iconst 0, 1) := by decide +kernel
theorem dM_order_3 : decode cM_order 3 = .ok (.aload_n 0, 1) := by decide +kernel
theorem dM_order_4 : decode cM_order 4 = .ok (.getfield 52, 3) := by decide +kernel
theorem dM_order_7 : decode cM_order 7 = .ok (.iconst 1, 1) := by decide +kernel
theorem dM_order_8 : decode cM_order 8 = .ok (.isub, 1) := by decide +kernel
theorem dM_order_9 : decode cM_order 9 = .ok (.invokestatic 55, 3) := by decide +kernel
theorem dM_order_12 : decode cM_order 12 = .ok (.ifCond .ne 7, 3) := by decide +kernel
theorem dM_order_15 : decode cM_order 15 = .ok (.iconst 1, 1) := by decide +kernel
theorem dM_order_16 : decode cM_order 16 = .ok (.goto 4, 3) := by decide +kernel
theorem dM_order_19 : decode cM_order 19 = .ok (.iconst 0, 1) := by decide +kernel
theorem dM_order_20 : decode cM_order 20 = .ok (.iconst 0, 1) := by decide +kernel
theorem dM_order_21 : decode cM_order 21 = .ok (.iconst 0, 1) := by decide +kernel
theorem dM_order_22 : decode cM_order 22 = .ok (.invokevirtual 69, 3) := by decide +kernel
theorem dM_order_25 : decode cM_order 25 = .ok (.ifCond .eq 5, 3) := by decide +kernel
theorem dM_order_28 : decode cM_order 28 = .ok (.iconst 0, 1) := by decide +kernel
theorem dM_order_29 : decode cM_order 29 = .ok (.ireturn, 1) := by decide +kernel
theorem dM_order_30 : decode cM_order 30 = .ok (.aload_n 0, 1) := by decide +kernel
theorem dM_order_31 : decode cM_order 31 = .ok (.invokevirtual 97, 3) := by decide +kernel
theorem dM_order_34 : decode cM_order 34 = .ok (.iconst 0, 1) := by decide +kernel
theorem dM_order_35 : decode cM_order 35 = .ok (.istore_n 2, 1) := by decide +kernel
theorem dM_order_36 : decode cM_order 36 = .ok (.iload_n 2, 1) := by decide +kernel
theorem dM_order_37 : decode cM_order 37 = .ok (.iload_n 1, 1) := by decide +kernel
theorem dM_order_38 : decode cM_order 38 = .ok (.if_icmp .gt 101, 3) := by decide +kernel
theorem dM_order_41 : decode cM_order 41 = .ok (.iconst (-1), 1) := by decide +kernel
theorem dM_order_42 : decode cM_order 42 = .ok (.istore_n 3, 1) := by decide +kernel
theorem dM_order_43 : decode cM_order 43 = .ok (.aload_n 0, 1) := by decide +kernel
theorem dM_order_44 : decode cM_order 44 = .ok (.getfield 52, 3) := by decide +kernel
theorem dM_order_47 : decode cM_order 47 = .ok (.iconst 1, 1) := by decide +kernel
theorem dM_order_48 : decode cM_order 48 = .ok (.isub, 1) := by decide +kernel
theorem dM_order_49 : decode cM_order 49 = .ok (.istore 4, 2) := by decide +kernel
theorem dM_order_51 : decode cM_order 51 = .ok (.iload 4, 2) := by decide +kernel
theorem dM_order_53 : decode cM_order 53 = .ok (.ifCond .lt 73, 3) := by decide +kernel
theorem dM_order_56 : decode cM_order 56 = .ok (.iconst 0, 1) := by decide +kernel
theorem dM_order_57 : decode cM_order 57 = .ok (.istore 5, 2) := by decide +kernel
theorem dM_order_59 : decode cM_order 59 = .ok (.iconst 0, 1) := by decide +kernel
theorem dM_order_60 : decode cM_order 60 = .ok (.istore 6, 2) := by decide +kernel
theorem dM_order_62 : decode cM_order 62 = .ok (.iload 6, 2) := by decide +kernel
theorem dM_order_64 : decode cM_order 64 = .ok (.iload_n 2, 1) := by decide +kernel
theorem dM_order_65 : decode cM_order 65 = .ok (.if_icmp .ge 33, 3) := by decide +kernel
theorem dM_order_68 : decode cM_order 68 = .ok (.iload 5, 2) := by decide +kernel
theorem dM_order_70 : decode cM_order 70 = .ok (.ifCond .ne 15, 3) := by decide +kernel
theorem dM_order_73 : decode cM_order 73 = .ok (.aload_n 0, 1) := by decide +kernel
theorem dM_order_74 : decode cM_order 74 = .ok (.getfield 36, 3) := by decide +kernel
theorem dM_order_77 : decode cM_order 77 = .ok (.iload 6, 2) := by decide +kernel
theorem dM_order_79 : decode cM_order 79 = .ok (.iaload, 1) := by decide +kernel
theorem dM_order_80 : decode cM_order 80 = .ok (.iload 4, 2) := by decide +kernel
theorem dM_order_82 : decode cM_order 82 = .ok (.if_icmp .ne 7, 3) := by decide +kernel
theorem dM_order_85 : decode cM_order 85 = .ok (.iconst 1, 1) := by decide +kernel
theorem dM_order_86 : decode cM_order 86 = .ok (.goto 4, 3) := by decide +kernel
theorem dM_order_89 : decode cM_order 89 = .ok (.iconst 0, 1) := by decide +kernel
theorem dM_order_90 : decode cM_order 90 = .ok (.istore 5, 2) := by decide +kernel
theorem dM_order_92 : decode cM_order 92 = .ok (.iinc 6 1, 3) := by decide +kernel
theorem dM_order_95 : decode cM_order 95 = .ok (.goto (-33), 3) := by decide +kernel
theorem dM_order_98 : decode cM_order 98 = .ok (.iload 5, 2) := by decide +kernel
theorem dM_order_100 : decode cM_order 100 = .ok (.ifCond .ne 18, 3) := by decide +kernel
theorem dM_order_103 : decode cM_order 103 = .ok (.aload_n 0, 1) := by decide +kernel
theorem dM_order_104 : decode cM_order 104 = .ok (.iload 4, 2) := by decide +kernel
theorem dM_order_106 : decode cM_order 106 = .ok (.iload_n 2, 1) := by decide +kernel
theorem dM_order_107 : decode cM_order 107 = .ok (.invokevirtual 137, 3) := by decide +kernel
theorem dM_order_110 : decode cM_order 110 = .ok (.ifCond .ne 8, 3) := by decide +kernel
theorem dM_order_113 : decode cM_order 113 = .ok (.iload 4, 2) := by decide +kernel
theorem dM_order_115 : decode cM_order 115 = .ok (.goto 4, 3) := by decide +kernel
theorem dM_order_118 : decode cM_order 118 = .ok (.iload_n 3, 1) := by decide +kernel
theorem dM_order_119 : decode cM_order 119 = .ok (.istore_n 3, 1) := by decide +kernel
theorem dM_order_120 : decode cM_order 120 = .ok (.iinc 4 (-1), 3) := by decide +kernel
theorem dM_order_123 : decode cM_order 123 = .ok (.goto (-72), 3) := by decide +kernel
theorem dM_order_126 : decode cM_order 126 = .ok (.aload_n 0, 1) := by decide +kernel
theorem dM_order_127 : decode cM_order 127 = .ok (.getfield 36, 3) := by decide +kernel
theorem dM_order_130 : decode cM_order 130 = .ok (.iload_n 2, 1) := by decide +kernel
theorem dM_order_131 : decode cM_order 131 = .ok (.iload_n 3, 1) := by decide +kernel
theorem dM_order_132 : decode cM_order 132 = .ok (.iastore, 1) := by decide +kernel
theorem dM_order_133 : decode cM_order 133 = .ok (.iinc 2 1, 3) := by decide +kernel
theorem dM_order_136 : decode cM_order 136 = .ok (.goto (-100), 3) := by decide +kernel
theorem dM_order_139 : decode cM_order 139 = .ok (.aload_n 0, 1) := by decide +kernel
theorem dM_order_140 : decode cM_order 140 = .ok (.getfield 36, 3) := by decide +kernel
theorem dM_order_143 : decode cM_order 143 = .ok (.iload_n 1, 1) := by decide +kernel
theorem dM_order_144 : decode cM_order 144 = .ok (.iaload, 1) := by decide +kernel
theorem dM_order_145 : decode cM_order 145 = .ok (.ireturn, 1) := by decide +kernel
theorem dM_waits_0 : decode cM_waits 0 = .ok (.iconst 0, 1) := by decide +kernel
theorem dM_waits_1 : decode cM_waits 1 = .ok (.istore_n 3, 1) := by decide +kernel
theorem dM_waits_2 : decode cM_waits 2 = .ok (.iconst 0, 1) := by decide +kernel
theorem dM_waits_3 : decode cM_waits 3 = .ok (.istore 4, 2) := by decide +kernel
theorem dM_waits_5 : decode cM_waits 5 = .ok (.iload 4, 2) := by decide +kernel
theorem dM_waits_7 : decode cM_waits 7 = .ok (.aload_n 0, 1) := by decide +kernel
theorem dM_waits_8 : decode cM_waits 8 = .ok (.getfield 52, 3) := by decide +kernel
theorem dM_waits_11 : decode cM_waits 11 = .ok (.if_icmp .ge 96, 3) := by decide +kernel
theorem dM_waits_14 : decode cM_waits 14 = .ok (.iconst 0, 1) := by decide +kernel
theorem dM_waits_15 : decode cM_waits 15 = .ok (.istore 5, 2) := by decide +kernel
theorem dM_waits_17 : decode cM_waits 17 = .ok (.iconst 0, 1) := by decide +kernel
theorem dM_waits_18 : decode cM_waits 18 = .ok (.istore 6, 2) := by decide +kernel
theorem dM_waits_20 : decode cM_waits 20 = .ok (.iload 6, 2) := by decide +kernel
theorem dM_waits_22 : decode cM_waits 22 = .ok (.iload_n 2, 1) := by decide +kernel
theorem dM_waits_23 : decode cM_waits 23 = .ok (.if_icmp .ge 33, 3) := by decide +kernel
theorem dM_waits_26 : decode cM_waits 26 = .ok (.iload 5, 2) := by decide +kernel
theorem dM_waits_28 : decode cM_waits 28 = .ok (.ifCond .ne 15, 3) := by decide +kernel
theorem dM_waits_31 : decode cM_waits 31 = .ok (.aload_n 0, 1) := by decide +kernel
theorem dM_waits_32 : decode cM_waits 32 = .ok (.getfield 36, 3) := by decide +kernel
theorem dM_waits_35 : decode cM_waits 35 = .ok (.iload 6, 2) := by decide +kernel
theorem dM_waits_37 : decode cM_waits 37 = .ok (.iaload, 1) := by decide +kernel
theorem dM_waits_38 : decode cM_waits 38 = .ok (.iload 4, 2) := by decide +kernel
theorem dM_waits_40 : decode cM_waits 40 = .ok (.if_icmp .ne 7, 3) := by decide +kernel
theorem dM_waits_43 : decode cM_waits 43 = .ok (.iconst 1, 1) := by decide +kernel
theorem dM_waits_44 : decode cM_waits 44 = .ok (.goto 4, 3) := by decide +kernel
theorem dM_waits_47 : decode cM_waits 47 = .ok (.iconst 0, 1) := by decide +kernel
theorem dM_waits_48 : decode cM_waits 48 = .ok (.istore 5, 2) := by decide +kernel
theorem dM_waits_50 : decode cM_waits 50 = .ok (.iinc 6 1, 3) := by decide +kernel
theorem dM_waits_53 : decode cM_waits 53 = .ok (.goto (-33), 3) := by decide +kernel
theorem dM_waits_56 : decode cM_waits 56 = .ok (.iload_n 3, 1) := by decide +kernel
theorem dM_waits_57 : decode cM_waits 57 = .ok (.ifCond .ne 38, 3) := by decide +kernel
theorem dM_waits_60 : decode cM_waits 60 = .ok (.iload 5, 2) := by decide +kernel
theorem dM_waits_62 : decode cM_waits 62 = .ok (.ifCond .ne 37, 3) := by decide +kernel
theorem dM_waits_65 : decode cM_waits 65 = .ok (.aload_n 0, 1) := by decide +kernel
theorem dM_waits_66 : decode cM_waits 66 = .ok (.getfield 32, 3) := by decide +kernel
theorem dM_waits_69 : decode cM_waits 69 = .ok (.bipush 40, 2) := by decide +kernel
theorem dM_waits_71 : decode cM_waits 71 = .ok (.iload 4, 2) := by decide +kernel
theorem dM_waits_73 : decode cM_waits 73 = .ok (.imul, 1) := by decide +kernel
theorem dM_waits_74 : decode cM_waits 74 = .ok (.iload_n 1, 1) := by decide +kernel
theorem dM_waits_75 : decode cM_waits 75 = .ok (.iadd, 1) := by decide +kernel
theorem dM_waits_76 : decode cM_waits 76 = .ok (.baload, 1) := by decide +kernel
theorem dM_waits_77 : decode cM_waits 77 = .ok (.ifCond .eq 22, 3) := by decide +kernel
theorem dM_waits_80 : decode cM_waits 80 = .ok (.aload_n 0, 1) := by decide +kernel
theorem dM_waits_81 : decode cM_waits 81 = .ok (.getfield 32, 3) := by decide +kernel
theorem dM_waits_84 : decode cM_waits 84 = .ok (.bipush 40, 2) := by decide +kernel
theorem dM_waits_86 : decode cM_waits 86 = .ok (.iload_n 1, 1) := by decide +kernel
theorem dM_waits_87 : decode cM_waits 87 = .ok (.imul, 1) := by decide +kernel
theorem dM_waits_88 : decode cM_waits 88 = .ok (.iload 4, 2) := by decide +kernel
theorem dM_waits_90 : decode cM_waits 90 = .ok (.iadd, 1) := by decide +kernel
theorem dM_waits_91 : decode cM_waits 91 = .ok (.baload, 1) := by decide +kernel
theorem dM_waits_92 : decode cM_waits 92 = .ok (.ifCond .ne 7, 3) := by decide +kernel
theorem dM_waits_95 : decode cM_waits 95 = .ok (.iconst 1, 1) := by decide +kernel
theorem dM_waits_96 : decode cM_waits 96 = .ok (.goto 4, 3) := by decide +kernel
theorem dM_waits_99 : decode cM_waits 99 = .ok (.iconst 0, 1) := by decide +kernel
theorem dM_waits_100 : decode cM_waits 100 = .ok (.istore_n 3, 1) := by decide +kernel
theorem dM_waits_101 : decode cM_waits 101 = .ok (.iinc 4 1, 3) := by decide +kernel
theorem dM_waits_104 : decode cM_waits 104 = .ok (.goto (-99), 3) := by decide +kernel
theorem dM_waits_107 : decode cM_waits 107 = .ok (.iload_n 3, 1) := by decide +kernel
theorem dM_waits_108 : decode cM_waits 108 = .ok (.ireturn, 1) := by decide +kernel
theorem dM_size_0 : decode cM_size 0 = .ok (.aload_n 0, 1) := by decide +kernel
theorem dM_size_1 : decode cM_size 1 = .ok (.iconst 0, 1) := by decide +kernel
theorem dM_size_2 : decode cM_size 2 = .ok (.putfield 49, 3) := by decide +kernel
theorem dM_size_5 : decode cM_size 5 = .ok (.iload_n 1, 1) := by decide +kernel
theorem dM_size_6 : decode cM_size 6 = .ok (.ifCond .ne 10, 3) := by decide +kernel
theorem dM_size_9 : decode cM_size 9 = .ok (.aload_n 0, 1) := by decide +kernel
theorem dM_size_10 : decode cM_size 10 = .ok (.getfield 52, 3) := by decide +kernel
theorem dM_size_13 : decode cM_size 13 = .ok (.goto 16, 3) := by decide +kernel
theorem dM_size_16 : decode cM_size 16 = .ok (.iload_n 1, 1) := by decide +kernel
theorem dM_size_17 : decode cM_size 17 = .ok (.iconst 1, 1) := by decide +kernel
theorem dM_size_18 : decode cM_size 18 = .ok (.if_icmp .ne 10, 3) := by decide +kernel
theorem dM_size_21 : decode cM_size 21 = .ok (.aload_n 0, 1) := by decide +kernel
theorem dM_size_22 : decode cM_size 22 = .ok (.getfield 39, 3) := by decide +kernel
theorem dM_size_25 : decode cM_size 25 = .ok (.goto 4, 3) := by decide +kernel
theorem dM_size_28 : decode cM_size 28 = .ok (.iconst (-1), 1) := by decide +kernel
theorem dM_size_29 : decode cM_size 29 = .ok (.ireturn, 1) := by decide +kernel

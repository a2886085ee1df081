theorem dX11_tries_37 : decode mX11_tries.2.1 37 = .ok (.iload_n 2, 1) := by decide +kernel
theorem dX11_tries_38 : decode mX11_tries.2.1 38 = .ok (.iload_n 3, 1) := by decide +kernel
theorem dX11_tries_39 : decode mX11_tries.2.1 39 = .ok (.iadd, 1) := by decide +kernel
theorem dX11_tries_40 : decode mX11_tries.2.1 40 = .ok (.istore 7, 2) := by decide +kernel
theorem dX11_tries_42 : decode mX11_tries.2.1 42 = .ok (.iload 7, 2) := by decide +kernel
theorem dX11_tries_44 : decode mX11_tries.2.1 44 = .ok (.aload_n 0, 1) := by decide +kernel
theorem dX11_tries_45 : decode mX11_tries.2.1 45 = .ok (.getfield 216, 3) := by decide +kernel
theorem dX11_tries_48 : decode mX11_tries.2.1 48 = .ok (.if_icmp .lt 21, 3) := by decide +kernel
theorem dX11_tries_51 : decode mX11_tries.2.1 51 = .ok (.iload 7, 2) := by decide +kernel
theorem dX11_tries_53 : decode mX11_tries.2.1 53 = .ok (.aload_n 0, 1) := by decide +kernel
theorem dX11_tries_54 : decode mX11_tries.2.1 54 = .ok (.getfield 216, 3) := by decide +kernel
theorem dX11_tries_57 : decode mX11_tries.2.1 57 = .ok (.if_icmp .ne 13, 3) := by decide +kernel
theorem dX11_tries_60 : decode mX11_tries.2.1 60 = .ok (.iload 4, 2) := by decide +kernel
theorem dX11_tries_62 : decode mX11_tries.2.1 62 = .ok (.aload_n 0, 1) := by decide +kernel
theorem dX11_tries_63 : decode mX11_tries.2.1 63 = .ok (.getfield 219, 3) := by decide +kernel
theorem dX11_tries_66 : decode mX11_tries.2.1 66 = .ok (.if_icmp .lt 4, 3) := by decide +kernel
theorem dX11_tries_69 : decode mX11_tries.2.1 69 = .ok (.return_, 1) := by decide +kernel
theorem dX11_tries_70 : decode mX11_tries.2.1 70 = .ok (.aload_n 0, 1) := by decide +kernel
theorem dX11_tries_71 : decode mX11_tries.2.1 71 = .ok (.iload 7, 2) := by decide +kernel
theorem dX11_tries_73 : decode mX11_tries.2.1 73 = .ok (.putfield 216, 3) := by decide +kernel
theorem dX11_tries_76 : decode mX11_tries.2.1 76 = .ok (.aload_n 0, 1) := by decide +kernel
theorem dX11_tries_77 : decode mX11_tries.2.1 77 = .ok (.iload 4, 2) := by decide +kernel
theorem dX11_tries_79 : decode mX11_tries.2.1 79 = .ok (.putfield 219, 3) := by decide +kernel
theorem dX11_tries_82 : decode mX11_tries.2.1 82 = .ok (.iconst 0, 1) := by decide +kernel
theorem dX11_tries_83 : decode mX11_tries.2.1 83 = .ok (.istore 8, 2) := by decide +kernel
theorem dX11_tries_85 : decode mX11_tries.2.1 85 = .ok (.iload 8, 2) := by decide +kernel
theorem dX11_tries_87 : decode mX11_tries.2.1 87 = .ok (.aload_n 0, 1) := by decide +kernel
theorem dX11_tries_88 : decode mX11_tries.2.1 88 = .ok (.getfield 213, 3) := by decide +kernel
theorem dX11_tries_91 : decode mX11_tries.2.1 91 = .ok (.if_icmp .ge 23, 3) := by decide +kernel
theorem dX11_tries_94 : decode mX11_tries.2.1 94 = .ok (.aload_n 0, 1) := by decide +kernel
theorem dX11_tries_95 : decode mX11_tries.2.1 95 = .ok (.getfield 105, 3) := by decide +kernel
theorem dX11_tries_98 : decode mX11_tries.2.1 98 = .ok (.iload 8, 2) := by decide +kernel
theorem dX11_tries_100 : decode mX11_tries.2.1 100 = .ok (.aload_n 0, 1) := by decide +kernel
theorem dX11_tries_101 : decode mX11_tries.2.1 101 = .ok (.getfield 102, 3) := by decide +kernel
theorem dX11_tries_104 : decode mX11_tries.2.1 104 = .ok (.iload 8, 2) := by decide +kernel
theorem dX11_tries_106 : decode mX11_tries.2.1 106 = .ok (.iaload, 1) := by decide +kernel
theorem dX11_tries_107 : decode mX11_tries.2.1 107 = .ok (.iastore, 1) := by decide +kernel
theorem dX11_tries_108 : decode mX11_tries.2.1 108 = .ok (.iinc 8 1, 3) := by decide +kernel
theorem dX11_tries_111 : decode mX11_tries.2.1 111 = .ok (.goto (-26), 3) := by decide +kernel
theorem dX11_tries_114 : decode mX11_tries.2.1 114 = .ok (.return_, 1) := by decide +kernel
theorem dX11_tries_115 : decode mX11_tries.2.1 115 = .ok (.aload_n 0, 1) := by decide +kernel
theorem dX11_tries_116 : decode mX11_tries.2.1 116 = .ok (.getfield 63, 3) := by decide +kernel
theorem dX11_tries_119 : decode mX11_tries.2.1 119 = .ok (.aload_n 0, 1) := by decide +kernel
theorem dX11_tries_120 : decode mX11_tries.2.1 120 = .ok (.getfield 99, 3) := by decide +kernel
theorem dX11_tries_123 : decode mX11_tries.2.1 123 = .ok (.iload_n 1, 1) := by decide +kernel
theorem dX11_tries_124 : decode mX11_tries.2.1 124 = .ok (.iaload, 1) := by decide +kernel
theorem dX11_tries_125 : decode mX11_tries.2.1 125 = .ok (.iaload, 1) := by decide +kernel
theorem dX11_tries_126 : decode mX11_tries.2.1 126 = .ok (.istore 6, 2) := by decide +kernel
theorem dX11_tries_128 : decode mX11_tries.2.1 128 = .ok (.aload_n 0, 1) := by decide +kernel
theorem dX11_tries_129 : decode mX11_tries.2.1 129 = .ok (.getfield 102, 3) := by decide +kernel
theorem dX11_tries_132 : decode mX11_tries.2.1 132 = .ok (.iload_n 1, 1) := by decide +kernel
theorem dX11_tries_133 : decode mX11_tries.2.1 133 = .ok (.iconst 0, 1) := by decide +kernel
theorem dX11_tries_134 : decode mX11_tries.2.1 134 = .ok (.iastore, 1) := by decide +kernel
theorem dX11_tries_135 : decode mX11_tries.2.1 135 = .ok (.aload_n 0, 1) := by decide +kernel
theorem dX11_tries_136 : decode mX11_tries.2.1 136 = .ok (.iload_n 1, 1) := by decide +kernel
theorem dX11_tries_137 : decode mX11_tries.2.1 137 = .ok (.iconst 1, 1) := by decide +kernel
theorem dX11_tries_138 : decode mX11_tries.2.1 138 = .ok (.iadd, 1) := by decide +kernel
theorem dX11_tries_139 : decode mX11_tries.2.1 139 = .ok (.iload_n 2, 1) := by decide +kernel
theorem dX11_tries_140 : decode mX11_tries.2.1 140 = .ok (.iload 6, 2) := by decide +kernel
theorem dX11_tries_142 : decode mX11_tries.2.1 142 = .ok (.iadd, 1) := by decide +kernel
theorem dX11_tries_143 : decode mX11_tries.2.1 143 = .ok (.iload_n 3, 1) := by decide +kernel
theorem dX11_tries_144 : decode mX11_tries.2.1 144 = .ok (.iload 4, 2) := by decide +kernel
theorem dX11_tries_146 : decode mX11_tries.2.1 146 = .ok (.iconst 1, 1) := by decide +kernel
theorem dX11_tries_147 : decode mX11_tries.2.1 147 = .ok (.iadd, 1) := by decide +kernel
theorem dX11_tries_148 : decode mX11_tries.2.1 148 = .ok (.iload 5, 2) := by decide +kernel
theorem dX11_tries_150 : decode mX11_tries.2.1 150 = .ok (.invokevirtual 222, 3) := by decide +kernel
theorem dX11_tries_153 : decode mX11_tries.2.1 153 = .ok (.aload_n 0, 1) := by decide +kernel
theorem dX11_tries_154 : decode mX11_tries.2.1 154 = .ok (.getfield 102, 3) := by decide +kernel
theorem dX11_tries_157 : decode mX11_tries.2.1 157 = .ok (.iload_n 1, 1) := by decide +kernel
theorem dX11_tries_158 : decode mX11_tries.2.1 158 = .ok (.iconst 1, 1) := by decide +kernel
theorem dX11_tries_159 : decode mX11_tries.2.1 159 = .ok (.iastore, 1) := by decide +kernel
theorem dX11_tries_160 : decode mX11_tries.2.1 160 = .ok (.aload_n 0, 1) := by decide +kernel
theorem dX11_tries_161 : decode mX11_tries.2.1 161 = .ok (.iload_n 1, 1) := by decide +kernel
theorem dX11_tries_162 : decode mX11_tries.2.1 162 = .ok (.iconst 1, 1) := by decide +kernel
theorem dX11_tries_163 : decode mX11_tries.2.1 163 = .ok (.iadd, 1) := by decide +kernel
theorem dX11_tries_164 : decode mX11_tries.2.1 164 = .ok (.iload_n 2, 1) := by decide +kernel
theorem dX11_tries_165 : decode mX11_tries.2.1 165 = .ok (.iload_n 3, 1) := by decide +kernel
theorem dX11_tries_166 : decode mX11_tries.2.1 166 = .ok (.iload 6, 2) := by decide +kernel
theorem dX11_tries_168 : decode mX11_tries.2.1 168 = .ok (.iadd, 1) := by decide +kernel
theorem dX11_tries_169 : decode mX11_tries.2.1 169 = .ok (.iload 4, 2) := by decide +kernel
theorem dX11_tries_171 : decode mX11_tries.2.1 171 = .ok (.iconst 1, 1) := by decide +kernel
theorem dX11_tries_172 : decode mX11_tries.2.1 172 = .ok (.iadd, 1) := by decide +kernel
theorem dX11_tries_173 : decode mX11_tries.2.1 173 = .ok (.iload 5, 2) := by decide +kernel
theorem dX11_tries_175 : decode mX11_tries.2.1 175 = .ok (.invokevirtual 222, 3) := by decide +kernel
theorem dX11_tries_178 : decode mX11_tries.2.1 178 = .ok (.aload_n 0, 1) := by decide +kernel
theorem dX11_tries_179 : decode mX11_tries.2.1 179 = .ok (.getfield 102, 3) := by decide +kernel
theorem dX11_tries_182 : decode mX11_tries.2.1 182 = .ok (.iload_n 1, 1) := by decide +kernel
theorem dX11_tries_183 : decode mX11_tries.2.1 183 = .ok (.iconst 2, 1) := by decide +kernel
theorem dX11_tries_184 : decode mX11_tries.2.1 184 = .ok (.iastore, 1) := by decide +kernel
theorem dX11_tries_185 : decode mX11_tries.2.1 185 = .ok (.aload_n 0, 1) := by decide +kernel
theorem dX11_tries_186 : decode mX11_tries.2.1 186 = .ok (.iload_n 1, 1) := by decide +kernel
theorem dX11_tries_187 : decode mX11_tries.2.1 187 = .ok (.iconst 1, 1) := by decide +kernel
theorem dX11_tries_188 : decode mX11_tries.2.1 188 = .ok (.iadd, 1) := by decide +kernel
theorem dX11_tries_189 : decode mX11_tries.2.1 189 = .ok (.iload_n 2, 1) := by decide +kernel
theorem dX11_tries_190 : decode mX11_tries.2.1 190 = .ok (.iload_n 3, 1) := by decide +kernel
theorem dX11_tries_191 : decode mX11_tries.2.1 191 = .ok (.iload 4, 2) := by decide +kernel
theorem dX11_tries_193 : decode mX11_tries.2.1 193 = .ok (.iload 5, 2) := by decide +kernel
theorem dX11_tries_195 : decode mX11_tries.2.1 195 = .ok (.invokevirtual 222, 3) := by decide +kernel
theorem dX11_tries_198 : decode mX11_tries.2.1 198 = .ok (.return_, 1) := by decide +kernel
theorem dX11_want_0 : decode mX11_want.2.1 0 = .ok (.aload_n 0, 1) := by decide +kernel
theorem dX11_want_1 : decode mX11_want.2.1 1 = .ok (.invokevirtual 301, 3) := by decide +kernel
theorem dX11_want_4 : decode mX11_want.2.1 4 = .ok (.ifCond .ne 4, 3) := by decide +kernel
theorem dX11_want_7 : decode mX11_want.2.1 7 = .ok (.return_, 1) := by decide +kernel
theorem dX11_want_8 : decode mX11_want.2.1 8 = .ok (.aload_n 0, 1) := by decide +kernel
theorem dX11_want_9 : decode mX11_want.2.1 9 = .ok (.iload_n 1, 1) := by decide +kernel
theorem dX11_want_10 : decode mX11_want.2.1 10 = .ok (.invokevirtual 295, 3) := by decide +kernel
theorem dX11_want_13 : decode mX11_want.2.1 13 = .ok (.ifCond .eq 10, 3) := by decide +kernel
theorem dX11_want_16 : decode mX11_want.2.1 16 = .ok (.aload_n 0, 1) := by decide +kernel
theorem dX11_want_17 : decode mX11_want.2.1 17 = .ok (.invokevirtual 292, 3) := by decide +kernel
theorem dX11_want_20 : decode mX11_want.2.1 20 = .ok (.goto 8, 3) := by decide +kernel
theorem dX11_want_23 : decode mX11_want.2.1 23 = .ok (.aload_n 0, 1) := by decide +kernel
theorem dX11_want_24 : decode mX11_want.2.1 24 = .ok (.iconst 1, 1) := by decide +kernel
theorem dX11_want_25 : decode mX11_want.2.1 25 = .ok (.invokevirtual 289, 3) := by decide +kernel
theorem dX11_want_28 : decode mX11_want.2.1 28 = .ok (.return_, 1) := by decide +kernel
theorem dX11_was_0 : decode mX11_was.2.1 0 = .ok (.aload_n 0, 1) := by decide +kernel
theorem dX11_was_1 : decode mX11_was.2.1 1 = .ok (.iconst 0, 1) := by decide +kernel
theorem dX11_was_2 : decode mX11_was.2.1 2 = .ok (.putfield 1, 3) := by decide +kernel
theorem dX11_was_5 : decode mX11_was.2.1 5 = .ok (.aload_n 0, 1) := by decide +kernel
theorem dX11_was_6 : decode mX11_was.2.1 6 = .ok (.iload_n 1, 1) := by decide +kernel
theorem dX11_was_7 : decode mX11_was.2.1 7 = .ok (.invokevirtual 175, 3) := by decide +kernel
theorem dX11_was_10 : decode mX11_was.2.1 10 = .ok (.ifCond .eq 20, 3) := by decide +kernel
theorem dX11_was_13 : decode mX11_was.2.1 13 = .ok (.iload_n 2, 1) := by decide +kernel
theorem dX11_was_14 : decode mX11_was.2.1 14 = .ok (.aload_n 0, 1) := by decide +kernel
theorem dX11_was_15 : decode mX11_was.2.1 15 = .ok (.getfield 81, 3) := by decide +kernel
theorem dX11_was_18 : decode mX11_was.2.1 18 = .ok (.iload_n 1, 1) := by decide +kernel
theorem dX11_was_19 : decode mX11_was.2.1 19 = .ok (.iaload, 1) := by decide +kernel
theorem dX11_was_20 : decode mX11_was.2.1 20 = .ok (.aload_n 0, 1) := by decide +kernel
theorem dX11_was_21 : decode mX11_was.2.1 21 = .ok (.getfield 150, 3) := by decide +kernel
theorem dX11_was_24 : decode mX11_was.2.1 24 = .ok (.invokestatic 139, 3) := by decide +kernel
theorem dX11_was_27 : decode mX11_was.2.1 27 = .ok (.ifCond .ne 5, 3) := by decide +kernel
theorem dX11_was_30 : decode mX11_was.2.1 30 = .ok (.iconst (-1), 1) := by decide +kernel
theorem dX11_was_31 : decode mX11_was.2.1 31 = .ok (.ireturn, 1) := by decide +kernel
theorem dX11_was_32 : decode mX11_was.2.1 32 = .ok (.iconst (-1), 1) := by decide +kernel
theorem dX11_was_33 : decode mX11_was.2.1 33 = .ok (.istore_n 3, 1) := by decide +kernel
theorem dX11_was_34 : decode mX11_was.2.1 34 = .ok (.iconst 0, 1) := by decide +kernel
theorem dX11_was_35 : decode mX11_was.2.1 35 = .ok (.istore 4, 2) := by decide +kernel
theorem dX11_was_37 : decode mX11_was.2.1 37 = .ok (.iload 4, 2) := by decide +kernel
theorem dX11_was_39 : decode mX11_was.2.1 39 = .ok (.aload_n 0, 1) := by decide +kernel
theorem dX11_was_40 : decode mX11_was.2.1 40 = .ok (.getfield 162, 3) := by decide +kernel
theorem dX11_was_43 : decode mX11_was.2.1 43 = .ok (.if_icmp .ge 39, 3) := by decide +kernel
theorem dX11_was_46 : decode mX11_was.2.1 46 = .ok (.aload_n 0, 1) := by decide +kernel
theorem dX11_was_47 : decode mX11_was.2.1 47 = .ok (.getfield 90, 3) := by decide +kernel
theorem dX11_was_50 : decode mX11_was.2.1 50 = .ok (.iload 4, 2) := by decide +kernel
theorem dX11_was_52 : decode mX11_was.2.1 52 = .ok (.iaload, 1) := by decide +kernel
theorem dX11_was_53 : decode mX11_was.2.1 53 = .ok (.iload_n 1, 1) := by decide +kernel
theorem dX11_was_54 : decode mX11_was.2.1 54 = .ok (.if_icmp .ne 22, 3) := by decide +kernel
theorem dX11_was_57 : decode mX11_was.2.1 57 = .ok (.aload_n 0, 1) := by decide +kernel
theorem dX11_was_58 : decode mX11_was.2.1 58 = .ok (.getfield 93, 3) := by decide +kernel
theorem dX11_was_61 : decode mX11_was.2.1 61 = .ok (.iload 4, 2) := by decide +kernel
theorem dX11_was_63 : decode mX11_was.2.1 63 = .ok (.iaload, 1) := by decide +kernel
theorem dX11_was_64 : decode mX11_was.2.1 64 = .ok (.iload_n 2, 1) := by decide +kernel
theorem dX11_was_65 : decode mX11_was.2.1 65 = .ok (.if_icmp .gt 11, 3) := by decide +kernel
theorem dX11_was_68 : decode mX11_was.2.1 68 = .ok (.aload_n 0, 1) := by decide +kernel
theorem dX11_was_69 : decode mX11_was.2.1 69 = .ok (.getfield 96, 3) := by decide +kernel
theorem dX11_was_72 : decode mX11_was.2.1 72 = .ok (.iload 4, 2) := by decide +kernel
theorem dX11_was_74 : decode mX11_was.2.1 74 = .ok (.iaload, 1) := by decide +kernel
theorem dX11_was_75 : decode mX11_was.2.1 75 = .ok (.istore_n 3, 1) := by decide +kernel
theorem dX11_was_76 : decode mX11_was.2.1 76 = .ok (.iinc 4 1, 3) := by decide +kernel
theorem dX11_was_79 : decode mX11_was.2.1 79 = .ok (.goto (-42), 3) := by decide +kernel
theorem dX11_was_82 : decode mX11_was.2.1 82 = .ok (.iload_n 3, 1) := by decide +kernel
theorem dX11_was_83 : decode mX11_was.2.1 83 = .ok (.ireturn, 1) := by decide +kernel
theorem dX11_within_0 : decode mX11_within.2.1 0 = .ok (.iload_n 0, 1) := by decide +kernel
theorem dX11_within_1 : decode mX11_within.2.1 1 = .ok (.iload_n 1, 1) := by decide +kernel
theorem dX11_within_2 : decode mX11_within.2.1 2 = .ok (.if_icmp .lt 12, 3) := by decide +kernel
theorem dX11_within_5 : decode mX11_within.2.1 5 = .ok (.iload_n 0, 1) := by decide +kernel
theorem dX11_within_6 : decode mX11_within.2.1 6 = .ok (.iload_n 2, 1) := by decide +kernel
theorem dX11_within_7 : decode mX11_within.2.1 7 = .ok (.if_icmp .gt 7, 3) := by decide +kernel
theorem dX11_within_10 : decode mX11_within.2.1 10 = .ok (.iconst 1, 1) := by decide +kernel
theorem dX11_within_11 : decode mX11_within.2.1 11 = .ok (.goto 4, 3) := by decide +kernel
theorem dX11_within_14 : decode mX11_within.2.1 14 = .ok (.iconst 0, 1) := by decide +kernel
theorem dX11_within_15 : decode mX11_within.2.1 15 = .ok (.ireturn, 1) := by decide +kernel
theorem dX11_word_0 : decode mX11_word.2.1 0 = .ok (.aload_n 0, 1) := by decide +kernel
theorem dX11_word_1 : decode mX11_word.2.1 1 = .ok (.ldc_w 270, 3) := by decide +kernel
theorem dX11_word_4 : decode mX11_word.2.1 4 = .ok (.invokevirtual 272, 3) := by decide +kernel
theorem dX11_word_7 : decode mX11_word.2.1 7 = .ok (.ifCond .eq 7, 3) := by decide +kernel
theorem dX11_word_10 : decode mX11_word.2.1 10 = .ok (.iconst 0, 1) := by decide +kernel
theorem dX11_word_11 : decode mX11_word.2.1 11 = .ok (.goto 89, 3) := by decide +kernel
theorem dX11_word_14 : decode mX11_word.2.1 14 = .ok (.aload_n 0, 1) := by decide +kernel
theorem dX11_word_15 : decode mX11_word.2.1 15 = .ok (.ldc_w 276, 3) := by decide +kernel
theorem dX11_word_18 : decode mX11_word.2.1 18 = .ok (.invokevirtual 272, 3) := by decide +kernel
theorem dX11_word_21 : decode mX11_word.2.1 21 = .ok (.ifCond .eq 7, 3) := by decide +kernel
theorem dX11_word_24 : decode mX11_word.2.1 24 = .ok (.iconst 1, 1) := by decide +kernel
theorem dX11_word_25 : decode mX11_word.2.1 25 = .ok (.goto 75, 3) := by decide +kernel
theorem dX11_word_28 : decode mX11_word.2.1 28 = .ok (.aload_n 0, 1) := by decide +kernel
theorem dX11_word_29 : decode mX11_word.2.1 29 = .ok (.ldc_w 278, 3) := by decide +kernel
theorem dX11_word_32 : decode mX11_word.2.1 32 = .ok (.invokevirtual 272, 3) := by decide +kernel
theorem dX11_word_35 : decode mX11_word.2.1 35 = .ok (.ifCond .eq 7, 3) := by decide +kernel
theorem dX11_word_38 : decode mX11_word.2.1 38 = .ok (.iconst 2, 1) := by decide +kernel
theorem dX11_word_39 : decode mX11_word.2.1 39 = .ok (.goto 61, 3) := by decide +kernel
theorem dX11_word_42 : decode mX11_word.2.1 42 = .ok (.aload_n 0, 1) := by decide +kernel
theorem dX11_word_43 : decode mX11_word.2.1 43 = .ok (.ldc_w 280, 3) := by decide +kernel
theorem dX11_word_46 : decode mX11_word.2.1 46 = .ok (.invokevirtual 272, 3) := by decide +kernel
theorem dX11_word_49 : decode mX11_word.2.1 49 = .ok (.ifCond .eq 7, 3) := by decide +kernel
theorem dX11_word_52 : decode mX11_word.2.1 52 = .ok (.iconst 3, 1) := by decide +kernel
theorem dX11_word_53 : decode mX11_word.2.1 53 = .ok (.goto 47, 3) := by decide +kernel
theorem dX11_word_56 : decode mX11_word.2.1 56 = .ok (.aload_n 0, 1) := by decide +kernel
theorem dX11_word_57 : decode mX11_word.2.1 57 = .ok (.ldc_w 282, 3) := by decide +kernel
theorem dX11_word_60 : decode mX11_word.2.1 60 = .ok (.invokevirtual 272, 3) := by decide +kernel
theorem dX11_word_63 : decode mX11_word.2.1 63 = .ok (.ifCond .eq 7, 3) := by decide +kernel
theorem dX11_word_66 : decode mX11_word.2.1 66 = .ok (.iconst 4, 1) := by decide +kernel
theorem dX11_word_67 : decode mX11_word.2.1 67 = .ok (.goto 33, 3) := by decide +kernel
theorem dX11_word_70 : decode mX11_word.2.1 70 = .ok (.aload_n 0, 1) := by decide +kernel
theorem dX11_word_71 : decode mX11_word.2.1 71 = .ok (.ldc_w 283, 3) := by decide +kernel
theorem dX11_word_74 : decode mX11_word.2.1 74 = .ok (.invokevirtual 272, 3) := by decide +kernel
theorem dX11_word_77 : decode mX11_word.2.1 77 = .ok (.ifCond .eq 7, 3) := by decide +kernel
theorem dX11_word_80 : decode mX11_word.2.1 80 = .ok (.iconst 5, 1) := by decide +kernel
theorem dX11_word_81 : decode mX11_word.2.1 81 = .ok (.goto 19, 3) := by decide +kernel
theorem dX11_word_84 : decode mX11_word.2.1 84 = .ok (.aload_n 0, 1) := by decide +kernel
theorem dX11_word_85 : decode mX11_word.2.1 85 = .ok (.ldc_w 285, 3) := by decide +kernel
theorem dX11_word_88 : decode mX11_word.2.1 88 = .ok (.invokevirtual 272, 3) := by decide +kernel
theorem dX11_word_91 : decode mX11_word.2.1 91 = .ok (.ifCond .eq 8, 3) := by decide +kernel
theorem dX11_word_94 : decode mX11_word.2.1 94 = .ok (.bipush 6, 2) := by decide +kernel
theorem dX11_word_96 : decode mX11_word.2.1 96 = .ok (.goto 4, 3) := by decide +kernel
theorem dX11_word_99 : decode mX11_word.2.1 99 = .ok (.iconst (-1), 1) := by decide +kernel
theorem dX11_word_100 : decode mX11_word.2.1 100 = .ok (.ireturn, 1) := by decide +kernel
theorem dX11_worth_0 : decode mX11_worth.2.1 0 = .ok (.aload_n 0, 1) := by decide +kernel
theorem dX11_worth_1 : decode mX11_worth.2.1 1 = .ok (.iload_n 1, 1) := by decide +kernel
theorem dX11_worth_2 : decode mX11_worth.2.1 2 = .ok (.invokevirtual 319, 3) := by decide +kernel
theorem dX11_worth_5 : decode mX11_worth.2.1 5 = .ok (.istore_n 2, 1) := by decide +kernel
theorem dX11_worth_6 : decode mX11_worth.2.1 6 = .ok (.iconst 0, 1) := by decide +kernel
theorem dX11_worth_7 : decode mX11_worth.2.1 7 = .ok (.istore_n 3, 1) := by decide +kernel
theorem dX11_worth_8 : decode mX11_worth.2.1 8 = .ok (.iconst 0, 1) := by decide +kernel
theorem dX11_worth_9 : decode mX11_worth.2.1 9 = .ok (.istore 4, 2) := by decide +kernel
theorem dX11_worth_11 : decode mX11_worth.2.1 11 = .ok (.iload_n 2, 1) := by decide +kernel
theorem dX11_worth_12 : decode mX11_worth.2.1 12 = .ok (.iconst (-1), 1) := by decide +kernel
theorem dX11_worth_13 : decode mX11_worth.2.1 13 = .ok (.if_icmp .eq 95, 3) := by decide +kernel
theorem dX11_worth_16 : decode mX11_worth.2.1 16 = .ok (.iload 4, 2) := by decide +kernel
theorem dX11_worth_18 : decode mX11_worth.2.1 18 = .ok (.aload_n 0, 1) := by decide +kernel
theorem dX11_worth_19 : decode mX11_worth.2.1 19 = .ok (.getfield 118, 3) := by decide +kernel
theorem dX11_worth_22 : decode mX11_worth.2.1 22 = .ok (.iload_n 2, 1) := by decide +kernel
theorem dX11_worth_23 : decode mX11_worth.2.1 23 = .ok (.iaload, 1) := by decide +kernel
theorem dX11_worth_24 : decode mX11_worth.2.1 24 = .ok (.if_icmp .ge 84, 3) := by decide +kernel
theorem dX11_worth_27 : decode mX11_worth.2.1 27 = .ok (.bipush 20, 2) := by decide +kernel
theorem dX11_worth_29 : decode mX11_worth.2.1 29 = .ok (.iload_n 2, 1) := by decide +kernel
theorem dX11_worth_30 : decode mX11_worth.2.1 30 = .ok (.imul, 1) := by decide +kernel
theorem dX11_worth_31 : decode mX11_worth.2.1 31 = .ok (.iload 4, 2) := by decide +kernel
theorem dX11_worth_33 : decode mX11_worth.2.1 33 = .ok (.iadd, 1) := by decide +kernel
theorem dX11_worth_34 : decode mX11_worth.2.1 34 = .ok (.istore 5, 2) := by decide +kernel
theorem dX11_worth_36 : decode mX11_worth.2.1 36 = .ok (.iconst 1, 1) := by decide +kernel
theorem dX11_worth_37 : decode mX11_worth.2.1 37 = .ok (.istore 6, 2) := by decide +kernel
theorem dX11_worth_39 : decode mX11_worth.2.1 39 = .ok (.iconst 0, 1) := by decide +kernel
theorem dX11_worth_40 : decode mX11_worth.2.1 40 = .ok (.istore 7, 2) := by decide +kernel
theorem dX11_worth_42 : decode mX11_worth.2.1 42 = .ok (.iload 7, 2) := by decide +kernel
theorem dX11_worth_44 : decode mX11_worth.2.1 44 = .ok (.aload_n 0, 1) := by decide +kernel
theorem dX11_worth_45 : decode mX11_worth.2.1 45 = .ok (.getfield 121, 3) := by decide +kernel
theorem dX11_worth_48 : decode mX11_worth.2.1 48 = .ok (.iload 5, 2) := by decide +kernel
theorem dX11_worth_50 : decode mX11_worth.2.1 50 = .ok (.iaload, 1) := by decide +kernel
theorem dX11_worth_51 : decode mX11_worth.2.1 51 = .ok (.if_icmp .ge 36, 3) := by decide +kernel
theorem dX11_worth_54 : decode mX11_worth.2.1 54 = .ok (.iload 6, 2) := by decide +kernel
theorem dX11_worth_56 : decode mX11_worth.2.1 56 = .ok (.ifCond .eq 22, 3) := by decide +kernel
theorem dX11_worth_59 : decode mX11_worth.2.1 59 = .ok (.aload_n 0, 1) := by decide +kernel
theorem dX11_worth_60 : decode mX11_worth.2.1 60 = .ok (.iconst 4, 1) := by decide +kernel
theorem dX11_worth_61 : decode mX11_worth.2.1 61 = .ok (.iload 5, 2) := by decide +kernel
theorem dX11_worth_63 : decode mX11_worth.2.1 63 = .ok (.imul, 1) := by decide +kernel
theorem dX11_worth_64 : decode mX11_worth.2.1 64 = .ok (.iload 7, 2) := by decide +kernel
theorem dX11_worth_66 : decode mX11_worth.2.1 66 = .ok (.iadd, 1) := by decide +kernel
theorem dX11_worth_67 : decode mX11_worth.2.1 67 = .ok (.iload_n 1, 1) := by decide +kernel
theorem dX11_worth_68 : decode mX11_worth.2.1 68 = .ok (.invokevirtual 322, 3) := by decide +kernel
theorem dX11_worth_71 : decode mX11_worth.2.1 71 = .ok (.ifCond .eq 7, 3) := by decide +kernel
theorem dX11_worth_74 : decode mX11_worth.2.1 74 = .ok (.iconst 1, 1) := by decide +kernel
theorem dX11_worth_75 : decode mX11_worth.2.1 75 = .ok (.goto 4, 3) := by decide +kernel
theorem dX11_worth_78 : decode mX11_worth.2.1 78 = .ok (.iconst 0, 1) := by decide +kernel
theorem dX11_worth_79 : decode mX11_worth.2.1 79 = .ok (.istore 6, 2) := by decide +kernel
theorem dX11_worth_81 : decode mX11_worth.2.1 81 = .ok (.iinc 7 1, 3) := by decide +kernel
theorem dX11_worth_84 : decode mX11_worth.2.1 84 = .ok (.goto (-42), 3) := by decide +kernel
theorem dX11_worth_87 : decode mX11_worth.2.1 87 = .ok (.iload 6, 2) := by decide +kernel
theorem dX11_worth_89 : decode mX11_worth.2.1 89 = .ok (.ifCond .eq 13, 3) := by decide +kernel
theorem dX11_worth_92 : decode mX11_worth.2.1 92 = .ok (.iload_n 3, 1) := by decide +kernel
theorem dX11_worth_93 : decode mX11_worth.2.1 93 = .ok (.aload_n 0, 1) := by decide +kernel
theorem dX11_worth_94 : decode mX11_worth.2.1 94 = .ok (.getfield 124, 3) := by decide +kernel
theorem dX11_worth_97 : decode mX11_worth.2.1 97 = .ok (.iload 5, 2) := by decide +kernel
theorem dX11_worth_99 : decode mX11_worth.2.1 99 = .ok (.iaload, 1) := by decide +kernel
theorem dX11_worth_100 : decode mX11_worth.2.1 100 = .ok (.iadd, 1) := by decide +kernel
theorem dX11_worth_101 : decode mX11_worth.2.1 101 = .ok (.istore_n 3, 1) := by decide +kernel
theorem dX11_worth_102 : decode mX11_worth.2.1 102 = .ok (.iinc 4 1, 3) := by decide +kernel
theorem dX11_worth_105 : decode mX11_worth.2.1 105 = .ok (.goto (-94), 3) := by decide +kernel
theorem dX11_worth_108 : decode mX11_worth.2.1 108 = .ok (.iload_n 3, 1) := by decide +kernel
theorem dX11_worth_109 : decode mX11_worth.2.1 109 = .ok (.ireturn, 1) := by decide +kernel
theorem dX1_add_0 : decode mX1_add.2.1 0 = .ok (.aload_n 0, 1) := by decide +kernel
theorem dX1_add_1 : decode mX1_add.2.1 1 = .ok (.getfield 27, 3) := by decide +kernel
theorem dX1_add_4 : decode mX1_add.2.1 4 = .ok (.bipush 10, 2) := by decide +kernel
theorem dX1_add_6 : decode mX1_add.2.1 6 = .ok (.if_icmp .lt 4, 3) := by decide +kernel
theorem dX1_add_9 : decode mX1_add.2.1 9 = .ok (.return_, 1) := by decide +kernel
theorem dX1_add_10 : decode mX1_add.2.1 10 = .ok (.aload_n 0, 1) := by decide +kernel
theorem dX1_add_11 : decode mX1_add.2.1 11 = .ok (.getfield 9, 3) := by decide +kernel
theorem dX1_add_14 : decode mX1_add.2.1 14 = .ok (.aload_n 0, 1) := by decide +kernel
theorem dX1_add_15 : decode mX1_add.2.1 15 = .ok (.getfield 27, 3) := by decide +kernel
theorem dX1_add_18 : decode mX1_add.2.1 18 = .ok (.iload_n 1, 1) := by decide +kernel
theorem dX1_add_19 : decode mX1_add.2.1 19 = .ok (.iastore, 1) := by decide +kernel
theorem dX1_add_20 : decode mX1_add.2.1 20 = .ok (.aload_n 0, 1) := by decide +kernel
theorem dX1_add_21 : decode mX1_add.2.1 21 = .ok (.getfield 15, 3) := by decide +kernel
theorem dX1_add_24 : decode mX1_add.2.1 24 = .ok (.aload_n 0, 1) := by decide +kernel
theorem dX1_add_25 : decode mX1_add.2.1 25 = .ok (.getfield 27, 3) := by decide +kernel
theorem dX1_add_28 : decode mX1_add.2.1 28 = .ok (.iload_n 2, 1) := by decide +kernel
theorem dX1_add_29 : decode mX1_add.2.1 29 = .ok (.iastore, 1) := by decide +kernel
theorem dX1_add_30 : decode mX1_add.2.1 30 = .ok (.aload_n 0, 1) := by decide +kernel
theorem dX1_add_31 : decode mX1_add.2.1 31 = .ok (.dup, 1) := by decide +kernel
theorem dX1_add_32 : decode mX1_add.2.1 32 = .ok (.getfield 27, 3) := by decide +kernel
theorem dX1_add_35 : decode mX1_add.2.1 35 = .ok (.iconst 1, 1) := by decide +kernel
theorem dX1_add_36 : decode mX1_add.2.1 36 = .ok (.iadd, 1) := by decide +kernel
theorem dX1_add_37 : decode mX1_add.2.1 37 = .ok (.putfield 27, 3) := by decide +kernel
theorem dX1_add_40 : decode mX1_add.2.1 40 = .ok (.return_, 1) := by decide +kernel
theorem dX1_clear_0 : decode mX1_clear.2.1 0 = .ok (.aload_n 0, 1) := by decide +kernel
theorem dX1_clear_1 : decode mX1_clear.2.1 1 = .ok (.iconst 0, 1) := by decide +kernel
theorem dX1_clear_2 : decode mX1_clear.2.1 2 = .ok (.putfield 27, 3) := by decide +kernel
theorem dX1_clear_5 : decode mX1_clear.2.1 5 = .ok (.return_, 1) := by decide +kernel
theorem dX1_findFor_0 : decode mX1_findFor.2.1 0 = .ok (.aload_n 0, 1) := by decide +kernel
theorem dX1_findFor_1 : decode mX1_findFor.2.1 1 = .ok (.iload_n 1, 1) := by decide +kernel
theorem dX1_findFor_2 : decode mX1_findFor.2.1 2 = .ok (.putfield 31, 3) := by decide +kernel
theorem dX1_findFor_5 : decode mX1_findFor.2.1 5 = .ok (.aload_n 0, 1) := by decide +kernel
theorem dX1_findFor_6 : decode mX1_findFor.2.1 6 = .ok (.iconst 0, 1) := by decide +kernel
theorem dX1_findFor_7 : decode mX1_findFor.2.1 7 = .ok (.putfield 34, 3) := by decide +kernel
theorem dX1_findFor_10 : decode mX1_findFor.2.1 10 = .ok (.aload_n 0, 1) := by decide +kernel
theorem dX1_findFor_11 : decode mX1_findFor.2.1 11 = .ok (.iconst 0, 1) := by decide +kernel
theorem dX1_findFor_12 : decode mX1_findFor.2.1 12 = .ok (.putfield 37, 3) := by decide +kernel
theorem dX1_findFor_15 : decode mX1_findFor.2.1 15 = .ok (.aload_n 0, 1) := by decide +kernel
theorem dX1_findFor_16 : decode mX1_findFor.2.1 16 = .ok (.getfield 18, 3) := by decide +kernel
theorem dX1_findFor_19 : decode mX1_findFor.2.1 19 = .ok (.aload_n 0, 1) := by decide +kernel
theorem dX1_findFor_20 : decode mX1_findFor.2.1 20 = .ok (.getfield 27, 3) := by decide +kernel
theorem dX1_findFor_23 : decode mX1_findFor.2.1 23 = .ok (.iconst 0, 1) := by decide +kernel
theorem dX1_findFor_24 : decode mX1_findFor.2.1 24 = .ok (.iastore, 1) := by decide +kernel
theorem dX1_findFor_25 : decode mX1_findFor.2.1 25 = .ok (.aload_n 0, 1) := by decide +kernel
theorem dX1_findFor_26 : decode mX1_findFor.2.1 26 = .ok (.getfield 27, 3) := by decide +kernel
theorem dX1_findFor_29 : decode mX1_findFor.2.1 29 = .ok (.iconst 1, 1) := by decide +kernel
theorem dX1_findFor_30 : decode mX1_findFor.2.1 30 = .ok (.isub, 1) := by decide +kernel
theorem dX1_findFor_31 : decode mX1_findFor.2.1 31 = .ok (.istore_n 2, 1) := by decide +kernel
theorem dX1_findFor_32 : decode mX1_findFor.2.1 32 = .ok (.iload_n 2, 1) := by decide +kernel
theorem dX1_findFor_33 : decode mX1_findFor.2.1 33 = .ok (.ifCond .lt 37, 3) := by decide +kernel
theorem dX1_findFor_36 : decode mX1_findFor.2.1 36 = .ok (.aload_n 0, 1) := by decide +kernel
theorem dX1_findFor_37 : decode mX1_findFor.2.1 37 = .ok (.getfield 18, 3) := by decide +kernel
theorem dX1_findFor_40 : decode mX1_findFor.2.1 40 = .ok (.iload_n 2, 1) := by decide +kernel
theorem dX1_findFor_41 : decode mX1_findFor.2.1 41 = .ok (.aload_n 0, 1) := by decide +kernel
theorem dX1_findFor_42 : decode mX1_findFor.2.1 42 = .ok (.getfield 18, 3) := by decide +kernel
theorem dX1_findFor_45 : decode mX1_findFor.2.1 45 = .ok (.iload_n 2, 1) := by decide +kernel
theorem dX1_findFor_46 : decode mX1_findFor.2.1 46 = .ok (.iconst 1, 1) := by decide +kernel
theorem dX1_findFor_47 : decode mX1_findFor.2.1 47 = .ok (.iadd, 1) := by decide +kernel
theorem dX1_findFor_48 : decode mX1_findFor.2.1 48 = .ok (.iaload, 1) := by decide +kernel
theorem dX1_findFor_49 : decode mX1_findFor.2.1 49 = .ok (.aload_n 0, 1) := by decide +kernel
theorem dX1_findFor_50 : decode mX1_findFor.2.1 50 = .ok (.getfield 15, 3) := by decide +kernel
theorem dX1_findFor_53 : decode mX1_findFor.2.1 53 = .ok (.iload_n 2, 1) := by decide +kernel
theorem dX1_findFor_54 : decode mX1_findFor.2.1 54 = .ok (.iaload, 1) := by decide +kernel
theorem dX1_findFor_55 : decode mX1_findFor.2.1 55 = .ok (.iadd, 1) := by decide +kernel
theorem dX1_findFor_56 : decode mX1_findFor.2.1 56 = .ok (.iastore, 1) := by decide +kernel
theorem dX1_findFor_57 : decode mX1_findFor.2.1 57 = .ok (.aload_n 0, 1) := by decide +kernel
theorem dX1_findFor_58 : decode mX1_findFor.2.1 58 = .ok (.getfield 24, 3) := by decide +kernel
theorem dX1_findFor_61 : decode mX1_findFor.2.1 61 = .ok (.iload_n 2, 1) := by decide +kernel
theorem dX1_findFor_62 : decode mX1_findFor.2.1 62 = .ok (.iconst 2, 1) := by decide +kernel
theorem dX1_findFor_63 : decode mX1_findFor.2.1 63 = .ok (.iastore, 1) := by decide +kernel
theorem dX1_findFor_64 : decode mX1_findFor.2.1 64 = .ok (.iinc 2 (-1), 3) := by decide +kernel
theorem dX1_findFor_67 : decode mX1_findFor.2.1 67 = .ok (.goto (-35), 3) := by decide +kernel
theorem dX1_findFor_70 : decode mX1_findFor.2.1 70 = .ok (.aload_n 0, 1) := by decide +kernel
theorem dX1_findFor_71 : decode mX1_findFor.2.1 71 = .ok (.iconst 0, 1) := by decide +kernel
theorem dX1_findFor_72 : decode mX1_findFor.2.1 72 = .ok (.iconst 0, 1) := by decide +kernel
theorem dX1_findFor_73 : decode mX1_findFor.2.1 73 = .ok (.iconst 0, 1) := by decide +kernel
theorem dX1_findFor_74 : decode mX1_findFor.2.1 74 = .ok (.iconst 0, 1) := by decide +kernel
theorem dX1_findFor_75 : decode mX1_findFor.2.1 75 = .ok (.invokestatic 40, 3) := by decide +kernel
theorem dX1_findFor_78 : decode mX1_findFor.2.1 78 = .ok (.return_, 1) := by decide +kernel
theorem dX1_init_0 : decode mX1_init.2.1 0 = .ok (.aload_n 0, 1) := by decide +kernel
theorem dX1_init_1 : decode mX1_init.2.1 1 = .ok (.invokespecial 3, 3) := by decide +kernel
theorem dX1_init_4 : decode mX1_init.2.1 4 = .ok (.aload_n 0, 1) := by decide +kernel
theorem dX1_init_5 : decode mX1_init.2.1 5 = .ok (.bipush 10, 2) := by decide +kernel
theorem dX1_init_7 : decode mX1_init.2.1 7 = .ok (.newarray .int, 2) := by decide +kernel
theorem dX1_init_9 : decode mX1_init.2.1 9 = .ok (.putfield 9, 3) := by decide +kernel
theorem dX1_init_12 : decode mX1_init.2.1 12 = .ok (.aload_n 0, 1) := by decide +kernel
theorem dX1_init_13 : decode mX1_init.2.1 13 = .ok (.bipush 10, 2) := by decide +kernel
theorem dX1_init_15 : decode mX1_init.2.1 15 = .ok (.newarray .int, 2) := by decide +kernel
theorem dX1_init_17 : decode mX1_init.2.1 17 = .ok (.putfield 15, 3) := by decide +kernel
theorem dX1_init_20 : decode mX1_init.2.1 20 = .ok (.aload_n 0, 1) := by decide +kernel
theorem dX1_init_21 : decode mX1_init.2.1 21 = .ok (.bipush 11, 2) := by decide +kernel
theorem dX1_init_23 : decode mX1_init.2.1 23 = .ok (.newarray .int, 2) := by decide +kernel
theorem dX1_init_25 : decode mX1_init.2.1 25 = .ok (.putfield 18, 3) := by decide +kernel
theorem dX1_init_28 : decode mX1_init.2.1 28 = .ok (.aload_n 0, 1) := by decide +kernel
theorem dX1_init_29 : decode mX1_init.2.1 29 = .ok (.bipush 10, 2) := by decide +kernel
theorem dX1_init_31 : decode mX1_init.2.1 31 = .ok (.newarray .int, 2) := by decide +kernel
theorem dX1_init_33 : decode mX1_init.2.1 33 = .ok (.putfield 21, 3) := by decide +kernel
theorem dX1_init_36 : decode mX1_init.2.1 36 = .ok (.aload_n 0, 1) := by decide +kernel
theorem dX1_init_37 : decode mX1_init.2.1 37 = .ok (.bipush 10, 2) := by decide +kernel
theorem dX1_init_39 : decode mX1_init.2.1 39 = .ok (.newarray .int, 2) := by decide +kernel
theorem dX1_init_41 : decode mX1_init.2.1 41 = .ok (.putfield 24, 3) := by decide +kernel
theorem dX1_init_44 : decode mX1_init.2.1 44 = .ok (.aload_n 0, 1) := by decide +kernel
theorem dX1_init_45 : decode mX1_init.2.1 45 = .ok (.iconst 0, 1) := by decide +kernel
theorem dX1_init_46 : decode mX1_init.2.1 46 = .ok (.putfield 27, 3) := by decide +kernel
theorem dX1_init_49 : decode mX1_init.2.1 49 = .ok (.aload_n 0, 1) := by decide +kernel
theorem dX1_init_50 : decode mX1_init.2.1 50 = .ok (.iconst 0, 1) := by decide +kernel
theorem dX1_init_51 : decode mX1_init.2.1 51 = .ok (.putfield 31, 3) := by decide +kernel
theorem dX1_init_54 : decode mX1_init.2.1 54 = .ok (.aload_n 0, 1) := by decide +kernel
theorem dX1_init_55 : decode mX1_init.2.1 55 = .ok (.iconst 0, 1) := by decide +kernel
theorem dX1_init_56 : decode mX1_init.2.1 56 = .ok (.putfield 34, 3) := by decide +kernel
theorem dX1_init_59 : decode mX1_init.2.1 59 = .ok (.aload_n 0, 1) := by decide +kernel
theorem dX1_init_60 : decode mX1_init.2.1 60 = .ok (.iconst 0, 1) := by decide +kernel
theorem dX1_init_61 : decode mX1_init.2.1 61 = .ok (.putfield 37, 3) := by decide +kernel
theorem dX1_init_64 : decode mX1_init.2.1 64 = .ok (.return_, 1) := by decide +kernel
theorem dX1_isHopeless_0 : decode mX1_isHopeless.2.1 0 = .ok (.iload_n 2, 1) := by decide +kernel
theorem dX1_isHopeless_1 : decode mX1_isHopeless.2.1 1 = .ok (.iload_n 3, 1) := by decide +kernel
theorem dX1_isHopeless_2 : decode mX1_isHopeless.2.1 2 = .ok (.iadd, 1) := by decide +kernel
theorem dX1_isHopeless_3 : decode mX1_isHopeless.2.1 3 = .ok (.istore 5, 2) := by decide +kernel
theorem dX1_isHopeless_5 : decode mX1_isHopeless.2.1 5 = .ok (.iload 5, 2) := by decide +kernel
theorem dX1_isHopeless_7 : decode mX1_isHopeless.2.1 7 = .ok (.aload_n 0, 1) := by decide +kernel
theorem dX1_isHopeless_8 : decode mX1_isHopeless.2.1 8 = .ok (.getfield 31, 3) := by decide +kernel
theorem dX1_isHopeless_11 : decode mX1_isHopeless.2.1 11 = .ok (.if_icmp .gt 21, 3) := by decide +kernel
theorem dX1_isHopeless_14 : decode mX1_isHopeless.2.1 14 = .ok (.iload_n 2, 1) := by decide +kernel
theorem dX1_isHopeless_15 : decode mX1_isHopeless.2.1 15 = .ok (.iload_n 3, 1) := by decide +kernel
theorem dX1_isHopeless_16 : decode mX1_isHopeless.2.1 16 = .ok (.isub, 1) := by decide +kernel
theorem dX1_isHopeless_17 : decode mX1_isHopeless.2.1 17 = .ok (.invokestatic 52, 3) := by decide +kernel
theorem dX1_isHopeless_20 : decode mX1_isHopeless.2.1 20 = .ok (.bipush 10, 2) := by decide +kernel
theorem dX1_isHopeless_22 : decode mX1_isHopeless.2.1 22 = .ok (.aload_n 0, 1) := by decide +kernel
theorem dX1_isHopeless_23 : decode mX1_isHopeless.2.1 23 = .ok (.getfield 18, 3) := by decide +kernel
theorem dX1_isHopeless_26 : decode mX1_isHopeless.2.1 26 = .ok (.iload_n 1, 1) := by decide +kernel
theorem dX1_isHopeless_27 : decode mX1_isHopeless.2.1 27 = .ok (.iaload, 1) := by decide +kernel
theorem dX1_isHopeless_28 : decode mX1_isHopeless.2.1 28 = .ok (.iadd, 1) := by decide +kernel
theorem dX1_isHopeless_29 : decode mX1_isHopeless.2.1 29 = .ok (.if_icmp .le 5, 3) := by decide +kernel
theorem dX1_isHopeless_32 : decode mX1_isHopeless.2.1 32 = .ok (.iconst 1, 1) := by decide +kernel
theorem dX1_isHopeless_33 : decode mX1_isHopeless.2.1 33 = .ok (.ireturn, 1) := by decide +kernel
theorem dX1_isHopeless_34 : decode mX1_isHopeless.2.1 34 = .ok (.aload_n 0, 1) := by decide +kernel
theorem dX1_isHopeless_35 : decode mX1_isHopeless.2.1 35 = .ok (.getfield 31, 3) := by decide +kernel
theorem dX1_isHopeless_38 : decode mX1_isHopeless.2.1 38 = .ok (.iload 5, 2) := by decide +kernel
theorem dX1_isHopeless_40 : decode mX1_isHopeless.2.1 40 = .ok (.aload_n 0, 1) := by decide +kernel
theorem dX1_isHopeless_41 : decode mX1_isHopeless.2.1 41 = .ok (.getfield 18, 3) := by decide +kernel
theorem dX1_isHopeless_44 : decode mX1_isHopeless.2.1 44 = .ok (.iload_n 1, 1) := by decide +kernel
theorem dX1_isHopeless_45 : decode mX1_isHopeless.2.1 45 = .ok (.iaload, 1) := by decide +kernel
theorem dX1_isHopeless_46 : decode mX1_isHopeless.2.1 46 = .ok (.iadd, 1) := by decide +kernel
theorem dX1_isHopeless_47 : decode mX1_isHopeless.2.1 47 = .ok (.invokestatic 58, 3) := by decide +kernel
theorem dX1_isHopeless_50 : decode mX1_isHopeless.2.1 50 = .ok (.istore 6, 2) := by decide +kernel
theorem dX1_isHopeless_52 : decode mX1_isHopeless.2.1 52 = .ok (.iload 6, 2) := by decide +kernel
theorem dX1_isHopeless_54 : decode mX1_isHopeless.2.1 54 = .ok (.aload_n 0, 1) := by decide +kernel
theorem dX1_isHopeless_55 : decode mX1_isHopeless.2.1 55 = .ok (.getfield 34, 3) := by decide +kernel
theorem dX1_isHopeless_58 : decode mX1_isHopeless.2.1 58 = .ok (.if_icmp .eq 18, 3) := by decide +kernel
theorem dX1_isHopeless_61 : decode mX1_isHopeless.2.1 61 = .ok (.iload 6, 2) := by decide +kernel
theorem dX1_isHopeless_63 : decode mX1_isHopeless.2.1 63 = .ok (.aload_n 0, 1) := by decide +kernel
theorem dX1_isHopeless_64 : decode mX1_isHopeless.2.1 64 = .ok (.getfield 34, 3) := by decide +kernel
theorem dX1_isHopeless_67 : decode mX1_isHopeless.2.1 67 = .ok (.if_icmp .ge 7, 3) := by decide +kernel
theorem dX1_isHopeless_70 : decode mX1_isHopeless.2.1 70 = .ok (.iconst 1, 1) := by decide +kernel
theorem dX1_isHopeless_71 : decode mX1_isHopeless.2.1 71 = .ok (.goto 4, 3) := by decide +kernel
theorem dX1_isHopeless_74 : decode mX1_isHopeless.2.1 74 = .ok (.iconst 0, 1) := by decide +kernel
theorem dX1_isHopeless_75 : decode mX1_isHopeless.2.1 75 = .ok (.ireturn, 1) := by decide +kernel
theorem dX1_isHopeless_76 : decode mX1_isHopeless.2.1 76 = .ok (.iload 5, 2) := by decide +kernel
theorem dX1_isHopeless_78 : decode mX1_isHopeless.2.1 78 = .ok (.aload_n 0, 1) := by decide +kernel
theorem dX1_isHopeless_79 : decode mX1_isHopeless.2.1 79 = .ok (.getfield 34, 3) := by decide +kernel
theorem dX1_isHopeless_82 : decode mX1_isHopeless.2.1 82 = .ok (.if_icmp .ge 10, 3) := by decide +kernel
theorem dX1_isHopeless_85 : decode mX1_isHopeless.2.1 85 = .ok (.iload 4, 2) := by decide +kernel
theorem dX1_isHopeless_87 : decode mX1_isHopeless.2.1 87 = .ok (.iconst 1, 1) := by decide +kernel
theorem dX1_isHopeless_88 : decode mX1_isHopeless.2.1 88 = .ok (.iadd, 1) := by decide +kernel
theorem dX1_isHopeless_89 : decode mX1_isHopeless.2.1 89 = .ok (.goto 5, 3) := by decide +kernel
theorem dX1_isHopeless_92 : decode mX1_isHopeless.2.1 92 = .ok (.iload 4, 2) := by decide +kernel
theorem dX1_isHopeless_94 : decode mX1_isHopeless.2.1 94 = .ok (.aload_n 0, 1) := by decide +kernel
theorem dX1_isHopeless_95 : decode mX1_isHopeless.2.1 95 = .ok (.getfield 37, 3) := by decide +kernel
theorem dX1_isHopeless_98 : decode mX1_isHopeless.2.1 98 = .ok (.if_icmp .lt 7, 3) := by decide +kernel
theorem dX1_isHopeless_101 : decode mX1_isHopeless.2.1 101 = .ok (.iconst 1, 1) := by decide +kernel
theorem dX1_isHopeless_102 : decode mX1_isHopeless.2.1 102 = .ok (.goto 4, 3) := by decide +kernel
theorem dX1_isHopeless_105 : decode mX1_isHopeless.2.1 105 = .ok (.iconst 0, 1) := by decide +kernel
theorem dX1_isHopeless_106 : decode mX1_isHopeless.2.1 106 = .ok (.ireturn, 1) := by decide +kernel
theorem dX1_keep_0 : decode mX1_keep.2.1 0 = .ok (.aload_n 0, 1) := by decide +kernel
theorem dX1_keep_1 : decode mX1_keep.2.1 1 = .ok (.iload_n 1, 1) := by decide +kernel
theorem dX1_keep_2 : decode mX1_keep.2.1 2 = .ok (.putfield 34, 3) := by decide +kernel
theorem dX1_keep_5 : decode mX1_keep.2.1 5 = .ok (.aload_n 0, 1) := by decide +kernel
theorem dX1_keep_6 : decode mX1_keep.2.1 6 = .ok (.iload_n 2, 1) := by decide +kernel
theorem dX1_keep_7 : decode mX1_keep.2.1 7 = .ok (.putfield 37, 3) := by decide +kernel
theorem dX1_keep_10 : decode mX1_keep.2.1 10 = .ok (.iconst 0, 1) := by decide +kernel
theorem dX1_keep_11 : decode mX1_keep.2.1 11 = .ok (.istore_n 3, 1) := by decide +kernel
theorem dX1_keep_12 : decode mX1_keep.2.1 12 = .ok (.iload_n 3, 1) := by decide +kernel
theorem dX1_keep_13 : decode mX1_keep.2.1 13 = .ok (.aload_n 0, 1) := by decide +kernel
theorem dX1_keep_14 : decode mX1_keep.2.1 14 = .ok (.getfield 27, 3) := by decide +kernel
theorem dX1_keep_17 : decode mX1_keep.2.1 17 = .ok (.if_icmp .ge 21, 3) := by decide +kernel
theorem dX1_keep_20 : decode mX1_keep.2.1 20 = .ok (.aload_n 0, 1) := by decide +kernel
theorem dX1_keep_21 : decode mX1_keep.2.1 21 = .ok (.getfield 24, 3) := by decide +kernel
theorem dX1_keep_24 : decode mX1_keep.2.1 24 = .ok (.iload_n 3, 1) := by decide +kernel
theorem dX1_keep_25 : decode mX1_keep.2.1 25 = .ok (.aload_n 0, 1) := by decide +kernel
theorem dX1_keep_26 : decode mX1_keep.2.1 26 = .ok (.getfield 21, 3) := by decide +kernel
theorem dX1_keep_29 : decode mX1_keep.2.1 29 = .ok (.iload_n 3, 1) := by decide +kernel
theorem dX1_keep_30 : decode mX1_keep.2.1 30 = .ok (.iaload, 1) := by decide +kernel
theorem dX1_keep_31 : decode mX1_keep.2.1 31 = .ok (.iastore, 1) := by decide +kernel
theorem dX1_keep_32 : decode mX1_keep.2.1 32 = .ok (.iinc 3 1, 3) := by decide +kernel
theorem dX1_keep_35 : decode mX1_keep.2.1 35 = .ok (.goto (-23), 3) := by decide +kernel
theorem dX1_keep_38 : decode mX1_keep.2.1 38 = .ok (.return_, 1) := by decide +kernel
theorem dX1_look_0 : decode mX1_look.2.1 0 = .ok (.aload_n 0, 1) := by decide +kernel
theorem dX1_look_1 : decode mX1_look.2.1 1 = .ok (.iload_n 1, 1) := by decide +kernel
theorem dX1_look_2 : decode mX1_look.2.1 2 = .ok (.iload_n 2, 1) := by decide +kernel
theorem dX1_look_3 : decode mX1_look.2.1 3 = .ok (.iload_n 3, 1) := by decide +kernel
theorem dX1_look_4 : decode mX1_look.2.1 4 = .ok (.iload 4, 2) := by decide +kernel
theorem dX1_look_6 : decode mX1_look.2.1 6 = .ok (.invokevirtual 44, 3) := by decide +kernel
theorem dX1_look_9 : decode mX1_look.2.1 9 = .ok (.ifCond .eq 4, 3) := by decide +kernel
theorem dX1_look_12 : decode mX1_look.2.1 12 = .ok (.return_, 1) := by decide +kernel
theorem dX1_look_13 : decode mX1_look.2.1 13 = .ok (.iload_n 1, 1) := by decide +kernel
theorem dX1_look_14 : decode mX1_look.2.1 14 = .ok (.aload_n 0, 1) := by decide +kernel
theorem dX1_look_15 : decode mX1_look.2.1 15 = .ok (.getfield 27, 3) := by decide +kernel
theorem dX1_look_18 : decode mX1_look.2.1 18 = .ok (.if_icmp .lt 13, 3) := by decide +kernel
theorem dX1_look_21 : decode mX1_look.2.1 21 = .ok (.aload_n 0, 1) := by decide +kernel
theorem dX1_look_22 : decode mX1_look.2.1 22 = .ok (.iload_n 2, 1) := by decide +kernel
theorem dX1_look_23 : decode mX1_look.2.1 23 = .ok (.iload_n 3, 1) := by decide +kernel
theorem dX1_look_24 : decode mX1_look.2.1 24 = .ok (.iadd, 1) := by decide +kernel
theorem dX1_look_25 : decode mX1_look.2.1 25 = .ok (.iload 4, 2) := by decide +kernel
theorem dX1_look_27 : decode mX1_look.2.1 27 = .ok (.invokevirtual 48, 3) := by decide +kernel
theorem dX1_look_30 : decode mX1_look.2.1 30 = .ok (.return_, 1) := by decide +kernel
theorem dX1_look_31 : decode mX1_look.2.1 31 = .ok (.aload_n 0, 1) := by decide +kernel
theorem dX1_look_32 : decode mX1_look.2.1 32 = .ok (.getfield 21, 3) := by decide +kernel
theorem dX1_look_35 : decode mX1_look.2.1 35 = .ok (.iload_n 1, 1) := by decide +kernel
theorem dX1_look_36 : decode mX1_look.2.1 36 = .ok (.iconst 0, 1) := by decide +kernel
theorem dX1_look_37 : decode mX1_look.2.1 37 = .ok (.iastore, 1) := by decide +kernel
theorem dX1_look_38 : decode mX1_look.2.1 38 = .ok (.aload_n 0, 1) := by decide +kernel
theorem dX1_look_39 : decode mX1_look.2.1 39 = .ok (.iload_n 1, 1) := by decide +kernel
theorem dX1_look_40 : decode mX1_look.2.1 40 = .ok (.iconst 1, 1) := by decide +kernel
theorem dX1_look_41 : decode mX1_look.2.1 41 = .ok (.iadd, 1) := by decide +kernel
theorem dX1_look_42 : decode mX1_look.2.1 42 = .ok (.iload_n 2, 1) := by decide +kernel
theorem dX1_look_43 : decode mX1_look.2.1 43 = .ok (.aload_n 0, 1) := by decide +kernel
theorem dX1_look_44 : decode mX1_look.2.1 44 = .ok (.getfield 15, 3) := by decide +kernel
theorem dX1_look_47 : decode mX1_look.2.1 47 = .ok (.iload_n 1, 1) := by decide +kernel
theorem dX1_look_48 : decode mX1_look.2.1 48 = .ok (.iaload, 1) := by decide +kernel
theorem dX1_look_49 : decode mX1_look.2.1 49 = .ok (.iadd, 1) := by decide +kernel
theorem dX1_look_50 : decode mX1_look.2.1 50 = .ok (.iload_n 3, 1) := by decide +kernel
theorem dX1_look_51 : decode mX1_look.2.1 51 = .ok (.iload 4, 2) := by decide +kernel
theorem dX1_look_53 : decode mX1_look.2.1 53 = .ok (.iconst 1, 1) := by decide +kernel
theorem dX1_look_54 : decode mX1_look.2.1 54 = .ok (.iadd, 1) := by decide +kernel
theorem dX1_look_55 : decode mX1_look.2.1 55 = .ok (.invokestatic 40, 3) := by decide +kernel
theorem dX1_look_58 : decode mX1_look.2.1 58 = .ok (.iload_n 2, 1) := by decide +kernel
theorem dX1_look_59 : decode mX1_look.2.1 59 = .ok (.iload_n 3, 1) := by decide +kernel
theorem dX1_look_60 : decode mX1_look.2.1 60 = .ok (.if_icmp .eq 30, 3) := by decide +kernel
theorem dX1_look_63 : decode mX1_look.2.1 63 = .ok (.aload_n 0, 1) := by decide +kernel
theorem dX1_look_64 : decode mX1_look.2.1 64 = .ok (.getfield 21, 3) := by decide +kernel
theorem dX1_look_67 : decode mX1_look.2.1 67 = .ok (.iload_n 1, 1) := by decide +kernel
theorem dX1_look_68 : decode mX1_look.2.1 68 = .ok (.iconst 1, 1) := by decide +kernel
theorem dX1_look_69 : decode mX1_look.2.1 69 = .ok (.iastore, 1) := by decide +kernel
theorem dX1_look_70 : decode mX1_look.2.1 70 = .ok (.aload_n 0, 1) := by decide +kernel
theorem dX1_look_71 : decode mX1_look.2.1 71 = .ok (.iload_n 1, 1) := by decide +kernel
theorem dX1_look_72 : decode mX1_look.2.1 72 = .ok (.iconst 1, 1) := by decide +kernel
theorem dX1_look_73 : decode mX1_look.2.1 73 = .ok (.iadd, 1) := by decide +kernel
theorem dX1_look_74 : decode mX1_look.2.1 74 = .ok (.iload_n 2, 1) := by decide +kernel
theorem dX1_look_75 : decode mX1_look.2.1 75 = .ok (.iload_n 3, 1) := by decide +kernel
theorem dX1_look_76 : decode mX1_look.2.1 76 = .ok (.aload_n 0, 1) := by decide +kernel
theorem dX1_look_77 : decode mX1_look.2.1 77 = .ok (.getfield 15, 3) := by decide +kernel
theorem dX1_look_80 : decode mX1_look.2.1 80 = .ok (.iload_n 1, 1) := by decide +kernel
theorem dX1_look_81 : decode mX1_look.2.1 81 = .ok (.iaload, 1) := by decide +kernel
theorem dX1_look_82 : decode mX1_look.2.1 82 = .ok (.iadd, 1) := by decide +kernel
theorem dX1_look_83 : decode mX1_look.2.1 83 = .ok (.iload 4, 2) := by decide +kernel
theorem dX1_look_85 : decode mX1_look.2.1 85 = .ok (.iconst 1, 1) := by decide +kernel
theorem dX1_look_86 : decode mX1_look.2.1 86 = .ok (.iadd, 1) := by decide +kernel
theorem dX1_look_87 : decode mX1_look.2.1 87 = .ok (.invokestatic 40, 3) := by decide +kernel
theorem dX1_look_90 : decode mX1_look.2.1 90 = .ok (.aload_n 0, 1) := by decide +kernel
theorem dX1_look_91 : decode mX1_look.2.1 91 = .ok (.getfield 21, 3) := by decide +kernel
theorem dX1_look_94 : decode mX1_look.2.1 94 = .ok (.iload_n 1, 1) := by decide +kernel
theorem dX1_look_95 : decode mX1_look.2.1 95 = .ok (.iconst 2, 1) := by decide +kernel
theorem dX1_look_96 : decode mX1_look.2.1 96 = .ok (.iastore, 1) := by decide +kernel
theorem dX1_look_97 : decode mX1_look.2.1 97 = .ok (.aload_n 0, 1) := by decide +kernel
theorem dX1_look_98 : decode mX1_look.2.1 98 = .ok (.iload_n 1, 1) := by decide +kernel
theorem dX1_look_99 : decode mX1_look.2.1 99 = .ok (.iconst 1, 1) := by decide +kernel
theorem dX1_look_100 : decode mX1_look.2.1 100 = .ok (.iadd, 1) := by decide +kernel
theorem dX1_look_101 : decode mX1_look.2.1 101 = .ok (.iload_n 2, 1) := by decide +kernel
theorem dX1_look_102 : decode mX1_look.2.1 102 = .ok (.iload_n 3, 1) := by decide +kernel
theorem dX1_look_103 : decode mX1_look.2.1 103 = .ok (.iload 4, 2) := by decide +kernel
theorem dX1_look_105 : decode mX1_look.2.1 105 = .ok (.invokestatic 40, 3) := by decide +kernel
theorem dX1_look_108 : decode mX1_look.2.1 108 = .ok (.return_, 1) := by decide +kernel
theorem dX1_sideOf_0 : decode mX1_sideOf.2.1 0 = .ok (.iconst 0, 1) := by decide +kernel
theorem dX1_sideOf_1 : decode mX1_sideOf.2.1 1 = .ok (.istore_n 2, 1) := by decide +kernel
theorem dX1_sideOf_2 : decode mX1_sideOf.2.1 2 = .ok (.iload_n 2, 1) := by decide +kernel
theorem dX1_sideOf_3 : decode mX1_sideOf.2.1 3 = .ok (.aload_n 0, 1) := by decide +kernel
theorem dX1_sideOf_4 : decode mX1_sideOf.2.1 4 = .ok (.getfield 27, 3) := by decide +kernel
theorem dX1_sideOf_7 : decode mX1_sideOf.2.1 7 = .ok (.if_icmp .ge 26, 3) := by decide +kernel
theorem dX1_sideOf_10 : decode mX1_sideOf.2.1 10 = .ok (.aload_n 0, 1) := by decide +kernel
theorem dX1_sideOf_11 : decode mX1_sideOf.2.1 11 = .ok (.getfield 9, 3) := by decide +kernel
theorem dX1_sideOf_14 : decode mX1_sideOf.2.1 14 = .ok (.iload_n 2, 1) := by decide +kernel
theorem dX1_sideOf_15 : decode mX1_sideOf.2.1 15 = .ok (.iaload, 1) := by decide +kernel
theorem dX1_sideOf_16 : decode mX1_sideOf.2.1 16 = .ok (.iload_n 1, 1) := by decide +kernel
theorem dX1_sideOf_17 : decode mX1_sideOf.2.1 17 = .ok (.if_icmp .ne 10, 3) := by decide +kernel
theorem dX1_sideOf_20 : decode mX1_sideOf.2.1 20 = .ok (.aload_n 0, 1) := by decide +kernel
theorem dX1_sideOf_21 : decode mX1_sideOf.2.1 21 = .ok (.getfield 24, 3) := by decide +kernel
theorem dX1_sideOf_24 : decode mX1_sideOf.2.1 24 = .ok (.iload_n 2, 1) := by decide +kernel
theorem dX1_sideOf_25 : decode mX1_sideOf.2.1 25 = .ok (.iaload, 1) := by decide +kernel
theorem dX1_sideOf_26 : decode mX1_sideOf.2.1 26 = .ok (.ireturn, 1) := by decide +kernel
theorem dX1_sideOf_27 : decode mX1_sideOf.2.1 27 = .ok (.iinc 2 1, 3) := by decide +kernel
theorem dX1_sideOf_30 : decode mX1_sideOf.2.1 30 = .ok (.goto (-28), 3) := by decide +kernel
theorem dX1_sideOf_33 : decode mX1_sideOf.2.1 33 = .ok (.iconst (-1), 1) := by decide +kernel
theorem dX1_sideOf_34 : decode mX1_sideOf.2.1 34 = .ok (.ireturn, 1) := by decide +kernel
theorem dX2_add_0 : decode mX2_add.2.1 0 = .ok (.aload_n 0, 1) := by decide +kernel
theorem dX2_add_1 : decode mX2_add.2.1 1 = .ok (.getfield 21, 3) := by decide +kernel
theorem dX2_add_4 : decode mX2_add.2.1 4 = .ok (.sipush 512, 3) := by decide +kernel
theorem dX2_add_7 : decode mX2_add.2.1 7 = .ok (.if_icmp .lt 4, 3) := by decide +kernel
theorem dX2_add_10 : decode mX2_add.2.1 10 = .ok (.return_, 1) := by decide +kernel
theorem dX2_add_11 : decode mX2_add.2.1 11 = .ok (.aload_n 0, 1) := by decide +kernel
theorem dX2_add_12 : decode mX2_add.2.1 12 = .ok (.getfield 9, 3) := by decide +kernel
theorem dX2_add_15 : decode mX2_add.2.1 15 = .ok (.aload_n 0, 1) := by decide +kernel
theorem dX2_add_16 : decode mX2_add.2.1 16 = .ok (.getfield 21, 3) := by decide +kernel
theorem dX2_add_19 : decode mX2_add.2.1 19 = .ok (.iload_n 1, 1) := by decide +kernel
theorem dX2_add_20 : decode mX2_add.2.1 20 = .ok (.iastore, 1) := by decide +kernel
theorem dX2_add_21 : decode mX2_add.2.1 21 = .ok (.aload_n 0, 1) := by decide +kernel
theorem dX2_add_22 : decode mX2_add.2.1 22 = .ok (.getfield 15, 3) := by decide +kernel
theorem dX2_add_25 : decode mX2_add.2.1 25 = .ok (.aload_n 0, 1) := by decide +kernel
theorem dX2_add_26 : decode mX2_add.2.1 26 = .ok (.getfield 21, 3) := by decide +kernel
theorem dX2_add_29 : decode mX2_add.2.1 29 = .ok (.iload_n 2, 1) := by decide +kernel
theorem dX2_add_30 : decode mX2_add.2.1 30 = .ok (.iastore, 1) := by decide +kernel
theorem dX2_add_31 : decode mX2_add.2.1 31 = .ok (.aload_n 0, 1) := by decide +kernel
theorem dX2_add_32 : decode mX2_add.2.1 32 = .ok (.getfield 18, 3) := by decide +kernel
theorem dX2_add_35 : decode mX2_add.2.1 35 = .ok (.aload_n 0, 1) := by decide +kernel
theorem dX2_add_36 : decode mX2_add.2.1 36 = .ok (.getfield 21, 3) := by decide +kernel
theorem dX2_add_39 : decode mX2_add.2.1 39 = .ok (.iload_n 3, 1) := by decide +kernel
theorem dX2_add_40 : decode mX2_add.2.1 40 = .ok (.iastore, 1) := by decide +kernel
theorem dX2_add_41 : decode mX2_add.2.1 41 = .ok (.aload_n 0, 1) := by decide +kernel
theorem dX2_add_42 : decode mX2_add.2.1 42 = .ok (.dup, 1) := by decide +kernel
theorem dX2_add_43 : decode mX2_add.2.1 43 = .ok (.getfield 21, 3) := by decide +kernel
theorem dX2_add_46 : decode mX2_add.2.1 46 = .ok (.iconst 1, 1) := by decide +kernel
theorem dX2_add_47 : decode mX2_add.2.1 47 = .ok (.iadd, 1) := by decide +kernel
theorem dX2_add_48 : decode mX2_add.2.1 48 = .ok (.putfield 21, 3) := by decide +kernel
theorem dX2_add_51 : decode mX2_add.2.1 51 = .ok (.return_, 1) := by decide +kernel
theorem dX2_init_0 : decode mX2_init.2.1 0 = .ok (.aload_n 0, 1) := by decide +kernel
theorem dX2_init_1 : decode mX2_init.2.1 1 = .ok (.invokespecial 3, 3) := by decide +kernel
theorem dX2_init_4 : decode mX2_init.2.1 4 = .ok (.aload_n 0, 1) := by decide +kernel
theorem dX2_init_5 : decode mX2_init.2.1 5 = .ok (.sipush 512, 3) := by decide +kernel
theorem dX2_init_8 : decode mX2_init.2.1 8 = .ok (.newarray .int, 2) := by decide +kernel
theorem dX2_init_10 : decode mX2_init.2.1 10 = .ok (.putfield 9, 3) := by decide +kernel
theorem dX2_init_13 : decode mX2_init.2.1 13 = .ok (.aload_n 0, 1) := by decide +kernel
theorem dX2_init_14 : decode mX2_init.2.1 14 = .ok (.sipush 512, 3) := by decide +kernel
theorem dX2_init_17 : decode mX2_init.2.1 17 = .ok (.newarray .int, 2) := by decide +kernel
theorem dX2_init_19 : decode mX2_init.2.1 19 = .ok (.putfield 15, 3) := by decide +kernel
theorem dX2_init_22 : decode mX2_init.2.1 22 = .ok (.aload_n 0, 1) := by decide +kernel
theorem dX2_init_23 : decode mX2_init.2.1 23 = .ok (.sipush 512, 3) := by decide +kernel
theorem dX2_init_26 : decode mX2_init.2.1 26 = .ok (.newarray .int, 2) := by decide +kernel
theorem dX2_init_28 : decode mX2_init.2.1 28 = .ok (.putfield 18, 3) := by decide +kernel
theorem dX2_init_31 : decode mX2_init.2.1 31 = .ok (.aload_n 0, 1) := by decide +kernel
theorem dX2_init_32 : decode mX2_init.2.1 32 = .ok (.iconst 0, 1) := by decide +kernel
theorem dX2_init_33 : decode mX2_init.2.1 33 = .ok (.putfield 21, 3) := by decide +kernel
theorem dX2_init_36 : decode mX2_init.2.1 36 = .ok (.return_, 1) := by decide +kernel
theorem dX2_placeOf_0 : decode mX2_placeOf.2.1 0 = .ok (.aload_n 0, 1) := by decide +kernel
theorem dX2_placeOf_1 : decode mX2_placeOf.2.1 1 = .ok (.getfield 21, 3) := by decide +kernel
theorem dX2_placeOf_4 : decode mX2_placeOf.2.1 4 = .ok (.iconst 1, 1) := by decide +kernel
theorem dX2_placeOf_5 : decode mX2_placeOf.2.1 5 = .ok (.isub, 1) := by decide +kernel
theorem dX2_placeOf_6 : decode mX2_placeOf.2.1 6 = .ok (.istore_n 3, 1) := by decide +kernel
theorem dX2_placeOf_7 : decode mX2_placeOf.2.1 7 = .ok (.iload_n 3, 1) := by decide +kernel
theorem dX2_placeOf_8 : decode mX2_placeOf.2.1 8 = .ok (.ifCond .lt 43, 3) := by decide +kernel
theorem dX2_placeOf_11 : decode mX2_placeOf.2.1 11 = .ok (.iload_n 3, 1) := by decide +kernel
theorem dX2_placeOf_12 : decode mX2_placeOf.2.1 12 = .ok (.sipush 512, 3) := by decide +kernel
theorem dX2_placeOf_15 : decode mX2_placeOf.2.1 15 = .ok (.if_icmp .ge 30, 3) := by decide +kernel
theorem dX2_placeOf_18 : decode mX2_placeOf.2.1 18 = .ok (.aload_n 0, 1) := by decide +kernel
theorem dX2_placeOf_19 : decode mX2_placeOf.2.1 19 = .ok (.getfield 9, 3) := by decide +kernel
theorem dX2_placeOf_22 : decode mX2_placeOf.2.1 22 = .ok (.iload_n 3, 1) := by decide +kernel
theorem dX2_placeOf_23 : decode mX2_placeOf.2.1 23 = .ok (.iaload, 1) := by decide +kernel
theorem dX2_placeOf_24 : decode mX2_placeOf.2.1 24 = .ok (.iload_n 1, 1) := by decide +kernel
theorem dX2_placeOf_25 : decode mX2_placeOf.2.1 25 = .ok (.if_icmp .ne 20, 3) := by decide +kernel
theorem dX2_placeOf_28 : decode mX2_placeOf.2.1 28 = .ok (.aload_n 0, 1) := by decide +kernel
theorem dX2_placeOf_29 : decode mX2_placeOf.2.1 29 = .ok (.getfield 15, 3) := by decide +kernel
theorem dX2_placeOf_32 : decode mX2_placeOf.2.1 32 = .ok (.iload_n 3, 1) := by decide +kernel
theorem dX2_placeOf_33 : decode mX2_placeOf.2.1 33 = .ok (.iaload, 1) := by decide +kernel
theorem dX2_placeOf_34 : decode mX2_placeOf.2.1 34 = .ok (.iload_n 2, 1) := by decide +kernel
theorem dX2_placeOf_35 : decode mX2_placeOf.2.1 35 = .ok (.if_icmp .gt 10, 3) := by decide +kernel
theorem dX2_placeOf_38 : decode mX2_placeOf.2.1 38 = .ok (.aload_n 0, 1) := by decide +kernel
theorem dX2_placeOf_39 : decode mX2_placeOf.2.1 39 = .ok (.getfield 18, 3) := by decide +kernel
theorem dX2_placeOf_42 : decode mX2_placeOf.2.1 42 = .ok (.iload_n 3, 1) := by decide +kernel
theorem dX2_placeOf_43 : decode mX2_placeOf.2.1 43 = .ok (.iaload, 1) := by decide +kernel
theorem dX2_placeOf_44 : decode mX2_placeOf.2.1 44 = .ok (.ireturn, 1) := by decide +kernel
theorem dX2_placeOf_45 : decode mX2_placeOf.2.1 45 = .ok (.iinc 3 (-1), 3) := by decide +kernel
theorem dX2_placeOf_48 : decode mX2_placeOf.2.1 48 = .ok (.goto (-41), 3) := by decide +kernel
theorem dX2_placeOf_51 : decode mX2_placeOf.2.1 51 = .ok (.iconst (-1), 1) := by decide +kernel
theorem dX2_placeOf_52 : decode mX2_placeOf.2.1 52 = .ok (.ireturn, 1) := by decide +kernel
theorem dX3_bear_0 : decode mX3_bear.2.1 0 = .ok (.iload_n 1, 1) := by decide +kernel
theorem dX3_bear_1 : decode mX3_bear.2.1 1 = .ok (.ifCond .ne 16, 3) := by decide +kernel
theorem dX3_bear_4 : decode mX3_bear.2.1 4 = .ok (.aload_n 0, 1) := by decide +kernel
theorem dX3_bear_5 : decode mX3_bear.2.1 5 = .ok (.dup, 1) := by decide +kernel
theorem dX3_bear_6 : decode mX3_bear.2.1 6 = .ok (.getfield 22, 3) := by decide +kernel
theorem dX3_bear_9 : decode mX3_bear.2.1 9 = .ok (.iload_n 3, 1) := by decide +kernel
theorem dX3_bear_10 : decode mX3_bear.2.1 10 = .ok (.iadd, 1) := by decide +kernel
theorem dX3_bear_11 : decode mX3_bear.2.1 11 = .ok (.putfield 22, 3) := by decide +kernel
theorem dX3_bear_14 : decode mX3_bear.2.1 14 = .ok (.goto 31, 3) := by decide +kernel
theorem dX3_bear_17 : decode mX3_bear.2.1 17 = .ok (.iload_n 1, 1) := by decide +kernel
theorem dX3_bear_18 : decode mX3_bear.2.1 18 = .ok (.iconst 1, 1) := by decide +kernel
theorem dX3_bear_19 : decode mX3_bear.2.1 19 = .ok (.if_icmp .ne 16, 3) := by decide +kernel
theorem dX3_bear_22 : decode mX3_bear.2.1 22 = .ok (.aload_n 0, 1) := by decide +kernel
theorem dX3_bear_23 : decode mX3_bear.2.1 23 = .ok (.dup, 1) := by decide +kernel
theorem dX3_bear_24 : decode mX3_bear.2.1 24 = .ok (.getfield 25, 3) := by decide +kernel
theorem dX3_bear_27 : decode mX3_bear.2.1 27 = .ok (.iload_n 3, 1) := by decide +kernel
theorem dX3_bear_28 : decode mX3_bear.2.1 28 = .ok (.iadd, 1) := by decide +kernel
theorem dX3_bear_29 : decode mX3_bear.2.1 29 = .ok (.putfield 25, 3) := by decide +kernel
theorem dX3_bear_32 : decode mX3_bear.2.1 32 = .ok (.goto 13, 3) := by decide +kernel
theorem dX3_bear_35 : decode mX3_bear.2.1 35 = .ok (.aload_n 0, 1) := by decide +kernel
theorem dX3_bear_36 : decode mX3_bear.2.1 36 = .ok (.iload_n 2, 1) := by decide +kernel
theorem dX3_bear_37 : decode mX3_bear.2.1 37 = .ok (.putfield 28, 3) := by decide +kernel
theorem dX3_bear_40 : decode mX3_bear.2.1 40 = .ok (.aload_n 0, 1) := by decide +kernel
theorem dX3_bear_41 : decode mX3_bear.2.1 41 = .ok (.iload_n 3, 1) := by decide +kernel
theorem dX3_bear_42 : decode mX3_bear.2.1 42 = .ok (.putfield 31, 3) := by decide +kernel
theorem dX3_bear_45 : decode mX3_bear.2.1 45 = .ok (.return_, 1) := by decide +kernel
theorem dX3_init_0 : decode mX3_init.2.1 0 = .ok (.aload_n 0, 1) := by decide +kernel
theorem dX3_init_1 : decode mX3_init.2.1 1 = .ok (.invokespecial 3, 3) := by decide +kernel
theorem dX3_init_4 : decode mX3_init.2.1 4 = .ok (.aload_n 0, 1) := by decide +kernel
theorem dX3_init_5 : decode mX3_init.2.1 5 = .ok (.iconst 0, 1) := by decide +kernel
theorem dX3_init_6 : decode mX3_init.2.1 6 = .ok (.putfield 9, 3) := by decide +kernel
theorem dX3_init_9 : decode mX3_init.2.1 9 = .ok (.aload_n 0, 1) := by decide +kernel
theorem dX3_init_10 : decode mX3_init.2.1 10 = .ok (.iconst 0, 1) := by decide +kernel
theorem dX3_init_11 : decode mX3_init.2.1 11 = .ok (.putfield 15, 3) := by decide +kernel
theorem dX3_init_14 : decode mX3_init.2.1 14 = .ok (.aload_n 0, 1) := by decide +kernel
theorem dX3_init_15 : decode mX3_init.2.1 15 = .ok (.iconst (-1), 1) := by decide +kernel
theorem dX3_init_16 : decode mX3_init.2.1 16 = .ok (.putfield 19, 3) := by decide +kernel
theorem dX3_init_19 : decode mX3_init.2.1 19 = .ok (.aload_n 0, 1) := by decide +kernel
theorem dX3_init_20 : decode mX3_init.2.1 20 = .ok (.iconst 0, 1) := by decide +kernel
theorem dX3_init_21 : decode mX3_init.2.1 21 = .ok (.putfield 22, 3) := by decide +kernel
theorem dX3_init_24 : decode mX3_init.2.1 24 = .ok (.aload_n 0, 1) := by decide +kernel
theorem dX3_init_25 : decode mX3_init.2.1 25 = .ok (.iconst 0, 1) := by decide +kernel
theorem dX3_init_26 : decode mX3_init.2.1 26 = .ok (.putfield 25, 3) := by decide +kernel
theorem dX3_init_29 : decode mX3_init.2.1 29 = .ok (.aload_n 0, 1) := by decide +kernel
theorem dX3_init_30 : decode mX3_init.2.1 30 = .ok (.iconst (-1), 1) := by decide +kernel
theorem dX3_init_31 : decode mX3_init.2.1 31 = .ok (.putfield 28, 3) := by decide +kernel
theorem dX3_init_34 : decode mX3_init.2.1 34 = .ok (.aload_n 0, 1) := by decide +kernel
theorem dX3_init_35 : decode mX3_init.2.1 35 = .ok (.iconst 0, 1) := by decide +kernel
theorem dX3_init_36 : decode mX3_init.2.1 36 = .ok (.putfield 31, 3) := by decide +kernel
theorem dX3_init_39 : decode mX3_init.2.1 39 = .ok (.aload_n 0, 1) := by decide +kernel
theorem dX3_init_40 : decode mX3_init.2.1 40 = .ok (.iload_n 1, 1) := by decide +kernel
theorem dX3_init_41 : decode mX3_init.2.1 41 = .ok (.putfield 34, 3) := by decide +kernel
theorem dX3_init_44 : decode mX3_init.2.1 44 = .ok (.return_, 1) := by decide +kernel
theorem dX3_isFit_0 : decode mX3_isFit.2.1 0 = .ok (.aload_n 0, 1) := by decide +kernel
theorem dX3_isFit_1 : decode mX3_isFit.2.1 1 = .ok (.getfield 22, 3) := by decide +kernel
theorem dX3_isFit_4 : decode mX3_isFit.2.1 4 = .ok (.aload_n 0, 1) := by decide +kernel
theorem dX3_isFit_5 : decode mX3_isFit.2.1 5 = .ok (.getfield 25, 3) := by decide +kernel
theorem dX3_isFit_8 : decode mX3_isFit.2.1 8 = .ok (.isub, 1) := by decide +kernel
theorem dX3_isFit_9 : decode mX3_isFit.2.1 9 = .ok (.invokestatic 37, 3) := by decide +kernel
theorem dX3_isFit_12 : decode mX3_isFit.2.1 12 = .ok (.bipush 10, 2) := by decide +kernel
theorem dX3_isFit_14 : decode mX3_isFit.2.1 14 = .ok (.if_icmp .gt 21, 3) := by decide +kernel
theorem dX3_isFit_17 : decode mX3_isFit.2.1 17 = .ok (.aload_n 0, 1) := by decide +kernel
theorem dX3_isFit_18 : decode mX3_isFit.2.1 18 = .ok (.getfield 15, 3) := by decide +kernel
theorem dX3_isFit_21 : decode mX3_isFit.2.1 21 = .ok (.ifCond .eq 10, 3) := by decide +kernel
theorem dX3_isFit_24 : decode mX3_isFit.2.1 24 = .ok (.aload_n 0, 1) := by decide +kernel
theorem dX3_isFit_25 : decode mX3_isFit.2.1 25 = .ok (.invokevirtual 43, 3) := by decide +kernel
theorem dX3_isFit_28 : decode mX3_isFit.2.1 28 = .ok (.ifCond .ne 7, 3) := by decide +kernel
theorem dX3_isFit_31 : decode mX3_isFit.2.1 31 = .ok (.iconst 1, 1) := by decide +kernel
theorem dX3_isFit_32 : decode mX3_isFit.2.1 32 = .ok (.goto 4, 3) := by decide +kernel
theorem dX3_isFit_35 : decode mX3_isFit.2.1 35 = .ok (.iconst 0, 1) := by decide +kernel
theorem dX3_isFit_36 : decode mX3_isFit.2.1 36 = .ok (.ireturn, 1) := by decide +kernel
theorem dX3_load_0 : decode mX3_load.2.1 0 = .ok (.aload_n 0, 1) := by decide +kernel
theorem dX3_load_1 : decode mX3_load.2.1 1 = .ok (.getfield 22, 3) := by decide +kernel
theorem dX3_load_4 : decode mX3_load.2.1 4 = .ok (.aload_n 0, 1) := by decide +kernel
theorem dX3_load_5 : decode mX3_load.2.1 5 = .ok (.getfield 25, 3) := by decide +kernel
theorem dX3_load_8 : decode mX3_load.2.1 8 = .ok (.iadd, 1) := by decide +kernel
theorem dX3_load_9 : decode mX3_load.2.1 9 = .ok (.aload_n 0, 1) := by decide +kernel
theorem dX3_load_10 : decode mX3_load.2.1 10 = .ok (.getfield 31, 3) := by decide +kernel
theorem dX3_load_13 : decode mX3_load.2.1 13 = .ok (.iadd, 1) := by decide +kernel
theorem dX3_load_14 : decode mX3_load.2.1 14 = .ok (.ireturn, 1) := by decide +kernel
theorem dX3_rest_0 : decode mX3_rest.2.1 0 = .ok (.aload_n 0, 1) := by decide +kernel
theorem dX3_rest_1 : decode mX3_rest.2.1 1 = .ok (.iconst 0, 1) := by decide +kernel
theorem dX3_rest_2 : decode mX3_rest.2.1 2 = .ok (.aload_n 0, 1) := by decide +kernel
theorem dX3_rest_3 : decode mX3_rest.2.1 3 = .ok (.getfield 9, 3) := by decide +kernel
theorem dX3_rest_6 : decode mX3_rest.2.1 6 = .ok (.iconst 5, 1) := by decide +kernel
theorem dX3_rest_7 : decode mX3_rest.2.1 7 = .ok (.isub, 1) := by decide +kernel
theorem dX3_rest_8 : decode mX3_rest.2.1 8 = .ok (.invokestatic 51, 3) := by decide +kernel
theorem dX3_rest_11 : decode mX3_rest.2.1 11 = .ok (.putfield 9, 3) := by decide +kernel
theorem dX3_rest_14 : decode mX3_rest.2.1 14 = .ok (.aload_n 0, 1) := by decide +kernel
theorem dX3_rest_15 : decode mX3_rest.2.1 15 = .ok (.getfield 9, 3) := by decide +kernel
theorem dX3_rest_18 : decode mX3_rest.2.1 18 = .ok (.ifCond .ne 8, 3) := by decide +kernel
theorem dX3_rest_21 : decode mX3_rest.2.1 21 = .ok (.aload_n 0, 1) := by decide +kernel
theorem dX3_rest_22 : decode mX3_rest.2.1 22 = .ok (.iconst 0, 1) := by decide +kernel
theorem dX3_rest_23 : decode mX3_rest.2.1 23 = .ok (.putfield 15, 3) := by decide +kernel
theorem dX3_rest_26 : decode mX3_rest.2.1 26 = .ok (.return_, 1) := by decide +kernel
theorem dX3_unload_0 : decode mX3_unload.2.1 0 = .ok (.iload_n 1, 1) := by decide +kernel
theorem dX3_unload_1 : decode mX3_unload.2.1 1 = .ok (.ifCond .ne 16, 3) := by decide +kernel
theorem dX3_unload_4 : decode mX3_unload.2.1 4 = .ok (.aload_n 0, 1) := by decide +kernel
theorem dX3_unload_5 : decode mX3_unload.2.1 5 = .ok (.dup, 1) := by decide +kernel
theorem dX3_unload_6 : decode mX3_unload.2.1 6 = .ok (.getfield 22, 3) := by decide +kernel
theorem dX3_unload_9 : decode mX3_unload.2.1 9 = .ok (.iload_n 2, 1) := by decide +kernel
theorem dX3_unload_10 : decode mX3_unload.2.1 10 = .ok (.isub, 1) := by decide +kernel
theorem dX3_unload_11 : decode mX3_unload.2.1 11 = .ok (.putfield 22, 3) := by decide +kernel
theorem dX3_unload_14 : decode mX3_unload.2.1 14 = .ok (.goto 31, 3) := by decide +kernel
theorem dX3_unload_17 : decode mX3_unload.2.1 17 = .ok (.iload_n 1, 1) := by decide +kernel
theorem dX3_unload_18 : decode mX3_unload.2.1 18 = .ok (.iconst 1, 1) := by decide +kernel
theorem dX3_unload_19 : decode mX3_unload.2.1 19 = .ok (.if_icmp .ne 16, 3) := by decide +kernel
theorem dX3_unload_22 : decode mX3_unload.2.1 22 = .ok (.aload_n 0, 1) := by decide +kernel
theorem dX3_unload_23 : decode mX3_unload.2.1 23 = .ok (.dup, 1) := by decide +kernel
theorem dX3_unload_24 : decode mX3_unload.2.1 24 = .ok (.getfield 25, 3) := by decide +kernel
theorem dX3_unload_27 : decode mX3_unload.2.1 27 = .ok (.iload_n 2, 1) := by decide +kernel
theorem dX3_unload_28 : decode mX3_unload.2.1 28 = .ok (.isub, 1) := by decide +kernel
theorem dX3_unload_29 : decode mX3_unload.2.1 29 = .ok (.putfield 25, 3) := by decide +kernel
theorem dX3_unload_32 : decode mX3_unload.2.1 32 = .ok (.goto 13, 3) := by decide +kernel
theorem dX3_unload_35 : decode mX3_unload.2.1 35 = .ok (.aload_n 0, 1) := by decide +kernel
theorem dX3_unload_36 : decode mX3_unload.2.1 36 = .ok (.iconst (-1), 1) := by decide +kernel
theorem dX3_unload_37 : decode mX3_unload.2.1 37 = .ok (.putfield 28, 3) := by decide +kernel
theorem dX3_unload_40 : decode mX3_unload.2.1 40 = .ok (.aload_n 0, 1) := by decide +kernel
theorem dX3_unload_41 : decode mX3_unload.2.1 41 = .ok (.iconst 0, 1) := by decide +kernel
theorem dX3_unload_42 : decode mX3_unload.2.1 42 = .ok (.putfield 31, 3) := by decide +kernel
theorem dX3_unload_45 : decode mX3_unload.2.1 45 = .ok (.return_, 1) := by decide +kernel
theorem dX3_walk_0 : decode mX3_walk.2.1 0 = .ok (.aload_n 0, 1) := by decide +kernel
theorem dX3_walk_1 : decode mX3_walk.2.1 1 = .ok (.getfield 15, 3) := by decide +kernel
theorem dX3_walk_4 : decode mX3_walk.2.1 4 = .ok (.ifCond .eq 4, 3) := by decide +kernel
theorem dX3_walk_7 : decode mX3_walk.2.1 7 = .ok (.return_, 1) := by decide +kernel
theorem dX3_walk_8 : decode mX3_walk.2.1 8 = .ok (.aload_n 0, 1) := by decide +kernel
theorem dX3_walk_9 : decode mX3_walk.2.1 9 = .ok (.bipush 100, 2) := by decide +kernel
theorem dX3_walk_11 : decode mX3_walk.2.1 11 = .ok (.aload_n 0, 1) := by decide +kernel
theorem dX3_walk_12 : decode mX3_walk.2.1 12 = .ok (.getfield 9, 3) := by decide +kernel
theorem dX3_walk_15 : decode mX3_walk.2.1 15 = .ok (.iconst 2, 1) := by decide +kernel
theorem dX3_walk_16 : decode mX3_walk.2.1 16 = .ok (.iadd, 1) := by decide +kernel
theorem dX3_walk_17 : decode mX3_walk.2.1 17 = .ok (.aload_n 0, 1) := by decide +kernel
theorem dX3_walk_18 : decode mX3_walk.2.1 18 = .ok (.invokevirtual 43, 3) := by decide +kernel
theorem dX3_walk_21 : decode mX3_walk.2.1 21 = .ok (.iload_n 1, 1) := by decide +kernel
theorem dX3_walk_22 : decode mX3_walk.2.1 22 = .ok (.imul, 1) := by decide +kernel
theorem dX3_walk_23 : decode mX3_walk.2.1 23 = .ok (.bipush 100, 2) := by decide +kernel
theorem dX3_walk_25 : decode mX3_walk.2.1 25 = .ok (.idiv, 1) := by decide +kernel
theorem dX3_walk_26 : decode mX3_walk.2.1 26 = .ok (.iadd, 1) := by decide +kernel
theorem dX3_walk_27 : decode mX3_walk.2.1 27 = .ok (.invokestatic 47, 3) := by decide +kernel
theorem dX3_walk_30 : decode mX3_walk.2.1 30 = .ok (.putfield 9, 3) := by decide +kernel
theorem dX3_walk_33 : decode mX3_walk.2.1 33 = .ok (.aload_n 0, 1) := by decide +kernel
theorem dX3_walk_34 : decode mX3_walk.2.1 34 = .ok (.getfield 9, 3) := by decide +kernel
theorem dX3_walk_37 : decode mX3_walk.2.1 37 = .ok (.bipush 100, 2) := by decide +kernel
theorem dX3_walk_39 : decode mX3_walk.2.1 39 = .ok (.if_icmp .ne 13, 3) := by decide +kernel
theorem dX3_walk_42 : decode mX3_walk.2.1 42 = .ok (.aload_n 0, 1) := by decide +kernel
theorem dX3_walk_43 : decode mX3_walk.2.1 43 = .ok (.iconst 1, 1) := by decide +kernel
theorem dX3_walk_44 : decode mX3_walk.2.1 44 = .ok (.putfield 15, 3) := by decide +kernel
theorem dX3_walk_47 : decode mX3_walk.2.1 47 = .ok (.aload_n 0, 1) := by decide +kernel
theorem dX3_walk_48 : decode mX3_walk.2.1 48 = .ok (.iload_n 2, 1) := by decide +kernel
theorem dX3_walk_49 : decode mX3_walk.2.1 49 = .ok (.putfield 19, 3) := by decide +kernel
theorem dX3_walk_52 : decode mX3_walk.2.1 52 = .ok (.return_, 1) := by decide +kernel
theorem dX4_deliver_0 : decode mX4_deliver.2.1 0 = .ok (.aload_n 0, 1) := by decide +kernel
theorem dX4_deliver_1 : decode mX4_deliver.2.1 1 = .ok (.iconst 2, 1) := by decide +kernel
theorem dX4_deliver_2 : decode mX4_deliver.2.1 2 = .ok (.putfield 9, 3) := by decide +kernel
theorem dX4_deliver_5 : decode mX4_deliver.2.1 5 = .ok (.aload_n 0, 1) := by decide +kernel
theorem dX4_deliver_6 : decode mX4_deliver.2.1 6 = .ok (.iload_n 1, 1) := by decide +kernel
theorem dX4_deliver_7 : decode mX4_deliver.2.1 7 = .ok (.putfield 24, 3) := by decide +kernel
theorem dX4_deliver_10 : decode mX4_deliver.2.1 10 = .ok (.return_, 1) := by decide +kernel
theorem dX4_init_0 : decode mX4_init.2.1 0 = .ok (.aload_n 0, 1) := by decide +kernel
theorem dX4_init_1 : decode mX4_init.2.1 1 = .ok (.invokespecial 3, 3) := by decide +kernel
theorem dX4_init_4 : decode mX4_init.2.1 4 = .ok (.aload_n 0, 1) := by decide +kernel
theorem dX4_init_5 : decode mX4_init.2.1 5 = .ok (.iconst 0, 1) := by decide +kernel
theorem dX4_init_6 : decode mX4_init.2.1 6 = .ok (.putfield 9, 3) := by decide +kernel
theorem dX4_init_9 : decode mX4_init.2.1 9 = .ok (.aload_n 0, 1) := by decide +kernel
theorem dX4_init_10 : decode mX4_init.2.1 10 = .ok (.iconst (-1), 1) := by decide +kernel
theorem dX4_init_11 : decode mX4_init.2.1 11 = .ok (.putfield 15, 3) := by decide +kernel
theorem dX4_init_14 : decode mX4_init.2.1 14 = .ok (.aload_n 0, 1) := by decide +kernel
theorem dX4_init_15 : decode mX4_init.2.1 15 = .ok (.iconst (-1), 1) := by decide +kernel
theorem dX4_init_16 : decode mX4_init.2.1 16 = .ok (.putfield 18, 3) := by decide +kernel
theorem dX4_init_19 : decode mX4_init.2.1 19 = .ok (.aload_n 0, 1) := by decide +kernel
theorem dX4_init_20 : decode mX4_init.2.1 20 = .ok (.iconst 0, 1) := by decide +kernel
theorem dX4_init_21 : decode mX4_init.2.1 21 = .ok (.putfield 21, 3) := by decide +kernel
theorem dX4_init_24 : decode mX4_init.2.1 24 = .ok (.aload_n 0, 1) := by decide +kernel
theorem dX4_init_25 : decode mX4_init.2.1 25 = .ok (.iconst 0, 1) := by decide +kernel
theorem dX4_init_26 : decode mX4_init.2.1 26 = .ok (.putfield 24, 3) := by decide +kernel
theorem dX4_init_29 : decode mX4_init.2.1 29 = .ok (.aload_n 0, 1) := by decide +kernel
theorem dX4_init_30 : decode mX4_init.2.1 30 = .ok (.iload_n 1, 1) := by decide +kernel
theorem dX4_init_31 : decode mX4_init.2.1 31 = .ok (.putfield 27, 3) := by decide +kernel
theorem dX4_init_34 : decode mX4_init.2.1 34 = .ok (.aload_n 0, 1) := by decide +kernel
theorem dX4_init_35 : decode mX4_init.2.1 35 = .ok (.iload_n 2, 1) := by decide +kernel
theorem dX4_init_36 : decode mX4_init.2.1 36 = .ok (.putfield 30, 3) := by decide +kernel
theorem dX4_init_39 : decode mX4_init.2.1 39 = .ok (.aload_n 0, 1) := by decide +kernel
theorem dX4_init_40 : decode mX4_init.2.1 40 = .ok (.iload_n 3, 1) := by decide +kernel
theorem dX4_init_41 : decode mX4_init.2.1 41 = .ok (.putfield 33, 3) := by decide +kernel
theorem dX4_init_44 : decode mX4_init.2.1 44 = .ok (.aload_n 0, 1) := by decide +kernel
theorem dX4_init_45 : decode mX4_init.2.1 45 = .ok (.iload 4, 2) := by decide +kernel
theorem dX4_init_47 : decode mX4_init.2.1 47 = .ok (.putfield 36, 3) := by decide +kernel
theorem dX4_init_50 : decode mX4_init.2.1 50 = .ok (.aload_n 0, 1) := by decide +kernel
theorem dX4_init_51 : decode mX4_init.2.1 51 = .ok (.iload 5, 2) := by decide +kernel
theorem dX4_init_53 : decode mX4_init.2.1 53 = .ok (.putfield 39, 3) := by decide +kernel
theorem dX4_init_56 : decode mX4_init.2.1 56 = .ok (.return_, 1) := by decide +kernel
theorem dX4_liftOnto_0 : decode mX4_liftOnto.2.1 0 = .ok (.aload_n 0, 1) := by decide +kernel
theorem dX4_liftOnto_1 : decode mX4_liftOnto.2.1 1 = .ok (.iconst 1, 1) := by decide +kernel
theorem dX4_liftOnto_2 : decode mX4_liftOnto.2.1 2 = .ok (.putfield 9, 3) := by decide +kernel
theorem dX4_liftOnto_5 : decode mX4_liftOnto.2.1 5 = .ok (.aload_n 0, 1) := by decide +kernel
theorem dX4_liftOnto_6 : decode mX4_liftOnto.2.1 6 = .ok (.iload_n 1, 1) := by decide +kernel
theorem dX4_liftOnto_7 : decode mX4_liftOnto.2.1 7 = .ok (.putfield 33, 3) := by decide +kernel
theorem dX4_liftOnto_10 : decode mX4_liftOnto.2.1 10 = .ok (.aload_n 0, 1) := by decide +kernel
theorem dX4_liftOnto_11 : decode mX4_liftOnto.2.1 11 = .ok (.iload_n 2, 1) := by decide +kernel
theorem dX4_liftOnto_12 : decode mX4_liftOnto.2.1 12 = .ok (.putfield 15, 3) := by decide +kernel
theorem dX4_liftOnto_15 : decode mX4_liftOnto.2.1 15 = .ok (.aload_n 0, 1) := by decide +kernel
theorem dX4_liftOnto_16 : decode mX4_liftOnto.2.1 16 = .ok (.iload_n 3, 1) := by decide +kernel
theorem dX4_liftOnto_17 : decode mX4_liftOnto.2.1 17 = .ok (.putfield 18, 3) := by decide +kernel
theorem dX4_liftOnto_20 : decode mX4_liftOnto.2.1 20 = .ok (.return_, 1) := by decide +kernel
theorem dX4_nextLeg_0 : decode mX4_nextLeg.2.1 0 = .ok (.iload_n 1, 1) := by decide +kernel
theorem dX4_nextLeg_1 : decode mX4_nextLeg.2.1 1 = .ok (.iconst (-1), 1) := by decide +kernel
theorem dX4_nextLeg_2 : decode mX4_nextLeg.2.1 2 = .ok (.if_icmp .eq 11, 3) := by decide +kernel
theorem dX4_nextLeg_5 : decode mX4_nextLeg.2.1 5 = .ok (.iload_n 1, 1) := by decide +kernel
theorem dX4_nextLeg_6 : decode mX4_nextLeg.2.1 6 = .ok (.aload_n 0, 1) := by decide +kernel
theorem dX4_nextLeg_7 : decode mX4_nextLeg.2.1 7 = .ok (.getfield 36, 3) := by decide +kernel
theorem dX4_nextLeg_10 : decode mX4_nextLeg.2.1 10 = .ok (.if_icmp .ne 5, 3) := by decide +kernel
theorem dX4_nextLeg_13 : decode mX4_nextLeg.2.1 13 = .ok (.iconst (-1), 1) := by decide +kernel
theorem dX4_nextLeg_14 : decode mX4_nextLeg.2.1 14 = .ok (.ireturn, 1) := by decide +kernel
theorem dX4_nextLeg_15 : decode mX4_nextLeg.2.1 15 = .ok (.iload_n 1, 1) := by decide +kernel
theorem dX4_nextLeg_16 : decode mX4_nextLeg.2.1 16 = .ok (.aload_n 0, 1) := by decide +kernel
theorem dX4_nextLeg_17 : decode mX4_nextLeg.2.1 17 = .ok (.getfield 36, 3) := by decide +kernel
theorem dX4_nextLeg_20 : decode mX4_nextLeg.2.1 20 = .ok (.if_icmp .ge 7, 3) := by decide +kernel
theorem dX4_nextLeg_23 : decode mX4_nextLeg.2.1 23 = .ok (.iload_n 1, 1) := by decide +kernel
theorem dX4_nextLeg_24 : decode mX4_nextLeg.2.1 24 = .ok (.goto 6, 3) := by decide +kernel
theorem dX4_nextLeg_27 : decode mX4_nextLeg.2.1 27 = .ok (.iload_n 1, 1) := by decide +kernel
theorem dX4_nextLeg_28 : decode mX4_nextLeg.2.1 28 = .ok (.iconst 1, 1) := by decide +kernel
theorem dX4_nextLeg_29 : decode mX4_nextLeg.2.1 29 = .ok (.isub, 1) := by decide +kernel
theorem dX4_nextLeg_30 : decode mX4_nextLeg.2.1 30 = .ok (.ireturn, 1) := by decide +kernel
theorem dX4_putAt_0 : decode mX4_putAt.2.1 0 = .ok (.aload_n 0, 1) := by decide +kernel
theorem dX4_putAt_1 : decode mX4_putAt.2.1 1 = .ok (.iconst 0, 1) := by decide +kernel
theorem dX4_putAt_2 : decode mX4_putAt.2.1 2 = .ok (.putfield 9, 3) := by decide +kernel
theorem dX4_putAt_5 : decode mX4_putAt.2.1 5 = .ok (.aload_n 0, 1) := by decide +kernel
theorem dX4_putAt_6 : decode mX4_putAt.2.1 6 = .ok (.iload_n 1, 1) := by decide +kernel
theorem dX4_putAt_7 : decode mX4_putAt.2.1 7 = .ok (.putfield 33, 3) := by decide +kernel
theorem dX4_putAt_10 : decode mX4_putAt.2.1 10 = .ok (.aload_n 0, 1) := by decide +kernel
theorem dX4_putAt_11 : decode mX4_putAt.2.1 11 = .ok (.iconst (-1), 1) := by decide +kernel
theorem dX4_putAt_12 : decode mX4_putAt.2.1 12 = .ok (.putfield 15, 3) := by decide +kernel
theorem dX4_putAt_15 : decode mX4_putAt.2.1 15 = .ok (.aload_n 0, 1) := by decide +kernel
theorem dX4_putAt_16 : decode mX4_putAt.2.1 16 = .ok (.iconst (-1), 1) := by decide +kernel
theorem dX4_putAt_17 : decode mX4_putAt.2.1 17 = .ok (.putfield 18, 3) := by decide +kernel
theorem dX4_putAt_20 : decode mX4_putAt.2.1 20 = .ok (.return_, 1) := by decide +kernel
theorem dX5_fail_0 : decode mX5_fail.2.1 0 = .ok (.aload_n 0, 1) := by decide +kernel
theorem dX5_fail_1 : decode mX5_fail.2.1 1 = .ok (.iload_n 1, 1) := by decide +kernel
theorem dX5_fail_2 : decode mX5_fail.2.1 2 = .ok (.putfield 21, 3) := by decide +kernel
theorem dX5_fail_5 : decode mX5_fail.2.1 5 = .ok (.aload_n 0, 1) := by decide +kernel
theorem dX5_fail_6 : decode mX5_fail.2.1 6 = .ok (.aload_n 0, 1) := by decide +kernel
theorem dX5_fail_7 : decode mX5_fail.2.1 7 = .ok (.getfield 9, 3) := by decide +kernel
theorem dX5_fail_10 : decode mX5_fail.2.1 10 = .ok (.ifCond .lt 28, 3) := by decide +kernel
theorem dX5_fail_13 : decode mX5_fail.2.1 13 = .ok (.aload_n 0, 1) := by decide +kernel
theorem dX5_fail_14 : decode mX5_fail.2.1 14 = .ok (.getfield 9, 3) := by decide +kernel
theorem dX5_fail_17 : decode mX5_fail.2.1 17 = .ok (.sipush 400, 3) := by decide +kernel
theorem dX5_fail_20 : decode mX5_fail.2.1 20 = .ok (.if_icmp .gt 18, 3) := by decide +kernel
theorem dX5_fail_23 : decode mX5_fail.2.1 23 = .ok (.aload_n 0, 1) := by decide +kernel
theorem dX5_fail_24 : decode mX5_fail.2.1 24 = .ok (.getfield 32, 3) := by decide +kernel
theorem dX5_fail_27 : decode mX5_fail.2.1 27 = .ok (.getfield 70, 3) := by decide +kernel
theorem dX5_fail_30 : decode mX5_fail.2.1 30 = .ok (.aload_n 0, 1) := by decide +kernel
theorem dX5_fail_31 : decode mX5_fail.2.1 31 = .ok (.getfield 9, 3) := by decide +kernel
theorem dX5_fail_34 : decode mX5_fail.2.1 34 = .ok (.iaload, 1) := by decide +kernel
theorem dX5_fail_35 : decode mX5_fail.2.1 35 = .ok (.goto 4, 3) := by decide +kernel
theorem dX5_fail_38 : decode mX5_fail.2.1 38 = .ok (.iconst (-1), 1) := by decide +kernel
theorem dX5_fail_39 : decode mX5_fail.2.1 39 = .ok (.putfield 24, 3) := by decide +kernel
theorem dX5_fail_42 : decode mX5_fail.2.1 42 = .ok (.iconst 0, 1) := by decide +kernel
theorem dX5_fail_43 : decode mX5_fail.2.1 43 = .ok (.ireturn, 1) := by decide +kernel
theorem dX5_init_0 : decode mX5_init.2.1 0 = .ok (.aload_n 0, 1) := by decide +kernel
theorem dX5_init_1 : decode mX5_init.2.1 1 = .ok (.invokespecial 3, 3) := by decide +kernel
theorem dX5_init_4 : decode mX5_init.2.1 4 = .ok (.aload_n 0, 1) := by decide +kernel
theorem dX5_init_5 : decode mX5_init.2.1 5 = .ok (.iconst 0, 1) := by decide +kernel
theorem dX5_init_6 : decode mX5_init.2.1 6 = .ok (.putfield 9, 3) := by decide +kernel
theorem dX5_init_9 : decode mX5_init.2.1 9 = .ok (.aload_n 0, 1) := by decide +kernel
theorem dX5_init_10 : decode mX5_init.2.1 10 = .ok (.iconst 0, 1) := by decide +kernel
theorem dX5_init_11 : decode mX5_init.2.1 11 = .ok (.putfield 15, 3) := by decide +kernel
theorem dX5_init_14 : decode mX5_init.2.1 14 = .ok (.aload_n 0, 1) := by decide +kernel
theorem dX5_init_15 : decode mX5_init.2.1 15 = .ok (.iconst 0, 1) := by decide +kernel
theorem dX5_init_16 : decode mX5_init.2.1 16 = .ok (.putfield 18, 3) := by decide +kernel
theorem dX5_init_19 : decode mX5_init.2.1 19 = .ok (.aload_n 0, 1) := by decide +kernel
theorem dX5_init_20 : decode mX5_init.2.1 20 = .ok (.iconst 0, 1) := by decide +kernel
theorem dX5_init_21 : decode mX5_init.2.1 21 = .ok (.putfield 21, 3) := by decide +kernel
theorem dX5_init_24 : decode mX5_init.2.1 24 = .ok (.aload_n 0, 1) := by decide +kernel
theorem dX5_init_25 : decode mX5_init.2.1 25 = .ok (.iconst (-1), 1) := by decide +kernel
theorem dX5_init_26 : decode mX5_init.2.1 26 = .ok (.putfield 24, 3) := by decide +kernel
theorem dX5_init_29 : decode mX5_init.2.1 29 = .ok (.aload_n 0, 1) := by decide +kernel
theorem dX5_init_30 : decode mX5_init.2.1 30 = .ok (.new 27, 3) := by decide +kernel
theorem dX5_init_33 : decode mX5_init.2.1 33 = .ok (.dup, 1) := by decide +kernel
theorem dX5_init_34 : decode mX5_init.2.1 34 = .ok (.aload_n 1, 1) := by decide +kernel
theorem dX5_init_35 : decode mX5_init.2.1 35 = .ok (.invokespecial 29, 3) := by decide +kernel
theorem dX5_init_38 : decode mX5_init.2.1 38 = .ok (.putfield 32, 3) := by decide +kernel
theorem dX5_init_41 : decode mX5_init.2.1 41 = .ok (.return_, 1) := by decide +kernel
theorem dX5_isTermAhead_0 : decode mX5_isTermAhead.2.1 0 = .ok (.aload_n 0, 1) := by decide +kernel
theorem dX5_isTermAhead_1 : decode mX5_isTermAhead.2.1 1 = .ok (.getfield 15, 3) := by decide +kernel
theorem dX5_isTermAhead_4 : decode mX5_isTermAhead.2.1 4 = .ok (.iconst 3, 1) := by decide +kernel
theorem dX5_isTermAhead_5 : decode mX5_isTermAhead.2.1 5 = .ok (.if_icmp .eq 11, 3) := by decide +kernel
theorem dX5_isTermAhead_8 : decode mX5_isTermAhead.2.1 8 = .ok (.aload_n 0, 1) := by decide +kernel
theorem dX5_isTermAhead_9 : decode mX5_isTermAhead.2.1 9 = .ok (.getfield 15, 3) := by decide +kernel
theorem dX5_isTermAhead_12 : decode mX5_isTermAhead.2.1 12 = .ok (.iconst 4, 1) := by decide +kernel
theorem dX5_isTermAhead_13 : decode mX5_isTermAhead.2.1 13 = .ok (.if_icmp .ne 7, 3) := by decide +kernel
theorem dX5_isTermAhead_16 : decode mX5_isTermAhead.2.1 16 = .ok (.iconst 1, 1) := by decide +kernel
theorem dX5_isTermAhead_17 : decode mX5_isTermAhead.2.1 17 = .ok (.goto 4, 3) := by decide +kernel
theorem dX5_isTermAhead_20 : decode mX5_isTermAhead.2.1 20 = .ok (.iconst 0, 1) := by decide +kernel
theorem dX5_isTermAhead_21 : decode mX5_isTermAhead.2.1 21 = .ok (.ireturn, 1) := by decide +kernel
theorem dX5_moveTo_0 : decode mX5_moveTo.2.1 0 = .ok (.iload_n 1, 1) := by decide +kernel
theorem dX5_moveTo_1 : decode mX5_moveTo.2.1 1 = .ok (.ifCond .lt 52, 3) := by decide +kernel
theorem dX5_moveTo_4 : decode mX5_moveTo.2.1 4 = .ok (.iload_n 1, 1) := by decide +kernel
theorem dX5_moveTo_5 : decode mX5_moveTo.2.1 5 = .ok (.aload_n 0, 1) := by decide +kernel
theorem dX5_moveTo_6 : decode mX5_moveTo.2.1 6 = .ok (.getfield 32, 3) := by decide +kernel
theorem dX5_moveTo_9 : decode mX5_moveTo.2.1 9 = .ok (.getfield 60, 3) := by decide +kernel
theorem dX5_moveTo_12 : decode mX5_moveTo.2.1 12 = .ok (.if_icmp .ge 41, 3) := by decide +kernel
theorem dX5_moveTo_15 : decode mX5_moveTo.2.1 15 = .ok (.iload_n 1, 1) := by decide +kernel
theorem dX5_moveTo_16 : decode mX5_moveTo.2.1 16 = .ok (.sipush 400, 3) := by decide +kernel
theorem dX5_moveTo_19 : decode mX5_moveTo.2.1 19 = .ok (.if_icmp .gt 34, 3) := by decide +kernel
theorem dX5_moveTo_22 : decode mX5_moveTo.2.1 22 = .ok (.aload_n 0, 1) := by decide +kernel
theorem dX5_moveTo_23 : decode mX5_moveTo.2.1 23 = .ok (.iload_n 1, 1) := by decide +kernel
theorem dX5_moveTo_24 : decode mX5_moveTo.2.1 24 = .ok (.putfield 9, 3) := by decide +kernel
theorem dX5_moveTo_27 : decode mX5_moveTo.2.1 27 = .ok (.aload_n 0, 1) := by decide +kernel
theorem dX5_moveTo_28 : decode mX5_moveTo.2.1 28 = .ok (.aload_n 0, 1) := by decide +kernel
theorem dX5_moveTo_29 : decode mX5_moveTo.2.1 29 = .ok (.getfield 32, 3) := by decide +kernel
theorem dX5_moveTo_32 : decode mX5_moveTo.2.1 32 = .ok (.getfield 63, 3) := by decide +kernel
theorem dX5_moveTo_35 : decode mX5_moveTo.2.1 35 = .ok (.iload_n 1, 1) := by decide +kernel
theorem dX5_moveTo_36 : decode mX5_moveTo.2.1 36 = .ok (.iaload, 1) := by decide +kernel
theorem dX5_moveTo_37 : decode mX5_moveTo.2.1 37 = .ok (.putfield 15, 3) := by decide +kernel
theorem dX5_moveTo_40 : decode mX5_moveTo.2.1 40 = .ok (.aload_n 0, 1) := by decide +kernel
theorem dX5_moveTo_41 : decode mX5_moveTo.2.1 41 = .ok (.aload_n 0, 1) := by decide +kernel
theorem dX5_moveTo_42 : decode mX5_moveTo.2.1 42 = .ok (.getfield 32, 3) := by decide +kernel
theorem dX5_moveTo_45 : decode mX5_moveTo.2.1 45 = .ok (.getfield 67, 3) := by decide +kernel
theorem dX5_moveTo_48 : decode mX5_moveTo.2.1 48 = .ok (.iload_n 1, 1) := by decide +kernel
theorem dX5_moveTo_49 : decode mX5_moveTo.2.1 49 = .ok (.iaload, 1) := by decide +kernel
theorem dX5_moveTo_50 : decode mX5_moveTo.2.1 50 = .ok (.putfield 18, 3) := by decide +kernel
theorem dX5_moveTo_53 : decode mX5_moveTo.2.1 53 = .ok (.return_, 1) := by decide +kernel
theorem dX5_readAmount_0 : decode mX5_readAmount.2.1 0 = .ok (.aload_n 0, 1) := by decide +kernel
theorem dX5_readAmount_1 : decode mX5_readAmount.2.1 1 = .ok (.getfield 15, 3) := by decide +kernel
theorem dX5_readAmount_4 : decode mX5_readAmount.2.1 4 = .ok (.bipush 9, 2) := by decide +kernel
theorem dX5_readAmount_6 : decode mX5_readAmount.2.1 6 = .ok (.if_icmp .ne 7, 3) := by decide +kernel
theorem dX5_readAmount_9 : decode mX5_readAmount.2.1 9 = .ok (.iconst 1, 1) := by decide +kernel
theorem dX5_readAmount_10 : decode mX5_readAmount.2.1 10 = .ok (.goto 4, 3) := by decide +kernel
theorem dX5_readAmount_13 : decode mX5_readAmount.2.1 13 = .ok (.iconst 0, 1) := by decide +kernel
theorem dX5_readAmount_14 : decode mX5_readAmount.2.1 14 = .ok (.istore_n 2, 1) := by decide +kernel
theorem dX5_readAmount_15 : decode mX5_readAmount.2.1 15 = .ok (.iload_n 2, 1) := by decide +kernel
theorem dX5_readAmount_16 : decode mX5_readAmount.2.1 16 = .ok (.ifCond .eq 13, 3) := by decide +kernel
theorem dX5_readAmount_19 : decode mX5_readAmount.2.1 19 = .ok (.aload_n 0, 1) := by decide +kernel
theorem dX5_readAmount_20 : decode mX5_readAmount.2.1 20 = .ok (.aload_n 0, 1) := by decide +kernel
theorem dX5_readAmount_21 : decode mX5_readAmount.2.1 21 = .ok (.getfield 9, 3) := by decide +kernel
theorem dX5_readAmount_24 : decode mX5_readAmount.2.1 24 = .ok (.iconst 1, 1) := by decide +kernel
theorem dX5_readAmount_25 : decode mX5_readAmount.2.1 25 = .ok (.iadd, 1) := by decide +kernel
theorem dX5_readAmount_26 : decode mX5_readAmount.2.1 26 = .ok (.invokevirtual 44, 3) := by decide +kernel
theorem dX5_readAmount_29 : decode mX5_readAmount.2.1 29 = .ok (.aload_n 1, 1) := by decide +kernel
theorem dX5_readAmount_30 : decode mX5_readAmount.2.1 30 = .ok (.iload_n 2, 1) := by decide +kernel
theorem dX5_readAmount_31 : decode mX5_readAmount.2.1 31 = .ok (.ifCond .eq 11, 3) := by decide +kernel
theorem dX5_readAmount_34 : decode mX5_readAmount.2.1 34 = .ok (.aload_n 0, 1) := by decide +kernel
theorem dX5_readAmount_35 : decode mX5_readAmount.2.1 35 = .ok (.getfield 18, 3) := by decide +kernel
theorem dX5_readAmount_38 : decode mX5_readAmount.2.1 38 = .ok (.ineg, 1) := by decide +kernel
theorem dX5_readAmount_39 : decode mX5_readAmount.2.1 39 = .ok (.goto 7, 3) := by decide +kernel
theorem dX5_readAmount_42 : decode mX5_readAmount.2.1 42 = .ok (.aload_n 0, 1) := by decide +kernel
theorem dX5_readAmount_43 : decode mX5_readAmount.2.1 43 = .ok (.getfield 18, 3) := by decide +kernel
theorem dX5_readAmount_46 : decode mX5_readAmount.2.1 46 = .ok (.invokevirtual 89, 3) := by decide +kernel
theorem dX5_readAmount_49 : decode mX5_readAmount.2.1 49 = .ok (.aload_n 0, 1) := by decide +kernel
theorem dX5_readAmount_50 : decode mX5_readAmount.2.1 50 = .ok (.iconst 2, 1) := by decide +kernel
theorem dX5_readAmount_51 : decode mX5_readAmount.2.1 51 = .ok (.invokevirtual 76, 3) := by decide +kernel
theorem dX5_readAmount_54 : decode mX5_readAmount.2.1 54 = .ok (.ifCond .eq 16, 3) := by decide +kernel
theorem dX5_readAmount_57 : decode mX5_readAmount.2.1 57 = .ok (.aload_n 0, 1) := by decide +kernel
theorem dX5_readAmount_58 : decode mX5_readAmount.2.1 58 = .ok (.bipush 8, 2) := by decide +kernel
theorem dX5_readAmount_60 : decode mX5_readAmount.2.1 60 = .ok (.invokevirtual 76, 3) := by decide +kernel
theorem dX5_readAmount_63 : decode mX5_readAmount.2.1 63 = .ok (.ifCond .eq 7, 3) := by decide +kernel
theorem dX5_readAmount_66 : decode mX5_readAmount.2.1 66 = .ok (.iconst 1, 1) := by decide +kernel
theorem dX5_readAmount_67 : decode mX5_readAmount.2.1 67 = .ok (.goto 4, 3) := by decide +kernel
theorem dX5_readAmount_70 : decode mX5_readAmount.2.1 70 = .ok (.iconst 0, 1) := by decide +kernel
theorem dX5_readAmount_71 : decode mX5_readAmount.2.1 71 = .ok (.ireturn, 1) := by decide +kernel
theorem dX5_readInto_0 : decode mX5_readInto.2.1 0 = .ok (.aload_n 0, 1) := by decide +kernel
theorem dX5_readInto_1 : decode mX5_readInto.2.1 1 = .ok (.iconst 0, 1) := by decide +kernel
theorem dX5_readInto_2 : decode mX5_readInto.2.1 2 = .ok (.putfield 21, 3) := by decide +kernel
theorem dX5_readInto_5 : decode mX5_readInto.2.1 5 = .ok (.aload_n 0, 1) := by decide +kernel
theorem dX5_readInto_6 : decode mX5_readInto.2.1 6 = .ok (.iconst (-1), 1) := by decide +kernel
theorem dX5_readInto_7 : decode mX5_readInto.2.1 7 = .ok (.putfield 24, 3) := by decide +kernel
theorem dX5_readInto_10 : decode mX5_readInto.2.1 10 = .ok (.aload_n 1, 1) := by decide +kernel
theorem dX5_readInto_11 : decode mX5_readInto.2.1 11 = .ok (.invokevirtual 36, 3) := by decide +kernel
theorem dX5_readInto_14 : decode mX5_readInto.2.1 14 = .ok (.aload_n 0, 1) := by decide +kernel
theorem dX5_readInto_15 : decode mX5_readInto.2.1 15 = .ok (.getfield 32, 3) := by decide +kernel
theorem dX5_readInto_18 : decode mX5_readInto.2.1 18 = .ok (.invokevirtual 41, 3) := by decide +kernel
theorem dX5_readInto_21 : decode mX5_readInto.2.1 21 = .ok (.aload_n 0, 1) := by decide +kernel
theorem dX5_readInto_22 : decode mX5_readInto.2.1 22 = .ok (.iconst 0, 1) := by decide +kernel
theorem dX5_readInto_23 : decode mX5_readInto.2.1 23 = .ok (.invokevirtual 44, 3) := by decide +kernel
theorem dX5_readInto_26 : decode mX5_readInto.2.1 26 = .ok (.iconst 1, 1) := by decide +kernel
theorem dX5_readInto_27 : decode mX5_readInto.2.1 27 = .ok (.istore_n 2, 1) := by decide +kernel
theorem dX5_readInto_28 : decode mX5_readInto.2.1 28 = .ok (.iconst 0, 1) := by decide +kernel
theorem dX5_readInto_29 : decode mX5_readInto.2.1 29 = .ok (.istore_n 3, 1) := by decide +kernel
theorem dX5_readInto_30 : decode mX5_readInto.2.1 30 = .ok (.iload_n 2, 1) := by decide +kernel
theorem dX5_readInto_31 : decode mX5_readInto.2.1 31 = .ok (.ifCond .eq 68, 3) := by decide +kernel
theorem dX5_readInto_34 : decode mX5_readInto.2.1 34 = .ok (.aload_n 0, 1) := by decide +kernel
theorem dX5_readInto_35 : decode mX5_readInto.2.1 35 = .ok (.getfield 15, 3) := by decide +kernel
theorem dX5_readInto_38 : decode mX5_readInto.2.1 38 = .ok (.ifCond .eq 61, 3) := by decide +kernel
theorem dX5_readInto_41 : decode mX5_readInto.2.1 41 = .ok (.iload_n 3, 1) := by decide +kernel
theorem dX5_readInto_42 : decode mX5_readInto.2.1 42 = .ok (.bipush 20, 2) := by decide +kernel
theorem dX5_readInto_44 : decode mX5_readInto.2.1 44 = .ok (.if_icmp .gt 55, 3) := by decide +kernel
theorem dX5_readInto_47 : decode mX5_readInto.2.1 47 = .ok (.aload_n 0, 1) := by decide +kernel
theorem dX5_readInto_48 : decode mX5_readInto.2.1 48 = .ok (.getfield 15, 3) := by decide +kernel
theorem dX5_readInto_51 : decode mX5_readInto.2.1 51 = .ok (.bipush 7, 2) := by decide +kernel
theorem dX5_readInto_53 : decode mX5_readInto.2.1 53 = .ok (.if_icmp .eq 19, 3) := by decide +kernel
theorem dX5_readInto_56 : decode mX5_readInto.2.1 56 = .ok (.aload_n 0, 1) := by decide +kernel
theorem dX5_readInto_57 : decode mX5_readInto.2.1 57 = .ok (.invokevirtual 48, 3) := by decide +kernel
theorem dX5_readInto_60 : decode mX5_readInto.2.1 60 = .ok (.ifCond .ne 12, 3) := by decide +kernel
theorem dX5_readInto_63 : decode mX5_readInto.2.1 63 = .ok (.aload_n 0, 1) := by decide +kernel
theorem dX5_readInto_64 : decode mX5_readInto.2.1 64 = .ok (.iconst 1, 1) := by decide +kernel
theorem dX5_readInto_65 : decode mX5_readInto.2.1 65 = .ok (.invokevirtual 52, 3) := by decide +kernel
theorem dX5_readInto_68 : decode mX5_readInto.2.1 68 = .ok (.istore_n 2, 1) := by decide +kernel
theorem dX5_readInto_69 : decode mX5_readInto.2.1 69 = .ok (.goto 24, 3) := by decide +kernel
theorem dX5_readInto_72 : decode mX5_readInto.2.1 72 = .ok (.iload_n 3, 1) := by decide +kernel
theorem dX5_readInto_73 : decode mX5_readInto.2.1 73 = .ok (.bipush 20, 2) := by decide +kernel
theorem dX5_readInto_75 : decode mX5_readInto.2.1 75 = .ok (.if_icmp .ne 12, 3) := by decide +kernel
theorem dX5_readInto_78 : decode mX5_readInto.2.1 78 = .ok (.aload_n 0, 1) := by decide +kernel
theorem dX5_readInto_79 : decode mX5_readInto.2.1 79 = .ok (.iconst 2, 1) := by decide +kernel
theorem dX5_readInto_80 : decode mX5_readInto.2.1 80 = .ok (.invokevirtual 52, 3) := by decide +kernel
theorem dX5_readInto_83 : decode mX5_readInto.2.1 83 = .ok (.istore_n 2, 1) := by decide +kernel
theorem dX5_readInto_84 : decode mX5_readInto.2.1 84 = .ok (.goto 9, 3) := by decide +kernel
theorem dX5_readInto_87 : decode mX5_readInto.2.1 87 = .ok (.aload_n 0, 1) := by decide +kernel
theorem dX5_readInto_88 : decode mX5_readInto.2.1 88 = .ok (.aload_n 1, 1) := by decide +kernel
theorem dX5_readInto_89 : decode mX5_readInto.2.1 89 = .ok (.invokevirtual 56, 3) := by decide +kernel
theorem dX5_readInto_92 : decode mX5_readInto.2.1 92 = .ok (.istore_n 2, 1) := by decide +kernel
theorem dX5_readInto_93 : decode mX5_readInto.2.1 93 = .ok (.iinc 3 1, 3) := by decide +kernel
theorem dX5_readInto_96 : decode mX5_readInto.2.1 96 = .ok (.goto (-66), 3) := by decide +kernel
theorem dX5_readInto_99 : decode mX5_readInto.2.1 99 = .ok (.aload_n 0, 1) := by decide +kernel
theorem dX5_readInto_100 : decode mX5_readInto.2.1 100 = .ok (.getfield 21, 3) := by decide +kernel
theorem dX5_readInto_103 : decode mX5_readInto.2.1 103 = .ok (.ireturn, 1) := by decide +kernel
theorem dX5_readRule_0 : decode mX5_readRule.2.1 0 = .ok (.aload_n 0, 1) := by decide +kernel
theorem dX5_readRule_1 : decode mX5_readRule.2.1 1 = .ok (.getfield 15, 3) := by decide +kernel
theorem dX5_readRule_4 : decode mX5_readRule.2.1 4 = .ok (.bipush 7, 2) := by decide +kernel
theorem dX5_readRule_6 : decode mX5_readRule.2.1 6 = .ok (.if_icmp .eq 13, 3) := by decide +kernel
theorem dX5_readRule_9 : decode mX5_readRule.2.1 9 = .ok (.aload_n 0, 1) := by decide +kernel
theorem dX5_readRule_10 : decode mX5_readRule.2.1 10 = .ok (.aload_n 1, 1) := by decide +kernel
theorem dX5_readRule_11 : decode mX5_readRule.2.1 11 = .ok (.invokevirtual 73, 3) := by decide +kernel
theorem dX5_readRule_14 : decode mX5_readRule.2.1 14 = .ok (.ifCond .ne 5, 3) := by decide +kernel
theorem dX5_readRule_17 : decode mX5_readRule.2.1 17 = .ok (.iconst 0, 1) := by decide +kernel
theorem dX5_readRule_18 : decode mX5_readRule.2.1 18 = .ok (.ireturn, 1) := by decide +kernel
theorem dX5_readRule_19 : decode mX5_readRule.2.1 19 = .ok (.aload_n 0, 1) := by decide +kernel
theorem dX5_readRule_20 : decode mX5_readRule.2.1 20 = .ok (.bipush 7, 2) := by decide +kernel
theorem dX5_readRule_22 : decode mX5_readRule.2.1 22 = .ok (.invokevirtual 76, 3) := by decide +kernel
theorem dX5_readRule_25 : decode mX5_readRule.2.1 25 = .ok (.ifCond .eq 15, 3) := by decide +kernel
theorem dX5_readRule_28 : decode mX5_readRule.2.1 28 = .ok (.aload_n 0, 1) := by decide +kernel
theorem dX5_readRule_29 : decode mX5_readRule.2.1 29 = .ok (.aload_n 1, 1) := by decide +kernel
theorem dX5_readRule_30 : decode mX5_readRule.2.1 30 = .ok (.invokevirtual 79, 3) := by decide +kernel
theorem dX5_readRule_33 : decode mX5_readRule.2.1 33 = .ok (.ifCond .eq 7, 3) := by decide +kernel
theorem dX5_readRule_36 : decode mX5_readRule.2.1 36 = .ok (.iconst 1, 1) := by decide +kernel
theorem dX5_readRule_37 : decode mX5_readRule.2.1 37 = .ok (.goto 4, 3) := by decide +kernel
theorem dX5_readRule_40 : decode mX5_readRule.2.1 40 = .ok (.iconst 0, 1) := by decide +kernel
theorem dX5_readRule_41 : decode mX5_readRule.2.1 41 = .ok (.ireturn, 1) := by decide +kernel
theorem dX5_readTerm_0 : decode mX5_readTerm.2.1 0 = .ok (.aload_n 0, 1) := by decide +kernel
theorem dX5_readTerm_1 : decode mX5_readTerm.2.1 1 = .ok (.getfield 18, 3) := by decide +kernel
theorem dX5_readTerm_4 : decode mX5_readTerm.2.1 4 = .ok (.istore_n 2, 1) := by decide +kernel
theorem dX5_readTerm_5 : decode mX5_readTerm.2.1 5 = .ok (.aload_n 0, 1) := by decide +kernel
theorem dX5_readTerm_6 : decode mX5_readTerm.2.1 6 = .ok (.getfield 15, 3) := by decide +kernel
theorem dX5_readTerm_9 : decode mX5_readTerm.2.1 9 = .ok (.iconst 3, 1) := by decide +kernel
theorem dX5_readTerm_10 : decode mX5_readTerm.2.1 10 = .ok (.if_icmp .ne 17, 3) := by decide +kernel
theorem dX5_readTerm_13 : decode mX5_readTerm.2.1 13 = .ok (.aload_n 1, 1) := by decide +kernel
theorem dX5_readTerm_14 : decode mX5_readTerm.2.1 14 = .ok (.iconst 3, 1) := by decide +kernel
theorem dX5_readTerm_15 : decode mX5_readTerm.2.1 15 = .ok (.bipush 61, 2) := by decide +kernel
theorem dX5_readTerm_17 : decode mX5_readTerm.2.1 17 = .ok (.iload_n 2, 1) := by decide +kernel
theorem dX5_readTerm_18 : decode mX5_readTerm.2.1 18 = .ok (.invokevirtual 85, 3) := by decide +kernel
theorem dX5_readTerm_21 : decode mX5_readTerm.2.1 21 = .ok (.aload_n 0, 1) := by decide +kernel
theorem dX5_readTerm_22 : decode mX5_readTerm.2.1 22 = .ok (.iconst 3, 1) := by decide +kernel
theorem dX5_readTerm_23 : decode mX5_readTerm.2.1 23 = .ok (.invokevirtual 76, 3) := by decide +kernel
theorem dX5_readTerm_26 : decode mX5_readTerm.2.1 26 = .ok (.ireturn, 1) := by decide +kernel
theorem dX5_readTerm_27 : decode mX5_readTerm.2.1 27 = .ok (.aload_n 0, 1) := by decide +kernel
theorem dX5_readTerm_28 : decode mX5_readTerm.2.1 28 = .ok (.iconst 4, 1) := by decide +kernel
theorem dX5_readTerm_29 : decode mX5_readTerm.2.1 29 = .ok (.invokevirtual 76, 3) := by decide +kernel
theorem dX5_readTerm_32 : decode mX5_readTerm.2.1 32 = .ok (.ifCond .ne 5, 3) := by decide +kernel
theorem dX5_readTerm_35 : decode mX5_readTerm.2.1 35 = .ok (.iconst 0, 1) := by decide +kernel
theorem dX5_readTerm_36 : decode mX5_readTerm.2.1 36 = .ok (.ireturn, 1) := by decide +kernel
theorem dX5_readTerm_37 : decode mX5_readTerm.2.1 37 = .ok (.aload_n 0, 1) := by decide +kernel
theorem dX5_readTerm_38 : decode mX5_readTerm.2.1 38 = .ok (.getfield 18, 3) := by decide +kernel
theorem dX5_readTerm_41 : decode mX5_readTerm.2.1 41 = .ok (.istore_n 3, 1) := by decide +kernel
theorem dX5_readTerm_42 : decode mX5_readTerm.2.1 42 = .ok (.aload_n 0, 1) := by decide +kernel
theorem dX5_readTerm_43 : decode mX5_readTerm.2.1 43 = .ok (.bipush 6, 2) := by decide +kernel
theorem dX5_readTerm_45 : decode mX5_readTerm.2.1 45 = .ok (.invokevirtual 76, 3) := by decide +kernel
theorem dX5_readTerm_48 : decode mX5_readTerm.2.1 48 = .ok (.ifCond .ne 5, 3) := by decide +kernel
theorem dX5_readTerm_51 : decode mX5_readTerm.2.1 51 = .ok (.iconst 0, 1) := by decide +kernel
theorem dX5_readTerm_52 : decode mX5_readTerm.2.1 52 = .ok (.ireturn, 1) := by decide +kernel
theorem dX5_readTerm_53 : decode mX5_readTerm.2.1 53 = .ok (.aload_n 1, 1) := by decide +kernel
theorem dX5_readTerm_54 : decode mX5_readTerm.2.1 54 = .ok (.iload_n 2, 1) := by decide +kernel
theorem dX5_readTerm_55 : decode mX5_readTerm.2.1 55 = .ok (.iload_n 3, 1) := by decide +kernel
theorem dX5_readTerm_56 : decode mX5_readTerm.2.1 56 = .ok (.aload_n 0, 1) := by decide +kernel
theorem dX5_readTerm_57 : decode mX5_readTerm.2.1 57 = .ok (.getfield 18, 3) := by decide +kernel
theorem dX5_readTerm_60 : decode mX5_readTerm.2.1 60 = .ok (.invokevirtual 85, 3) := by decide +kernel
theorem dX5_readTerm_63 : decode mX5_readTerm.2.1 63 = .ok (.aload_n 0, 1) := by decide +kernel
theorem dX5_readTerm_64 : decode mX5_readTerm.2.1 64 = .ok (.iconst 2, 1) := by decide +kernel
theorem dX5_readTerm_65 : decode mX5_readTerm.2.1 65 = .ok (.invokevirtual 76, 3) := by decide +kernel
theorem dX5_readTerm_68 : decode mX5_readTerm.2.1 68 = .ok (.ireturn, 1) := by decide +kernel
theorem dX5_readTerms_0 : decode mX5_readTerms.2.1 0 = .ok (.iconst 0, 1) := by decide +kernel
theorem dX5_readTerms_1 : decode mX5_readTerms.2.1 1 = .ok (.istore_n 2, 1) := by decide +kernel
theorem dX5_readTerms_2 : decode mX5_readTerms.2.1 2 = .ok (.iload_n 2, 1) := by decide +kernel
theorem dX5_readTerms_3 : decode mX5_readTerms.2.1 3 = .ok (.iconst 4, 1) := by decide +kernel
theorem dX5_readTerms_4 : decode mX5_readTerms.2.1 4 = .ok (.if_icmp .ge 39, 3) := by decide +kernel
theorem dX5_readTerms_7 : decode mX5_readTerms.2.1 7 = .ok (.aload_n 0, 1) := by decide +kernel
theorem dX5_readTerms_8 : decode mX5_readTerms.2.1 8 = .ok (.aload_n 1, 1) := by decide +kernel
theorem dX5_readTerms_9 : decode mX5_readTerms.2.1 9 = .ok (.invokevirtual 82, 3) := by decide +kernel
theorem dX5_readTerms_12 : decode mX5_readTerms.2.1 12 = .ok (.ifCond .ne 5, 3) := by decide +kernel
theorem dX5_readTerms_15 : decode mX5_readTerms.2.1 15 = .ok (.iconst 0, 1) := by decide +kernel
theorem dX5_readTerms_16 : decode mX5_readTerms.2.1 16 = .ok (.ireturn, 1) := by decide +kernel
theorem dX5_readTerms_17 : decode mX5_readTerms.2.1 17 = .ok (.aload_n 0, 1) := by decide +kernel
theorem dX5_readTerms_18 : decode mX5_readTerms.2.1 18 = .ok (.getfield 15, 3) := by decide +kernel
theorem dX5_readTerms_21 : decode mX5_readTerms.2.1 21 = .ok (.iconst 5, 1) := by decide +kernel
theorem dX5_readTerms_22 : decode mX5_readTerms.2.1 22 = .ok (.if_icmp .eq 5, 3) := by decide +kernel
theorem dX5_readTerms_25 : decode mX5_readTerms.2.1 25 = .ok (.iconst 1, 1) := by decide +kernel
theorem dX5_readTerms_26 : decode mX5_readTerms.2.1 26 = .ok (.ireturn, 1) := by decide +kernel
theorem dX5_readTerms_27 : decode mX5_readTerms.2.1 27 = .ok (.aload_n 0, 1) := by decide +kernel
theorem dX5_readTerms_28 : decode mX5_readTerms.2.1 28 = .ok (.aload_n 0, 1) := by decide +kernel
theorem dX5_readTerms_29 : decode mX5_readTerms.2.1 29 = .ok (.getfield 9, 3) := by decide +kernel
theorem dX5_readTerms_32 : decode mX5_readTerms.2.1 32 = .ok (.iconst 1, 1) := by decide +kernel
theorem dX5_readTerms_33 : decode mX5_readTerms.2.1 33 = .ok (.iadd, 1) := by decide +kernel
theorem dX5_readTerms_34 : decode mX5_readTerms.2.1 34 = .ok (.invokevirtual 44, 3) := by decide +kernel
theorem dX5_readTerms_37 : decode mX5_readTerms.2.1 37 = .ok (.iinc 2 1, 3) := by decide +kernel
theorem dX5_readTerms_40 : decode mX5_readTerms.2.1 40 = .ok (.goto (-38), 3) := by decide +kernel
theorem dX5_readTerms_43 : decode mX5_readTerms.2.1 43 = .ok (.aload_n 0, 1) := by decide +kernel
theorem dX5_readTerms_44 : decode mX5_readTerms.2.1 44 = .ok (.aload_n 0, 1) := by decide +kernel
theorem dX5_readTerms_45 : decode mX5_readTerms.2.1 45 = .ok (.invokevirtual 48, 3) := by decide +kernel
theorem dX5_readTerms_48 : decode mX5_readTerms.2.1 48 = .ok (.ifCond .eq 7, 3) := by decide +kernel
theorem dX5_readTerms_51 : decode mX5_readTerms.2.1 51 = .ok (.iconst 2, 1) := by decide +kernel
theorem dX5_readTerms_52 : decode mX5_readTerms.2.1 52 = .ok (.goto 4, 3) := by decide +kernel
theorem dX5_readTerms_55 : decode mX5_readTerms.2.1 55 = .ok (.iconst 1, 1) := by decide +kernel
theorem dX5_readTerms_56 : decode mX5_readTerms.2.1 56 = .ok (.invokevirtual 52, 3) := by decide +kernel
theorem dX5_readTerms_59 : decode mX5_readTerms.2.1 59 = .ok (.ireturn, 1) := by decide +kernel
theorem dX5_take_0 : decode mX5_take.2.1 0 = .ok (.aload_n 0, 1) := by decide +kernel
theorem dX5_take_1 : decode mX5_take.2.1 1 = .ok (.getfield 15, 3) := by decide +kernel
theorem dX5_take_4 : decode mX5_take.2.1 4 = .ok (.iload_n 1, 1) := by decide +kernel
theorem dX5_take_5 : decode mX5_take.2.1 5 = .ok (.if_icmp .eq 9, 3) := by decide +kernel
theorem dX5_take_8 : decode mX5_take.2.1 8 = .ok (.aload_n 0, 1) := by decide +kernel
theorem dX5_take_9 : decode mX5_take.2.1 9 = .ok (.iconst 1, 1) := by decide +kernel
theorem dX5_take_10 : decode mX5_take.2.1 10 = .ok (.invokevirtual 52, 3) := by decide +kernel
theorem dX5_take_13 : decode mX5_take.2.1 13 = .ok (.ireturn, 1) := by decide +kernel
theorem dX5_take_14 : decode mX5_take.2.1 14 = .ok (.aload_n 0, 1) := by decide +kernel
theorem dX5_take_15 : decode mX5_take.2.1 15 = .ok (.aload_n 0, 1) := by decide +kernel
theorem dX5_take_16 : decode mX5_take.2.1 16 = .ok (.getfield 9, 3) := by decide +kernel
theorem dX5_take_19 : decode mX5_take.2.1 19 = .ok (.iconst 1, 1) := by decide +kernel
theorem dX5_take_20 : decode mX5_take.2.1 20 = .ok (.iadd, 1) := by decide +kernel
theorem dX5_take_21 : decode mX5_take.2.1 21 = .ok (.invokevirtual 44, 3) := by decide +kernel
theorem dX5_take_24 : decode mX5_take.2.1 24 = .ok (.iconst 1, 1) := by decide +kernel
theorem dX5_take_25 : decode mX5_take.2.1 25 = .ok (.ireturn, 1) := by decide +kernel
theorem dX6_addInn_0 : decode mX6_addInn.2.1 0 = .ok (.aload_n 0, 1) := by decide +kernel
theorem dX6_addInn_1 : decode mX6_addInn.2.1 1 = .ok (.getfield 34, 3) := by decide +kernel
theorem dX6_addInn_4 : decode mX6_addInn.2.1 4 = .ok (.bipush 6, 2) := by decide +kernel
theorem dX6_addInn_6 : decode mX6_addInn.2.1 6 = .ok (.if_icmp .lt 5, 3) := by decide +kernel
theorem dX6_addInn_9 : decode mX6_addInn.2.1 9 = .ok (.iconst (-1), 1) := by decide +kernel
theorem dX6_addInn_10 : decode mX6_addInn.2.1 10 = .ok (.ireturn, 1) := by decide +kernel
theorem dX6_addInn_11 : decode mX6_addInn.2.1 11 = .ok (.aload_n 0, 1) := by decide +kernel
theorem dX6_addInn_12 : decode mX6_addInn.2.1 12 = .ok (.getfield 34, 3) := by decide +kernel
theorem dX6_addInn_15 : decode mX6_addInn.2.1 15 = .ok (.ifCond .ne 17, 3) := by decide +kernel
theorem dX6_addInn_18 : decode mX6_addInn.2.1 18 = .ok (.iload_n 1, 1) := by decide +kernel
theorem dX6_addInn_19 : decode mX6_addInn.2.1 19 = .ok (.ifCond .ne 11, 3) := by decide +kernel
theorem dX6_addInn_22 : decode mX6_addInn.2.1 22 = .ok (.iload_n 2, 1) := by decide +kernel
theorem dX6_addInn_23 : decode mX6_addInn.2.1 23 = .ok (.ifCond .ne 7, 3) := by decide +kernel
theorem dX6_addInn_26 : decode mX6_addInn.2.1 26 = .ok (.iload_n 3, 1) := by decide +kernel
theorem dX6_addInn_27 : decode mX6_addInn.2.1 27 = .ok (.ifCond .eq 64, 3) := by decide +kernel
theorem dX6_addInn_30 : decode mX6_addInn.2.1 30 = .ok (.iconst (-1), 1) := by decide +kernel
theorem dX6_addInn_31 : decode mX6_addInn.2.1 31 = .ok (.ireturn, 1) := by decide +kernel
theorem dX6_addInn_32 : decode mX6_addInn.2.1 32 = .ok (.iload_n 1, 1) := by decide +kernel
theorem dX6_addInn_33 : decode mX6_addInn.2.1 33 = .ok (.iconst 1, 1) := by decide +kernel
theorem dX6_addInn_34 : decode mX6_addInn.2.1 34 = .ok (.if_icmp .lt 19, 3) := by decide +kernel
theorem dX6_addInn_37 : decode mX6_addInn.2.1 37 = .ok (.iload_n 1, 1) := by decide +kernel
theorem dX6_addInn_38 : decode mX6_addInn.2.1 38 = .ok (.bipush 9, 2) := by decide +kernel

theorem dX11_lay_2 : decode mX11_lay.2.1 2 = .ok (.putfield 1, 3) := by decide +kernel
theorem dX11_lay_5 : decode mX11_lay.2.1 5 = .ok (.aload_n 0, 1) := by decide +kernel
theorem dX11_lay_6 : decode mX11_lay.2.1 6 = .ok (.iload_n 1, 1) := by decide +kernel
theorem dX11_lay_7 : decode mX11_lay.2.1 7 = .ok (.invokevirtual 172, 3) := by decide +kernel
theorem dX11_lay_10 : decode mX11_lay.2.1 10 = .ok (.ifCond .eq 30, 3) := by decide +kernel
theorem dX11_lay_13 : decode mX11_lay.2.1 13 = .ok (.iload_n 2, 1) := by decide +kernel
theorem dX11_lay_14 : decode mX11_lay.2.1 14 = .ok (.iconst 0, 1) := by decide +kernel
theorem dX11_lay_15 : decode mX11_lay.2.1 15 = .ok (.iconst 2, 1) := by decide +kernel
theorem dX11_lay_16 : decode mX11_lay.2.1 16 = .ok (.invokestatic 139, 3) := by decide +kernel
theorem dX11_lay_19 : decode mX11_lay.2.1 19 = .ok (.ifCond .eq 21, 3) := by decide +kernel
theorem dX11_lay_22 : decode mX11_lay.2.1 22 = .ok (.iload_n 3, 1) := by decide +kernel
theorem dX11_lay_23 : decode mX11_lay.2.1 23 = .ok (.iconst 0, 1) := by decide +kernel
theorem dX11_lay_24 : decode mX11_lay.2.1 24 = .ok (.iconst 2, 1) := by decide +kernel
theorem dX11_lay_25 : decode mX11_lay.2.1 25 = .ok (.invokestatic 139, 3) := by decide +kernel
theorem dX11_lay_28 : decode mX11_lay.2.1 28 = .ok (.ifCond .eq 12, 3) := by decide +kernel
theorem dX11_lay_31 : decode mX11_lay.2.1 31 = .ok (.aload_n 0, 1) := by decide +kernel
theorem dX11_lay_32 : decode mX11_lay.2.1 32 = .ok (.iload 4, 2) := by decide +kernel
theorem dX11_lay_34 : decode mX11_lay.2.1 34 = .ok (.invokevirtual 175, 3) := by decide +kernel
theorem dX11_lay_37 : decode mX11_lay.2.1 37 = .ok (.ifCond .ne 5, 3) := by decide +kernel
theorem dX11_lay_40 : decode mX11_lay.2.1 40 = .ok (.iconst (-1), 1) := by decide +kernel
theorem dX11_lay_41 : decode mX11_lay.2.1 41 = .ok (.ireturn, 1) := by decide +kernel
theorem dX11_lay_42 : decode mX11_lay.2.1 42 = .ok (.aload_n 0, 1) := by decide +kernel
theorem dX11_lay_43 : decode mX11_lay.2.1 43 = .ok (.getfield 69, 3) := by decide +kernel
theorem dX11_lay_46 : decode mX11_lay.2.1 46 = .ok (.iload 4, 2) := by decide +kernel
theorem dX11_lay_48 : decode mX11_lay.2.1 48 = .ok (.iaload, 1) := by decide +kernel
theorem dX11_lay_49 : decode mX11_lay.2.1 49 = .ok (.ifCond .ne 19, 3) := by decide +kernel
theorem dX11_lay_52 : decode mX11_lay.2.1 52 = .ok (.aload_n 0, 1) := by decide +kernel
theorem dX11_lay_53 : decode mX11_lay.2.1 53 = .ok (.getfield 36, 3) := by decide +kernel
theorem dX11_lay_56 : decode mX11_lay.2.1 56 = .ok (.iload_n 1, 1) := by decide +kernel
theorem dX11_lay_57 : decode mX11_lay.2.1 57 = .ok (.iaload, 1) := by decide +kernel
theorem dX11_lay_58 : decode mX11_lay.2.1 58 = .ok (.aload_n 0, 1) := by decide +kernel
theorem dX11_lay_59 : decode mX11_lay.2.1 59 = .ok (.getfield 72, 3) := by decide +kernel
theorem dX11_lay_62 : decode mX11_lay.2.1 62 = .ok (.iload 4, 2) := by decide +kernel
theorem dX11_lay_64 : decode mX11_lay.2.1 64 = .ok (.iaload, 1) := by decide +kernel
theorem dX11_lay_65 : decode mX11_lay.2.1 65 = .ok (.if_icmp .eq 6, 3) := by decide +kernel
theorem dX11_lay_68 : decode mX11_lay.2.1 68 = .ok (.bipush (-2), 2) := by decide +kernel
theorem dX11_lay_70 : decode mX11_lay.2.1 70 = .ok (.ireturn, 1) := by decide +kernel
theorem dX11_lay_71 : decode mX11_lay.2.1 71 = .ok (.iconst 3, 1) := by decide +kernel
theorem dX11_lay_72 : decode mX11_lay.2.1 72 = .ok (.iload_n 1, 1) := by decide +kernel
theorem dX11_lay_73 : decode mX11_lay.2.1 73 = .ok (.imul, 1) := by decide +kernel
theorem dX11_lay_74 : decode mX11_lay.2.1 74 = .ok (.iload_n 2, 1) := by decide +kernel
theorem dX11_lay_75 : decode mX11_lay.2.1 75 = .ok (.iadd, 1) := by decide +kernel
theorem dX11_lay_76 : decode mX11_lay.2.1 76 = .ok (.istore 5, 2) := by decide +kernel
theorem dX11_lay_78 : decode mX11_lay.2.1 78 = .ok (.aload_n 0, 1) := by decide +kernel
theorem dX11_lay_79 : decode mX11_lay.2.1 79 = .ok (.getfield 54, 3) := by decide +kernel
theorem dX11_lay_82 : decode mX11_lay.2.1 82 = .ok (.iload 5, 2) := by decide +kernel
theorem dX11_lay_84 : decode mX11_lay.2.1 84 = .ok (.baload, 1) := by decide +kernel
theorem dX11_lay_85 : decode mX11_lay.2.1 85 = .ok (.ifCond .eq 6, 3) := by decide +kernel
theorem dX11_lay_88 : decode mX11_lay.2.1 88 = .ok (.bipush (-3), 2) := by decide +kernel
theorem dX11_lay_90 : decode mX11_lay.2.1 90 = .ok (.ireturn, 1) := by decide +kernel
theorem dX11_lay_91 : decode mX11_lay.2.1 91 = .ok (.aload_n 0, 1) := by decide +kernel
theorem dX11_lay_92 : decode mX11_lay.2.1 92 = .ok (.iload 5, 2) := by decide +kernel
theorem dX11_lay_94 : decode mX11_lay.2.1 94 = .ok (.iconst 3, 1) := by decide +kernel
theorem dX11_lay_95 : decode mX11_lay.2.1 95 = .ok (.invokevirtual 178, 3) := by decide +kernel
theorem dX11_lay_98 : decode mX11_lay.2.1 98 = .ok (.aload_n 0, 1) := by decide +kernel
theorem dX11_lay_99 : decode mX11_lay.2.1 99 = .ok (.getfield 63, 3) := by decide +kernel
theorem dX11_lay_102 : decode mX11_lay.2.1 102 = .ok (.iload 4, 2) := by decide +kernel
theorem dX11_lay_104 : decode mX11_lay.2.1 104 = .ok (.iaload, 1) := by decide +kernel
theorem dX11_lay_105 : decode mX11_lay.2.1 105 = .ok (.iadd, 1) := by decide +kernel
theorem dX11_lay_106 : decode mX11_lay.2.1 106 = .ok (.aload_n 0, 1) := by decide +kernel
theorem dX11_lay_107 : decode mX11_lay.2.1 107 = .ok (.getfield 48, 3) := by decide +kernel
theorem dX11_lay_110 : decode mX11_lay.2.1 110 = .ok (.iload 5, 2) := by decide +kernel
theorem dX11_lay_112 : decode mX11_lay.2.1 112 = .ok (.iaload, 1) := by decide +kernel
theorem dX11_lay_113 : decode mX11_lay.2.1 113 = .ok (.if_icmp .le 6, 3) := by decide +kernel
theorem dX11_lay_116 : decode mX11_lay.2.1 116 = .ok (.bipush (-4), 2) := by decide +kernel
theorem dX11_lay_118 : decode mX11_lay.2.1 118 = .ok (.ireturn, 1) := by decide +kernel
theorem dX11_lay_119 : decode mX11_lay.2.1 119 = .ok (.aload_n 0, 1) := by decide +kernel
theorem dX11_lay_120 : decode mX11_lay.2.1 120 = .ok (.getfield 60, 3) := by decide +kernel
theorem dX11_lay_123 : decode mX11_lay.2.1 123 = .ok (.iload 4, 2) := by decide +kernel
theorem dX11_lay_125 : decode mX11_lay.2.1 125 = .ok (.iaload, 1) := by decide +kernel
theorem dX11_lay_126 : decode mX11_lay.2.1 126 = .ok (.iconst 3, 1) := by decide +kernel
theorem dX11_lay_127 : decode mX11_lay.2.1 127 = .ok (.if_icmp .ne 7, 3) := by decide +kernel
theorem dX11_lay_130 : decode mX11_lay.2.1 130 = .ok (.iconst 1, 1) := by decide +kernel
theorem dX11_lay_131 : decode mX11_lay.2.1 131 = .ok (.goto 4, 3) := by decide +kernel
theorem dX11_lay_134 : decode mX11_lay.2.1 134 = .ok (.iconst 0, 1) := by decide +kernel
theorem dX11_lay_135 : decode mX11_lay.2.1 135 = .ok (.istore 6, 2) := by decide +kernel
theorem dX11_lay_137 : decode mX11_lay.2.1 137 = .ok (.iload 6, 2) := by decide +kernel
theorem dX11_lay_139 : decode mX11_lay.2.1 139 = .ok (.iload_n 3, 1) := by decide +kernel
theorem dX11_lay_140 : decode mX11_lay.2.1 140 = .ok (.iconst 2, 1) := by decide +kernel
theorem dX11_lay_141 : decode mX11_lay.2.1 141 = .ok (.if_icmp .ne 7, 3) := by decide +kernel
theorem dX11_lay_144 : decode mX11_lay.2.1 144 = .ok (.iconst 1, 1) := by decide +kernel
theorem dX11_lay_145 : decode mX11_lay.2.1 145 = .ok (.goto 4, 3) := by decide +kernel
theorem dX11_lay_148 : decode mX11_lay.2.1 148 = .ok (.iconst 0, 1) := by decide +kernel
theorem dX11_lay_149 : decode mX11_lay.2.1 149 = .ok (.if_icmp .ne 18, 3) := by decide +kernel
theorem dX11_lay_152 : decode mX11_lay.2.1 152 = .ok (.iload_n 3, 1) := by decide +kernel
theorem dX11_lay_153 : decode mX11_lay.2.1 153 = .ok (.iconst 2, 1) := by decide +kernel
theorem dX11_lay_154 : decode mX11_lay.2.1 154 = .ok (.if_icmp .ne 16, 3) := by decide +kernel
theorem dX11_lay_157 : decode mX11_lay.2.1 157 = .ok (.aload_n 0, 1) := by decide +kernel
theorem dX11_lay_158 : decode mX11_lay.2.1 158 = .ok (.iload 5, 2) := by decide +kernel
theorem dX11_lay_160 : decode mX11_lay.2.1 160 = .ok (.invokevirtual 182, 3) := by decide +kernel
theorem dX11_lay_163 : decode mX11_lay.2.1 163 = .ok (.iconst (-1), 1) := by decide +kernel
theorem dX11_lay_164 : decode mX11_lay.2.1 164 = .ok (.if_icmp .eq 6, 3) := by decide +kernel
theorem dX11_lay_167 : decode mX11_lay.2.1 167 = .ok (.bipush (-5), 2) := by decide +kernel
theorem dX11_lay_169 : decode mX11_lay.2.1 169 = .ok (.ireturn, 1) := by decide +kernel
theorem dX11_lay_170 : decode mX11_lay.2.1 170 = .ok (.aload_n 0, 1) := by decide +kernel
theorem dX11_lay_171 : decode mX11_lay.2.1 171 = .ok (.getfield 69, 3) := by decide +kernel
theorem dX11_lay_174 : decode mX11_lay.2.1 174 = .ok (.iload 4, 2) := by decide +kernel
theorem dX11_lay_176 : decode mX11_lay.2.1 176 = .ok (.iconst 1, 1) := by decide +kernel
theorem dX11_lay_177 : decode mX11_lay.2.1 177 = .ok (.iastore, 1) := by decide +kernel
theorem dX11_lay_178 : decode mX11_lay.2.1 178 = .ok (.aload_n 0, 1) := by decide +kernel
theorem dX11_lay_179 : decode mX11_lay.2.1 179 = .ok (.getfield 75, 3) := by decide +kernel
theorem dX11_lay_182 : decode mX11_lay.2.1 182 = .ok (.iload 4, 2) := by decide +kernel
theorem dX11_lay_184 : decode mX11_lay.2.1 184 = .ok (.iload 5, 2) := by decide +kernel
theorem dX11_lay_186 : decode mX11_lay.2.1 186 = .ok (.iastore, 1) := by decide +kernel
theorem dX11_lay_187 : decode mX11_lay.2.1 187 = .ok (.aload_n 0, 1) := by decide +kernel
theorem dX11_lay_188 : decode mX11_lay.2.1 188 = .ok (.getfield 78, 3) := by decide +kernel
theorem dX11_lay_191 : decode mX11_lay.2.1 191 = .ok (.iload 4, 2) := by decide +kernel
theorem dX11_lay_193 : decode mX11_lay.2.1 193 = .ok (.iload_n 3, 1) := by decide +kernel
theorem dX11_lay_194 : decode mX11_lay.2.1 194 = .ok (.iastore, 1) := by decide +kernel
theorem dX11_lay_195 : decode mX11_lay.2.1 195 = .ok (.aload_n 0, 1) := by decide +kernel
theorem dX11_lay_196 : decode mX11_lay.2.1 196 = .ok (.iload 4, 2) := by decide +kernel
theorem dX11_lay_198 : decode mX11_lay.2.1 198 = .ok (.bipush 10, 2) := by decide +kernel
theorem dX11_lay_200 : decode mX11_lay.2.1 200 = .ok (.iload_n 1, 1) := by decide +kernel
theorem dX11_lay_201 : decode mX11_lay.2.1 201 = .ok (.iadd, 1) := by decide +kernel
theorem dX11_lay_202 : decode mX11_lay.2.1 202 = .ok (.invokevirtual 168, 3) := by decide +kernel
theorem dX11_lay_205 : decode mX11_lay.2.1 205 = .ok (.aload_n 0, 1) := by decide +kernel
theorem dX11_lay_206 : decode mX11_lay.2.1 206 = .ok (.iload 5, 2) := by decide +kernel
theorem dX11_lay_208 : decode mX11_lay.2.1 208 = .ok (.iconst 3, 1) := by decide +kernel
theorem dX11_lay_209 : decode mX11_lay.2.1 209 = .ok (.invokevirtual 178, 3) := by decide +kernel
theorem dX11_lay_212 : decode mX11_lay.2.1 212 = .ok (.ireturn, 1) := by decide +kernel
theorem dX11_load_0 : decode mX11_load.2.1 0 = .ok (.iconst 0, 1) := by decide +kernel
theorem dX11_load_1 : decode mX11_load.2.1 1 = .ok (.istore_n 3, 1) := by decide +kernel
theorem dX11_load_2 : decode mX11_load.2.1 2 = .ok (.iconst 0, 1) := by decide +kernel
theorem dX11_load_3 : decode mX11_load.2.1 3 = .ok (.istore 4, 2) := by decide +kernel
theorem dX11_load_5 : decode mX11_load.2.1 5 = .ok (.iload 4, 2) := by decide +kernel
theorem dX11_load_7 : decode mX11_load.2.1 7 = .ok (.aload_n 0, 1) := by decide +kernel
theorem dX11_load_8 : decode mX11_load.2.1 8 = .ok (.getfield 165, 3) := by decide +kernel
theorem dX11_load_11 : decode mX11_load.2.1 11 = .ok (.if_icmp .ge 57, 3) := by decide +kernel
theorem dX11_load_14 : decode mX11_load.2.1 14 = .ok (.aload_n 0, 1) := by decide +kernel
theorem dX11_load_15 : decode mX11_load.2.1 15 = .ok (.getfield 69, 3) := by decide +kernel
theorem dX11_load_18 : decode mX11_load.2.1 18 = .ok (.iload 4, 2) := by decide +kernel
theorem dX11_load_20 : decode mX11_load.2.1 20 = .ok (.iaload, 1) := by decide +kernel
theorem dX11_load_21 : decode mX11_load.2.1 21 = .ok (.iconst 1, 1) := by decide +kernel
theorem dX11_load_22 : decode mX11_load.2.1 22 = .ok (.if_icmp .ne 40, 3) := by decide +kernel
theorem dX11_load_25 : decode mX11_load.2.1 25 = .ok (.aload_n 0, 1) := by decide +kernel
theorem dX11_load_26 : decode mX11_load.2.1 26 = .ok (.getfield 75, 3) := by decide +kernel
theorem dX11_load_29 : decode mX11_load.2.1 29 = .ok (.iload 4, 2) := by decide +kernel
theorem dX11_load_31 : decode mX11_load.2.1 31 = .ok (.iaload, 1) := by decide +kernel
theorem dX11_load_32 : decode mX11_load.2.1 32 = .ok (.iload_n 1, 1) := by decide +kernel
theorem dX11_load_33 : decode mX11_load.2.1 33 = .ok (.if_icmp .ne 29, 3) := by decide +kernel
theorem dX11_load_36 : decode mX11_load.2.1 36 = .ok (.iload_n 2, 1) := by decide +kernel
theorem dX11_load_37 : decode mX11_load.2.1 37 = .ok (.iconst 3, 1) := by decide +kernel
theorem dX11_load_38 : decode mX11_load.2.1 38 = .ok (.if_icmp .eq 14, 3) := by decide +kernel
theorem dX11_load_41 : decode mX11_load.2.1 41 = .ok (.aload_n 0, 1) := by decide +kernel
theorem dX11_load_42 : decode mX11_load.2.1 42 = .ok (.getfield 78, 3) := by decide +kernel
theorem dX11_load_45 : decode mX11_load.2.1 45 = .ok (.iload 4, 2) := by decide +kernel
theorem dX11_load_47 : decode mX11_load.2.1 47 = .ok (.iaload, 1) := by decide +kernel
theorem dX11_load_48 : decode mX11_load.2.1 48 = .ok (.iload_n 2, 1) := by decide +kernel
theorem dX11_load_49 : decode mX11_load.2.1 49 = .ok (.if_icmp .ne 13, 3) := by decide +kernel
theorem dX11_load_52 : decode mX11_load.2.1 52 = .ok (.iload_n 3, 1) := by decide +kernel
theorem dX11_load_53 : decode mX11_load.2.1 53 = .ok (.aload_n 0, 1) := by decide +kernel
theorem dX11_load_54 : decode mX11_load.2.1 54 = .ok (.getfield 63, 3) := by decide +kernel
theorem dX11_load_57 : decode mX11_load.2.1 57 = .ok (.iload 4, 2) := by decide +kernel
theorem dX11_load_59 : decode mX11_load.2.1 59 = .ok (.iaload, 1) := by decide +kernel
theorem dX11_load_60 : decode mX11_load.2.1 60 = .ok (.iadd, 1) := by decide +kernel
theorem dX11_load_61 : decode mX11_load.2.1 61 = .ok (.istore_n 3, 1) := by decide +kernel
theorem dX11_load_62 : decode mX11_load.2.1 62 = .ok (.iinc 4 1, 3) := by decide +kernel
theorem dX11_load_65 : decode mX11_load.2.1 65 = .ok (.goto (-60), 3) := by decide +kernel
theorem dX11_load_68 : decode mX11_load.2.1 68 = .ok (.iload_n 3, 1) := by decide +kernel
theorem dX11_load_69 : decode mX11_load.2.1 69 = .ok (.ireturn, 1) := by decide +kernel
theorem dX11_many_0 : decode mX11_many.2.1 0 = .ok (.iconst 0, 1) := by decide +kernel
theorem dX11_many_1 : decode mX11_many.2.1 1 = .ok (.istore_n 2, 1) := by decide +kernel
theorem dX11_many_2 : decode mX11_many.2.1 2 = .ok (.iconst 0, 1) := by decide +kernel
theorem dX11_many_3 : decode mX11_many.2.1 3 = .ok (.istore_n 3, 1) := by decide +kernel
theorem dX11_many_4 : decode mX11_many.2.1 4 = .ok (.iload_n 3, 1) := by decide +kernel
theorem dX11_many_5 : decode mX11_many.2.1 5 = .ok (.aload_n 0, 1) := by decide +kernel
theorem dX11_many_6 : decode mX11_many.2.1 6 = .ok (.getfield 165, 3) := by decide +kernel
theorem dX11_many_9 : decode mX11_many.2.1 9 = .ok (.if_icmp .ge 22, 3) := by decide +kernel
theorem dX11_many_12 : decode mX11_many.2.1 12 = .ok (.aload_n 0, 1) := by decide +kernel
theorem dX11_many_13 : decode mX11_many.2.1 13 = .ok (.getfield 69, 3) := by decide +kernel
theorem dX11_many_16 : decode mX11_many.2.1 16 = .ok (.iload_n 3, 1) := by decide +kernel
theorem dX11_many_17 : decode mX11_many.2.1 17 = .ok (.iaload, 1) := by decide +kernel
theorem dX11_many_18 : decode mX11_many.2.1 18 = .ok (.iload_n 1, 1) := by decide +kernel
theorem dX11_many_19 : decode mX11_many.2.1 19 = .ok (.if_icmp .ne 6, 3) := by decide +kernel
theorem dX11_many_22 : decode mX11_many.2.1 22 = .ok (.iinc 2 1, 3) := by decide +kernel
theorem dX11_many_25 : decode mX11_many.2.1 25 = .ok (.iinc 3 1, 3) := by decide +kernel
theorem dX11_many_28 : decode mX11_many.2.1 28 = .ok (.goto (-24), 3) := by decide +kernel
theorem dX11_many_31 : decode mX11_many.2.1 31 = .ok (.iload_n 2, 1) := by decide +kernel
theorem dX11_many_32 : decode mX11_many.2.1 32 = .ok (.ireturn, 1) := by decide +kernel
theorem dX11_muleOf_0 : decode mX11_muleOf.2.1 0 = .ok (.aload_n 0, 1) := by decide +kernel
theorem dX11_muleOf_1 : decode mX11_muleOf.2.1 1 = .ok (.iconst 0, 1) := by decide +kernel
theorem dX11_muleOf_2 : decode mX11_muleOf.2.1 2 = .ok (.putfield 1, 3) := by decide +kernel
theorem dX11_muleOf_5 : decode mX11_muleOf.2.1 5 = .ok (.aload_n 0, 1) := by decide +kernel
theorem dX11_muleOf_6 : decode mX11_muleOf.2.1 6 = .ok (.iload_n 1, 1) := by decide +kernel
theorem dX11_muleOf_7 : decode mX11_muleOf.2.1 7 = .ok (.invokevirtual 172, 3) := by decide +kernel
theorem dX11_muleOf_10 : decode mX11_muleOf.2.1 10 = .ok (.ifCond .eq 12, 3) := by decide +kernel
theorem dX11_muleOf_13 : decode mX11_muleOf.2.1 13 = .ok (.iload_n 2, 1) := by decide +kernel
theorem dX11_muleOf_14 : decode mX11_muleOf.2.1 14 = .ok (.iconst 0, 1) := by decide +kernel
theorem dX11_muleOf_15 : decode mX11_muleOf.2.1 15 = .ok (.iconst 2, 1) := by decide +kernel
theorem dX11_muleOf_16 : decode mX11_muleOf.2.1 16 = .ok (.invokestatic 139, 3) := by decide +kernel
theorem dX11_muleOf_19 : decode mX11_muleOf.2.1 19 = .ok (.ifCond .ne 5, 3) := by decide +kernel
theorem dX11_muleOf_22 : decode mX11_muleOf.2.1 22 = .ok (.iconst (-1), 1) := by decide +kernel
theorem dX11_muleOf_23 : decode mX11_muleOf.2.1 23 = .ok (.ireturn, 1) := by decide +kernel
theorem dX11_muleOf_24 : decode mX11_muleOf.2.1 24 = .ok (.iconst 3, 1) := by decide +kernel
theorem dX11_muleOf_25 : decode mX11_muleOf.2.1 25 = .ok (.iload_n 1, 1) := by decide +kernel
theorem dX11_muleOf_26 : decode mX11_muleOf.2.1 26 = .ok (.imul, 1) := by decide +kernel
theorem dX11_muleOf_27 : decode mX11_muleOf.2.1 27 = .ok (.iload_n 2, 1) := by decide +kernel
theorem dX11_muleOf_28 : decode mX11_muleOf.2.1 28 = .ok (.iadd, 1) := by decide +kernel
theorem dX11_muleOf_29 : decode mX11_muleOf.2.1 29 = .ok (.istore 4, 2) := by decide +kernel
theorem dX11_muleOf_31 : decode mX11_muleOf.2.1 31 = .ok (.iload_n 3, 1) := by decide +kernel
theorem dX11_muleOf_32 : decode mX11_muleOf.2.1 32 = .ok (.tableswitch 119 0 7 #[48, 56, 64, 80, 88, 96, 104, 111], 48) := by decide +kernel
theorem dX11_muleOf_80 : decode mX11_muleOf.2.1 80 = .ok (.aload_n 0, 1) := by decide +kernel
theorem dX11_muleOf_81 : decode mX11_muleOf.2.1 81 = .ok (.getfield 48, 3) := by decide +kernel
theorem dX11_muleOf_84 : decode mX11_muleOf.2.1 84 = .ok (.iload 4, 2) := by decide +kernel
theorem dX11_muleOf_86 : decode mX11_muleOf.2.1 86 = .ok (.iaload, 1) := by decide +kernel
theorem dX11_muleOf_87 : decode mX11_muleOf.2.1 87 = .ok (.ireturn, 1) := by decide +kernel
theorem dX11_muleOf_88 : decode mX11_muleOf.2.1 88 = .ok (.aload_n 0, 1) := by decide +kernel
theorem dX11_muleOf_89 : decode mX11_muleOf.2.1 89 = .ok (.getfield 51, 3) := by decide +kernel
theorem dX11_muleOf_92 : decode mX11_muleOf.2.1 92 = .ok (.iload 4, 2) := by decide +kernel
theorem dX11_muleOf_94 : decode mX11_muleOf.2.1 94 = .ok (.iaload, 1) := by decide +kernel
theorem dX11_muleOf_95 : decode mX11_muleOf.2.1 95 = .ok (.ireturn, 1) := by decide +kernel
theorem dX11_muleOf_96 : decode mX11_muleOf.2.1 96 = .ok (.aload_n 0, 1) := by decide +kernel
theorem dX11_muleOf_97 : decode mX11_muleOf.2.1 97 = .ok (.getfield 54, 3) := by decide +kernel
theorem dX11_muleOf_100 : decode mX11_muleOf.2.1 100 = .ok (.iload 4, 2) := by decide +kernel
theorem dX11_muleOf_102 : decode mX11_muleOf.2.1 102 = .ok (.baload, 1) := by decide +kernel
theorem dX11_muleOf_103 : decode mX11_muleOf.2.1 103 = .ok (.ifCond .eq 7, 3) := by decide +kernel
theorem dX11_muleOf_106 : decode mX11_muleOf.2.1 106 = .ok (.iconst 1, 1) := by decide +kernel
theorem dX11_muleOf_107 : decode mX11_muleOf.2.1 107 = .ok (.goto 4, 3) := by decide +kernel
theorem dX11_muleOf_110 : decode mX11_muleOf.2.1 110 = .ok (.iconst 0, 1) := by decide +kernel
theorem dX11_muleOf_111 : decode mX11_muleOf.2.1 111 = .ok (.ireturn, 1) := by decide +kernel
theorem dX11_muleOf_112 : decode mX11_muleOf.2.1 112 = .ok (.aload_n 0, 1) := by decide +kernel
theorem dX11_muleOf_113 : decode mX11_muleOf.2.1 113 = .ok (.iload 4, 2) := by decide +kernel
theorem dX11_muleOf_115 : decode mX11_muleOf.2.1 115 = .ok (.iconst 3, 1) := by decide +kernel
theorem dX11_muleOf_116 : decode mX11_muleOf.2.1 116 = .ok (.invokevirtual 178, 3) := by decide +kernel
theorem dX11_muleOf_119 : decode mX11_muleOf.2.1 119 = .ok (.ireturn, 1) := by decide +kernel
theorem dX11_muleOf_120 : decode mX11_muleOf.2.1 120 = .ok (.aload_n 0, 1) := by decide +kernel
theorem dX11_muleOf_121 : decode mX11_muleOf.2.1 121 = .ok (.iload 4, 2) := by decide +kernel
theorem dX11_muleOf_123 : decode mX11_muleOf.2.1 123 = .ok (.iconst 0, 1) := by decide +kernel
theorem dX11_muleOf_124 : decode mX11_muleOf.2.1 124 = .ok (.invokevirtual 178, 3) := by decide +kernel
theorem dX11_muleOf_127 : decode mX11_muleOf.2.1 127 = .ok (.ireturn, 1) := by decide +kernel
theorem dX11_muleOf_128 : decode mX11_muleOf.2.1 128 = .ok (.aload_n 0, 1) := by decide +kernel
theorem dX11_muleOf_129 : decode mX11_muleOf.2.1 129 = .ok (.iload 4, 2) := by decide +kernel
theorem dX11_muleOf_131 : decode mX11_muleOf.2.1 131 = .ok (.iconst 1, 1) := by decide +kernel
theorem dX11_muleOf_132 : decode mX11_muleOf.2.1 132 = .ok (.invokevirtual 178, 3) := by decide +kernel
theorem dX11_muleOf_135 : decode mX11_muleOf.2.1 135 = .ok (.ireturn, 1) := by decide +kernel
theorem dX11_muleOf_136 : decode mX11_muleOf.2.1 136 = .ok (.aload_n 0, 1) := by decide +kernel
theorem dX11_muleOf_137 : decode mX11_muleOf.2.1 137 = .ok (.iload 4, 2) := by decide +kernel
theorem dX11_muleOf_139 : decode mX11_muleOf.2.1 139 = .ok (.invokevirtual 182, 3) := by decide +kernel
theorem dX11_muleOf_142 : decode mX11_muleOf.2.1 142 = .ok (.ireturn, 1) := by decide +kernel
theorem dX11_muleOf_143 : decode mX11_muleOf.2.1 143 = .ok (.aload_n 0, 1) := by decide +kernel
theorem dX11_muleOf_144 : decode mX11_muleOf.2.1 144 = .ok (.getfield 57, 3) := by decide +kernel
theorem dX11_muleOf_147 : decode mX11_muleOf.2.1 147 = .ok (.iload 4, 2) := by decide +kernel
theorem dX11_muleOf_149 : decode mX11_muleOf.2.1 149 = .ok (.iaload, 1) := by decide +kernel
theorem dX11_muleOf_150 : decode mX11_muleOf.2.1 150 = .ok (.ireturn, 1) := by decide +kernel
theorem dX11_muleOf_151 : decode mX11_muleOf.2.1 151 = .ok (.iconst (-1), 1) := by decide +kernel
theorem dX11_muleOf_152 : decode mX11_muleOf.2.1 152 = .ok (.ireturn, 1) := by decide +kernel
theorem dX11_next_0 : decode mX11_next.2.1 0 = .ok (.aload_n 0, 1) := by decide +kernel
theorem dX11_next_1 : decode mX11_next.2.1 1 = .ok (.getfield 233, 3) := by decide +kernel
theorem dX11_next_4 : decode mX11_next.2.1 4 = .ok (.aload_n 0, 1) := by decide +kernel
theorem dX11_next_5 : decode mX11_next.2.1 5 = .ok (.getfield 230, 3) := by decide +kernel
theorem dX11_next_8 : decode mX11_next.2.1 8 = .ok (.if_icmp .ge 44, 3) := by decide +kernel
theorem dX11_next_11 : decode mX11_next.2.1 11 = .ok (.aload_n 0, 1) := by decide +kernel
theorem dX11_next_12 : decode mX11_next.2.1 12 = .ok (.getfield 108, 3) := by decide +kernel
theorem dX11_next_15 : decode mX11_next.2.1 15 = .ok (.aload_n 0, 1) := by decide +kernel
theorem dX11_next_16 : decode mX11_next.2.1 16 = .ok (.getfield 233, 3) := by decide +kernel
theorem dX11_next_19 : decode mX11_next.2.1 19 = .ok (.baload, 1) := by decide +kernel
theorem dX11_next_20 : decode mX11_next.2.1 20 = .ok (.bipush 32, 2) := by decide +kernel
theorem dX11_next_22 : decode mX11_next.2.1 22 = .ok (.if_icmp .eq 17, 3) := by decide +kernel
theorem dX11_next_25 : decode mX11_next.2.1 25 = .ok (.aload_n 0, 1) := by decide +kernel
theorem dX11_next_26 : decode mX11_next.2.1 26 = .ok (.getfield 108, 3) := by decide +kernel
theorem dX11_next_29 : decode mX11_next.2.1 29 = .ok (.aload_n 0, 1) := by decide +kernel
theorem dX11_next_30 : decode mX11_next.2.1 30 = .ok (.getfield 233, 3) := by decide +kernel
theorem dX11_next_33 : decode mX11_next.2.1 33 = .ok (.baload, 1) := by decide +kernel
theorem dX11_next_34 : decode mX11_next.2.1 34 = .ok (.bipush 10, 2) := by decide +kernel
theorem dX11_next_36 : decode mX11_next.2.1 36 = .ok (.if_icmp .ne 16, 3) := by decide +kernel
theorem dX11_next_39 : decode mX11_next.2.1 39 = .ok (.aload_n 0, 1) := by decide +kernel
theorem dX11_next_40 : decode mX11_next.2.1 40 = .ok (.dup, 1) := by decide +kernel
theorem dX11_next_41 : decode mX11_next.2.1 41 = .ok (.getfield 233, 3) := by decide +kernel
theorem dX11_next_44 : decode mX11_next.2.1 44 = .ok (.iconst 1, 1) := by decide +kernel
theorem dX11_next_45 : decode mX11_next.2.1 45 = .ok (.iadd, 1) := by decide +kernel
theorem dX11_next_46 : decode mX11_next.2.1 46 = .ok (.putfield 233, 3) := by decide +kernel
theorem dX11_next_49 : decode mX11_next.2.1 49 = .ok (.goto (-49), 3) := by decide +kernel
theorem dX11_next_52 : decode mX11_next.2.1 52 = .ok (.aload_n 0, 1) := by decide +kernel
theorem dX11_next_53 : decode mX11_next.2.1 53 = .ok (.aload_n 0, 1) := by decide +kernel
theorem dX11_next_54 : decode mX11_next.2.1 54 = .ok (.getfield 233, 3) := by decide +kernel
theorem dX11_next_57 : decode mX11_next.2.1 57 = .ok (.putfield 236, 3) := by decide +kernel
theorem dX11_next_60 : decode mX11_next.2.1 60 = .ok (.aload_n 0, 1) := by decide +kernel
theorem dX11_next_61 : decode mX11_next.2.1 61 = .ok (.getfield 233, 3) := by decide +kernel
theorem dX11_next_64 : decode mX11_next.2.1 64 = .ok (.aload_n 0, 1) := by decide +kernel
theorem dX11_next_65 : decode mX11_next.2.1 65 = .ok (.getfield 230, 3) := by decide +kernel
theorem dX11_next_68 : decode mX11_next.2.1 68 = .ok (.if_icmp .lt 9, 3) := by decide +kernel
theorem dX11_next_71 : decode mX11_next.2.1 71 = .ok (.aload_n 0, 1) := by decide +kernel
theorem dX11_next_72 : decode mX11_next.2.1 72 = .ok (.iconst 0, 1) := by decide +kernel
theorem dX11_next_73 : decode mX11_next.2.1 73 = .ok (.putfield 239, 3) := by decide +kernel
theorem dX11_next_76 : decode mX11_next.2.1 76 = .ok (.return_, 1) := by decide +kernel
theorem dX11_next_77 : decode mX11_next.2.1 77 = .ok (.aload_n 0, 1) := by decide +kernel
theorem dX11_next_78 : decode mX11_next.2.1 78 = .ok (.getfield 108, 3) := by decide +kernel
theorem dX11_next_81 : decode mX11_next.2.1 81 = .ok (.aload_n 0, 1) := by decide +kernel
theorem dX11_next_82 : decode mX11_next.2.1 82 = .ok (.getfield 233, 3) := by decide +kernel
theorem dX11_next_85 : decode mX11_next.2.1 85 = .ok (.baload, 1) := by decide +kernel
theorem dX11_next_86 : decode mX11_next.2.1 86 = .ok (.istore_n 1, 1) := by decide +kernel
theorem dX11_next_87 : decode mX11_next.2.1 87 = .ok (.aload_n 0, 1) := by decide +kernel
theorem dX11_next_88 : decode mX11_next.2.1 88 = .ok (.dup, 1) := by decide +kernel
theorem dX11_next_89 : decode mX11_next.2.1 89 = .ok (.getfield 233, 3) := by decide +kernel
theorem dX11_next_92 : decode mX11_next.2.1 92 = .ok (.iconst 1, 1) := by decide +kernel
theorem dX11_next_93 : decode mX11_next.2.1 93 = .ok (.iadd, 1) := by decide +kernel
theorem dX11_next_94 : decode mX11_next.2.1 94 = .ok (.putfield 233, 3) := by decide +kernel
theorem dX11_next_97 : decode mX11_next.2.1 97 = .ok (.iload_n 1, 1) := by decide +kernel
theorem dX11_next_98 : decode mX11_next.2.1 98 = .ok (.invokestatic 242, 3) := by decide +kernel
theorem dX11_next_101 : decode mX11_next.2.1 101 = .ok (.ifCond .eq 38, 3) := by decide +kernel
theorem dX11_next_104 : decode mX11_next.2.1 104 = .ok (.aload_n 0, 1) := by decide +kernel
theorem dX11_next_105 : decode mX11_next.2.1 105 = .ok (.aload_n 0, 1) := by decide +kernel
theorem dX11_next_106 : decode mX11_next.2.1 106 = .ok (.getfield 233, 3) := by decide +kernel
theorem dX11_next_109 : decode mX11_next.2.1 109 = .ok (.invokevirtual 245, 3) := by decide +kernel
theorem dX11_next_112 : decode mX11_next.2.1 112 = .ok (.invokestatic 242, 3) := by decide +kernel
theorem dX11_next_115 : decode mX11_next.2.1 115 = .ok (.ifCond .eq 16, 3) := by decide +kernel
theorem dX11_next_118 : decode mX11_next.2.1 118 = .ok (.aload_n 0, 1) := by decide +kernel
theorem dX11_next_119 : decode mX11_next.2.1 119 = .ok (.dup, 1) := by decide +kernel
theorem dX11_next_120 : decode mX11_next.2.1 120 = .ok (.getfield 233, 3) := by decide +kernel
theorem dX11_next_123 : decode mX11_next.2.1 123 = .ok (.iconst 1, 1) := by decide +kernel
theorem dX11_next_124 : decode mX11_next.2.1 124 = .ok (.iadd, 1) := by decide +kernel
theorem dX11_next_125 : decode mX11_next.2.1 125 = .ok (.putfield 233, 3) := by decide +kernel
theorem dX11_next_128 : decode mX11_next.2.1 128 = .ok (.goto (-24), 3) := by decide +kernel
theorem dX11_next_131 : decode mX11_next.2.1 131 = .ok (.aload_n 0, 1) := by decide +kernel
theorem dX11_next_132 : decode mX11_next.2.1 132 = .ok (.iconst 3, 1) := by decide +kernel
theorem dX11_next_133 : decode mX11_next.2.1 133 = .ok (.putfield 239, 3) := by decide +kernel
theorem dX11_next_136 : decode mX11_next.2.1 136 = .ok (.goto 156, 3) := by decide +kernel
theorem dX11_next_139 : decode mX11_next.2.1 139 = .ok (.iload_n 1, 1) := by decide +kernel
theorem dX11_next_140 : decode mX11_next.2.1 140 = .ok (.invokestatic 248, 3) := by decide +kernel
theorem dX11_next_143 : decode mX11_next.2.1 143 = .ok (.ifCond .eq 99, 3) := by decide +kernel
theorem dX11_next_146 : decode mX11_next.2.1 146 = .ok (.aload_n 0, 1) := by decide +kernel
theorem dX11_next_147 : decode mX11_next.2.1 147 = .ok (.iload_n 1, 1) := by decide +kernel
theorem dX11_next_148 : decode mX11_next.2.1 148 = .ok (.bipush 48, 2) := by decide +kernel
theorem dX11_next_150 : decode mX11_next.2.1 150 = .ok (.isub, 1) := by decide +kernel
theorem dX11_next_151 : decode mX11_next.2.1 151 = .ok (.putfield 251, 3) := by decide +kernel
theorem dX11_next_154 : decode mX11_next.2.1 154 = .ok (.aload_n 0, 1) := by decide +kernel
theorem dX11_next_155 : decode mX11_next.2.1 155 = .ok (.aload_n 0, 1) := by decide +kernel
theorem dX11_next_156 : decode mX11_next.2.1 156 = .ok (.getfield 233, 3) := by decide +kernel
theorem dX11_next_159 : decode mX11_next.2.1 159 = .ok (.invokevirtual 245, 3) := by decide +kernel
theorem dX11_next_162 : decode mX11_next.2.1 162 = .ok (.invokestatic 248, 3) := by decide +kernel
theorem dX11_next_165 : decode mX11_next.2.1 165 = .ok (.ifCond .eq 52, 3) := by decide +kernel
theorem dX11_next_168 : decode mX11_next.2.1 168 = .ok (.aload_n 0, 1) := by decide +kernel
theorem dX11_next_169 : decode mX11_next.2.1 169 = .ok (.getfield 233, 3) := by decide +kernel
theorem dX11_next_172 : decode mX11_next.2.1 172 = .ok (.aload_n 0, 1) := by decide +kernel
theorem dX11_next_173 : decode mX11_next.2.1 173 = .ok (.getfield 236, 3) := by decide +kernel
theorem dX11_next_176 : decode mX11_next.2.1 176 = .ok (.isub, 1) := by decide +kernel
theorem dX11_next_177 : decode mX11_next.2.1 177 = .ok (.iconst 4, 1) := by decide +kernel
theorem dX11_next_178 : decode mX11_next.2.1 178 = .ok (.if_icmp .ge 26, 3) := by decide +kernel
theorem dX11_next_181 : decode mX11_next.2.1 181 = .ok (.aload_n 0, 1) := by decide +kernel
theorem dX11_next_182 : decode mX11_next.2.1 182 = .ok (.bipush 10, 2) := by decide +kernel
theorem dX11_next_184 : decode mX11_next.2.1 184 = .ok (.aload_n 0, 1) := by decide +kernel
theorem dX11_next_185 : decode mX11_next.2.1 185 = .ok (.getfield 251, 3) := by decide +kernel
theorem dX11_next_188 : decode mX11_next.2.1 188 = .ok (.imul, 1) := by decide +kernel
theorem dX11_next_189 : decode mX11_next.2.1 189 = .ok (.aload_n 0, 1) := by decide +kernel
theorem dX11_next_190 : decode mX11_next.2.1 190 = .ok (.aload_n 0, 1) := by decide +kernel
theorem dX11_next_191 : decode mX11_next.2.1 191 = .ok (.getfield 233, 3) := by decide +kernel
theorem dX11_next_194 : decode mX11_next.2.1 194 = .ok (.invokevirtual 245, 3) := by decide +kernel
theorem dX11_next_197 : decode mX11_next.2.1 197 = .ok (.iadd, 1) := by decide +kernel
theorem dX11_next_198 : decode mX11_next.2.1 198 = .ok (.bipush 48, 2) := by decide +kernel
theorem dX11_next_200 : decode mX11_next.2.1 200 = .ok (.isub, 1) := by decide +kernel
theorem dX11_next_201 : decode mX11_next.2.1 201 = .ok (.putfield 251, 3) := by decide +kernel
theorem dX11_next_204 : decode mX11_next.2.1 204 = .ok (.aload_n 0, 1) := by decide +kernel
theorem dX11_next_205 : decode mX11_next.2.1 205 = .ok (.dup, 1) := by decide +kernel
theorem dX11_next_206 : decode mX11_next.2.1 206 = .ok (.getfield 233, 3) := by decide +kernel
theorem dX11_next_209 : decode mX11_next.2.1 209 = .ok (.iconst 1, 1) := by decide +kernel
theorem dX11_next_210 : decode mX11_next.2.1 210 = .ok (.iadd, 1) := by decide +kernel
theorem dX11_next_211 : decode mX11_next.2.1 211 = .ok (.putfield 233, 3) := by decide +kernel
theorem dX11_next_214 : decode mX11_next.2.1 214 = .ok (.goto (-60), 3) := by decide +kernel
theorem dX11_next_217 : decode mX11_next.2.1 217 = .ok (.aload_n 0, 1) := by decide +kernel
theorem dX11_next_218 : decode mX11_next.2.1 218 = .ok (.aload_n 0, 1) := by decide +kernel
theorem dX11_next_219 : decode mX11_next.2.1 219 = .ok (.getfield 233, 3) := by decide +kernel
theorem dX11_next_222 : decode mX11_next.2.1 222 = .ok (.aload_n 0, 1) := by decide +kernel
theorem dX11_next_223 : decode mX11_next.2.1 223 = .ok (.getfield 236, 3) := by decide +kernel
theorem dX11_next_226 : decode mX11_next.2.1 226 = .ok (.isub, 1) := by decide +kernel
theorem dX11_next_227 : decode mX11_next.2.1 227 = .ok (.iconst 4, 1) := by decide +kernel
theorem dX11_next_228 : decode mX11_next.2.1 228 = .ok (.if_icmp .le 7, 3) := by decide +kernel
theorem dX11_next_231 : decode mX11_next.2.1 231 = .ok (.iconst 1, 1) := by decide +kernel
theorem dX11_next_232 : decode mX11_next.2.1 232 = .ok (.goto 4, 3) := by decide +kernel
theorem dX11_next_235 : decode mX11_next.2.1 235 = .ok (.iconst 2, 1) := by decide +kernel
theorem dX11_next_236 : decode mX11_next.2.1 236 = .ok (.putfield 239, 3) := by decide +kernel
theorem dX11_next_239 : decode mX11_next.2.1 239 = .ok (.goto 53, 3) := by decide +kernel
theorem dX11_next_242 : decode mX11_next.2.1 242 = .ok (.aload_n 0, 1) := by decide +kernel
theorem dX11_next_243 : decode mX11_next.2.1 243 = .ok (.iload_n 1, 1) := by decide +kernel
theorem dX11_next_244 : decode mX11_next.2.1 244 = .ok (.putfield 251, 3) := by decide +kernel
theorem dX11_next_247 : decode mX11_next.2.1 247 = .ok (.aload_n 0, 1) := by decide +kernel
theorem dX11_next_248 : decode mX11_next.2.1 248 = .ok (.iload_n 1, 1) := by decide +kernel
theorem dX11_next_249 : decode mX11_next.2.1 249 = .ok (.bipush 60, 2) := by decide +kernel
theorem dX11_next_251 : decode mX11_next.2.1 251 = .ok (.if_icmp .eq 33, 3) := by decide +kernel
theorem dX11_next_254 : decode mX11_next.2.1 254 = .ok (.iload_n 1, 1) := by decide +kernel
theorem dX11_next_255 : decode mX11_next.2.1 255 = .ok (.bipush 61, 2) := by decide +kernel
theorem dX11_next_257 : decode mX11_next.2.1 257 = .ok (.if_icmp .eq 27, 3) := by decide +kernel
theorem dX11_next_260 : decode mX11_next.2.1 260 = .ok (.iload_n 1, 1) := by decide +kernel
theorem dX11_next_261 : decode mX11_next.2.1 261 = .ok (.bipush 62, 2) := by decide +kernel
theorem dX11_next_263 : decode mX11_next.2.1 263 = .ok (.if_icmp .eq 21, 3) := by decide +kernel
theorem dX11_next_266 : decode mX11_next.2.1 266 = .ok (.iload_n 1, 1) := by decide +kernel
theorem dX11_next_267 : decode mX11_next.2.1 267 = .ok (.bipush 58, 2) := by decide +kernel
theorem dX11_next_269 : decode mX11_next.2.1 269 = .ok (.if_icmp .eq 15, 3) := by decide +kernel
theorem dX11_next_272 : decode mX11_next.2.1 272 = .ok (.iload_n 1, 1) := by decide +kernel
theorem dX11_next_273 : decode mX11_next.2.1 273 = .ok (.bipush 59, 2) := by decide +kernel
theorem dX11_next_275 : decode mX11_next.2.1 275 = .ok (.if_icmp .eq 9, 3) := by decide +kernel
theorem dX11_next_278 : decode mX11_next.2.1 278 = .ok (.iload_n 1, 1) := by decide +kernel
theorem dX11_next_279 : decode mX11_next.2.1 279 = .ok (.bipush 45, 2) := by decide +kernel
theorem dX11_next_281 : decode mX11_next.2.1 281 = .ok (.if_icmp .ne 7, 3) := by decide +kernel
theorem dX11_next_284 : decode mX11_next.2.1 284 = .ok (.iconst 4, 1) := by decide +kernel
theorem dX11_next_285 : decode mX11_next.2.1 285 = .ok (.goto 4, 3) := by decide +kernel
theorem dX11_next_288 : decode mX11_next.2.1 288 = .ok (.iconst 1, 1) := by decide +kernel
theorem dX11_next_289 : decode mX11_next.2.1 289 = .ok (.putfield 239, 3) := by decide +kernel
theorem dX11_next_292 : decode mX11_next.2.1 292 = .ok (.return_, 1) := by decide +kernel
theorem dX11_number_0 : decode mX11_number.2.1 0 = .ok (.aload_n 0, 1) := by decide +kernel
theorem dX11_number_1 : decode mX11_number.2.1 1 = .ok (.invokevirtual 301, 3) := by decide +kernel
theorem dX11_number_4 : decode mX11_number.2.1 4 = .ok (.ifCond .eq 16, 3) := by decide +kernel
theorem dX11_number_7 : decode mX11_number.2.1 7 = .ok (.aload_n 0, 1) := by decide +kernel
theorem dX11_number_8 : decode mX11_number.2.1 8 = .ok (.getfield 239, 3) := by decide +kernel
theorem dX11_number_11 : decode mX11_number.2.1 11 = .ok (.iconst 2, 1) := by decide +kernel
theorem dX11_number_12 : decode mX11_number.2.1 12 = .ok (.if_icmp .eq 8, 3) := by decide +kernel
theorem dX11_number_15 : decode mX11_number.2.1 15 = .ok (.aload_n 0, 1) := by decide +kernel
theorem dX11_number_16 : decode mX11_number.2.1 16 = .ok (.iconst 1, 1) := by decide +kernel
theorem dX11_number_17 : decode mX11_number.2.1 17 = .ok (.invokevirtual 289, 3) := by decide +kernel
theorem dX11_number_20 : decode mX11_number.2.1 20 = .ok (.aload_n 0, 1) := by decide +kernel
theorem dX11_number_21 : decode mX11_number.2.1 21 = .ok (.invokevirtual 301, 3) := by decide +kernel
theorem dX11_number_24 : decode mX11_number.2.1 24 = .ok (.ifCond .ne 5, 3) := by decide +kernel
theorem dX11_number_27 : decode mX11_number.2.1 27 = .ok (.iconst 0, 1) := by decide +kernel
theorem dX11_number_28 : decode mX11_number.2.1 28 = .ok (.ireturn, 1) := by decide +kernel
theorem dX11_number_29 : decode mX11_number.2.1 29 = .ok (.aload_n 0, 1) := by decide +kernel
theorem dX11_number_30 : decode mX11_number.2.1 30 = .ok (.getfield 251, 3) := by decide +kernel
theorem dX11_number_33 : decode mX11_number.2.1 33 = .ok (.istore_n 1, 1) := by decide +kernel
theorem dX11_number_34 : decode mX11_number.2.1 34 = .ok (.aload_n 0, 1) := by decide +kernel
theorem dX11_number_35 : decode mX11_number.2.1 35 = .ok (.invokevirtual 292, 3) := by decide +kernel
theorem dX11_number_38 : decode mX11_number.2.1 38 = .ok (.iload_n 1, 1) := by decide +kernel
theorem dX11_number_39 : decode mX11_number.2.1 39 = .ok (.ireturn, 1) := by decide +kernel
theorem dX11_of_0 : decode mX11_of.2.1 0 = .ok (.aload_n 0, 1) := by decide +kernel
theorem dX11_of_1 : decode mX11_of.2.1 1 = .ok (.iconst 0, 1) := by decide +kernel
theorem dX11_of_2 : decode mX11_of.2.1 2 = .ok (.putfield 1, 3) := by decide +kernel
theorem dX11_of_5 : decode mX11_of.2.1 5 = .ok (.aload_n 0, 1) := by decide +kernel
theorem dX11_of_6 : decode mX11_of.2.1 6 = .ok (.iload_n 1, 1) := by decide +kernel
theorem dX11_of_7 : decode mX11_of.2.1 7 = .ok (.invokevirtual 175, 3) := by decide +kernel
theorem dX11_of_10 : decode mX11_of.2.1 10 = .ok (.ifCond .ne 5, 3) := by decide +kernel
theorem dX11_of_13 : decode mX11_of.2.1 13 = .ok (.iconst (-1), 1) := by decide +kernel
theorem dX11_of_14 : decode mX11_of.2.1 14 = .ok (.ireturn, 1) := by decide +kernel
theorem dX11_of_15 : decode mX11_of.2.1 15 = .ok (.iload_n 2, 1) := by decide +kernel
theorem dX11_of_16 : decode mX11_of.2.1 16 = .ok (.tableswitch 124 0 7 #[48, 55, 62, 69, 76, 104, 111, 118], 48) := by decide +kernel
theorem dX11_of_64 : decode mX11_of.2.1 64 = .ok (.aload_n 0, 1) := by decide +kernel
theorem dX11_of_65 : decode mX11_of.2.1 65 = .ok (.getfield 60, 3) := by decide +kernel
theorem dX11_of_68 : decode mX11_of.2.1 68 = .ok (.iload_n 1, 1) := by decide +kernel
theorem dX11_of_69 : decode mX11_of.2.1 69 = .ok (.iaload, 1) := by decide +kernel
theorem dX11_of_70 : decode mX11_of.2.1 70 = .ok (.ireturn, 1) := by decide +kernel
theorem dX11_of_71 : decode mX11_of.2.1 71 = .ok (.aload_n 0, 1) := by decide +kernel
theorem dX11_of_72 : decode mX11_of.2.1 72 = .ok (.getfield 63, 3) := by decide +kernel
theorem dX11_of_75 : decode mX11_of.2.1 75 = .ok (.iload_n 1, 1) := by decide +kernel
theorem dX11_of_76 : decode mX11_of.2.1 76 = .ok (.iaload, 1) := by decide +kernel
theorem dX11_of_77 : decode mX11_of.2.1 77 = .ok (.ireturn, 1) := by decide +kernel
theorem dX11_of_78 : decode mX11_of.2.1 78 = .ok (.aload_n 0, 1) := by decide +kernel
theorem dX11_of_79 : decode mX11_of.2.1 79 = .ok (.getfield 66, 3) := by decide +kernel
theorem dX11_of_82 : decode mX11_of.2.1 82 = .ok (.iload_n 1, 1) := by decide +kernel
theorem dX11_of_83 : decode mX11_of.2.1 83 = .ok (.iaload, 1) := by decide +kernel
theorem dX11_of_84 : decode mX11_of.2.1 84 = .ok (.ireturn, 1) := by decide +kernel
theorem dX11_of_85 : decode mX11_of.2.1 85 = .ok (.aload_n 0, 1) := by decide +kernel
theorem dX11_of_86 : decode mX11_of.2.1 86 = .ok (.getfield 69, 3) := by decide +kernel
theorem dX11_of_89 : decode mX11_of.2.1 89 = .ok (.iload_n 1, 1) := by decide +kernel
theorem dX11_of_90 : decode mX11_of.2.1 90 = .ok (.iaload, 1) := by decide +kernel
theorem dX11_of_91 : decode mX11_of.2.1 91 = .ok (.ireturn, 1) := by decide +kernel
theorem dX11_of_92 : decode mX11_of.2.1 92 = .ok (.aload_n 0, 1) := by decide +kernel
theorem dX11_of_93 : decode mX11_of.2.1 93 = .ok (.getfield 69, 3) := by decide +kernel
theorem dX11_of_96 : decode mX11_of.2.1 96 = .ok (.iload_n 1, 1) := by decide +kernel
theorem dX11_of_97 : decode mX11_of.2.1 97 = .ok (.iaload, 1) := by decide +kernel
theorem dX11_of_98 : decode mX11_of.2.1 98 = .ok (.iconst 1, 1) := by decide +kernel
theorem dX11_of_99 : decode mX11_of.2.1 99 = .ok (.if_icmp .ne 14, 3) := by decide +kernel
theorem dX11_of_102 : decode mX11_of.2.1 102 = .ok (.aload_n 0, 1) := by decide +kernel
theorem dX11_of_103 : decode mX11_of.2.1 103 = .ok (.getfield 75, 3) := by decide +kernel
theorem dX11_of_106 : decode mX11_of.2.1 106 = .ok (.iload_n 1, 1) := by decide +kernel
theorem dX11_of_107 : decode mX11_of.2.1 107 = .ok (.iaload, 1) := by decide +kernel
theorem dX11_of_108 : decode mX11_of.2.1 108 = .ok (.iconst 3, 1) := by decide +kernel
theorem dX11_of_109 : decode mX11_of.2.1 109 = .ok (.idiv, 1) := by decide +kernel
theorem dX11_of_110 : decode mX11_of.2.1 110 = .ok (.goto 9, 3) := by decide +kernel
theorem dX11_of_113 : decode mX11_of.2.1 113 = .ok (.aload_n 0, 1) := by decide +kernel
theorem dX11_of_114 : decode mX11_of.2.1 114 = .ok (.getfield 72, 3) := by decide +kernel
theorem dX11_of_117 : decode mX11_of.2.1 117 = .ok (.iload_n 1, 1) := by decide +kernel
theorem dX11_of_118 : decode mX11_of.2.1 118 = .ok (.iaload, 1) := by decide +kernel
theorem dX11_of_119 : decode mX11_of.2.1 119 = .ok (.ireturn, 1) := by decide +kernel
theorem dX11_of_120 : decode mX11_of.2.1 120 = .ok (.aload_n 0, 1) := by decide +kernel
theorem dX11_of_121 : decode mX11_of.2.1 121 = .ok (.getfield 81, 3) := by decide +kernel
theorem dX11_of_124 : decode mX11_of.2.1 124 = .ok (.iload_n 1, 1) := by decide +kernel
theorem dX11_of_125 : decode mX11_of.2.1 125 = .ok (.iaload, 1) := by decide +kernel
theorem dX11_of_126 : decode mX11_of.2.1 126 = .ok (.ireturn, 1) := by decide +kernel
theorem dX11_of_127 : decode mX11_of.2.1 127 = .ok (.aload_n 0, 1) := by decide +kernel
theorem dX11_of_128 : decode mX11_of.2.1 128 = .ok (.getfield 87, 3) := by decide +kernel
theorem dX11_of_131 : decode mX11_of.2.1 131 = .ok (.iload_n 1, 1) := by decide +kernel
theorem dX11_of_132 : decode mX11_of.2.1 132 = .ok (.iaload, 1) := by decide +kernel
theorem dX11_of_133 : decode mX11_of.2.1 133 = .ok (.ireturn, 1) := by decide +kernel
theorem dX11_of_134 : decode mX11_of.2.1 134 = .ok (.aload_n 0, 1) := by decide +kernel
theorem dX11_of_135 : decode mX11_of.2.1 135 = .ok (.iload_n 1, 1) := by decide +kernel
theorem dX11_of_136 : decode mX11_of.2.1 136 = .ok (.invokevirtual 319, 3) := by decide +kernel
theorem dX11_of_139 : decode mX11_of.2.1 139 = .ok (.ireturn, 1) := by decide +kernel
theorem dX11_of_140 : decode mX11_of.2.1 140 = .ok (.iconst (-1), 1) := by decide +kernel
theorem dX11_of_141 : decode mX11_of.2.1 141 = .ok (.ireturn, 1) := by decide +kernel
theorem dX11_pack_0 : decode mX11_pack.2.1 0 = .ok (.aload_n 0, 1) := by decide +kernel
theorem dX11_pack_1 : decode mX11_pack.2.1 1 = .ok (.iconst 0, 1) := by decide +kernel
theorem dX11_pack_2 : decode mX11_pack.2.1 2 = .ok (.putfield 1, 3) := by decide +kernel
theorem dX11_pack_5 : decode mX11_pack.2.1 5 = .ok (.aload_n 0, 1) := by decide +kernel
theorem dX11_pack_6 : decode mX11_pack.2.1 6 = .ok (.iload_n 1, 1) := by decide +kernel
theorem dX11_pack_7 : decode mX11_pack.2.1 7 = .ok (.invokevirtual 156, 3) := by decide +kernel
theorem dX11_pack_10 : decode mX11_pack.2.1 10 = .ok (.ifCond .eq 45, 3) := by decide +kernel
theorem dX11_pack_13 : decode mX11_pack.2.1 13 = .ok (.aload_n 0, 1) := by decide +kernel
theorem dX11_pack_14 : decode mX11_pack.2.1 14 = .ok (.iload_n 2, 1) := by decide +kernel
theorem dX11_pack_15 : decode mX11_pack.2.1 15 = .ok (.invokevirtual 156, 3) := by decide +kernel
theorem dX11_pack_18 : decode mX11_pack.2.1 18 = .ok (.ifCond .eq 37, 3) := by decide +kernel
theorem dX11_pack_21 : decode mX11_pack.2.1 21 = .ok (.iload_n 1, 1) := by decide +kernel
theorem dX11_pack_22 : decode mX11_pack.2.1 22 = .ok (.iload_n 2, 1) := by decide +kernel
theorem dX11_pack_23 : decode mX11_pack.2.1 23 = .ok (.if_icmp .eq 32, 3) := by decide +kernel
theorem dX11_pack_26 : decode mX11_pack.2.1 26 = .ok (.iload_n 3, 1) := by decide +kernel
theorem dX11_pack_27 : decode mX11_pack.2.1 27 = .ok (.iconst 0, 1) := by decide +kernel
theorem dX11_pack_28 : decode mX11_pack.2.1 28 = .ok (.iconst 3, 1) := by decide +kernel
theorem dX11_pack_29 : decode mX11_pack.2.1 29 = .ok (.invokestatic 139, 3) := by decide +kernel
theorem dX11_pack_32 : decode mX11_pack.2.1 32 = .ok (.ifCond .eq 23, 3) := by decide +kernel
theorem dX11_pack_35 : decode mX11_pack.2.1 35 = .ok (.iload 4, 2) := by decide +kernel
theorem dX11_pack_37 : decode mX11_pack.2.1 37 = .ok (.iconst 1, 1) := by decide +kernel
theorem dX11_pack_38 : decode mX11_pack.2.1 38 = .ok (.bipush 60, 2) := by decide +kernel
theorem dX11_pack_40 : decode mX11_pack.2.1 40 = .ok (.invokestatic 139, 3) := by decide +kernel
theorem dX11_pack_43 : decode mX11_pack.2.1 43 = .ok (.ifCond .eq 12, 3) := by decide +kernel
theorem dX11_pack_46 : decode mX11_pack.2.1 46 = .ok (.aload_n 0, 1) := by decide +kernel
theorem dX11_pack_47 : decode mX11_pack.2.1 47 = .ok (.getfield 165, 3) := by decide +kernel
theorem dX11_pack_50 : decode mX11_pack.2.1 50 = .ok (.bipush 100, 2) := by decide +kernel
theorem dX11_pack_52 : decode mX11_pack.2.1 52 = .ok (.if_icmp .ne 5, 3) := by decide +kernel
theorem dX11_pack_55 : decode mX11_pack.2.1 55 = .ok (.iconst (-1), 1) := by decide +kernel
theorem dX11_pack_56 : decode mX11_pack.2.1 56 = .ok (.ireturn, 1) := by decide +kernel
theorem dX11_pack_57 : decode mX11_pack.2.1 57 = .ok (.aload_n 0, 1) := by decide +kernel
theorem dX11_pack_58 : decode mX11_pack.2.1 58 = .ok (.getfield 60, 3) := by decide +kernel
theorem dX11_pack_61 : decode mX11_pack.2.1 61 = .ok (.aload_n 0, 1) := by decide +kernel
theorem dX11_pack_62 : decode mX11_pack.2.1 62 = .ok (.getfield 165, 3) := by decide +kernel
theorem dX11_pack_65 : decode mX11_pack.2.1 65 = .ok (.iload_n 3, 1) := by decide +kernel
theorem dX11_pack_66 : decode mX11_pack.2.1 66 = .ok (.iastore, 1) := by decide +kernel
theorem dX11_pack_67 : decode mX11_pack.2.1 67 = .ok (.aload_n 0, 1) := by decide +kernel
theorem dX11_pack_68 : decode mX11_pack.2.1 68 = .ok (.getfield 63, 3) := by decide +kernel
theorem dX11_pack_71 : decode mX11_pack.2.1 71 = .ok (.aload_n 0, 1) := by decide +kernel
theorem dX11_pack_72 : decode mX11_pack.2.1 72 = .ok (.getfield 165, 3) := by decide +kernel
theorem dX11_pack_75 : decode mX11_pack.2.1 75 = .ok (.iload 4, 2) := by decide +kernel
theorem dX11_pack_77 : decode mX11_pack.2.1 77 = .ok (.iastore, 1) := by decide +kernel
theorem dX11_pack_78 : decode mX11_pack.2.1 78 = .ok (.aload_n 0, 1) := by decide +kernel
theorem dX11_pack_79 : decode mX11_pack.2.1 79 = .ok (.getfield 66, 3) := by decide +kernel
theorem dX11_pack_82 : decode mX11_pack.2.1 82 = .ok (.aload_n 0, 1) := by decide +kernel
theorem dX11_pack_83 : decode mX11_pack.2.1 83 = .ok (.getfield 165, 3) := by decide +kernel
theorem dX11_pack_86 : decode mX11_pack.2.1 86 = .ok (.iload_n 2, 1) := by decide +kernel
theorem dX11_pack_87 : decode mX11_pack.2.1 87 = .ok (.iastore, 1) := by decide +kernel
theorem dX11_pack_88 : decode mX11_pack.2.1 88 = .ok (.aload_n 0, 1) := by decide +kernel
theorem dX11_pack_89 : decode mX11_pack.2.1 89 = .ok (.getfield 69, 3) := by decide +kernel
theorem dX11_pack_92 : decode mX11_pack.2.1 92 = .ok (.aload_n 0, 1) := by decide +kernel
theorem dX11_pack_93 : decode mX11_pack.2.1 93 = .ok (.getfield 165, 3) := by decide +kernel
theorem dX11_pack_96 : decode mX11_pack.2.1 96 = .ok (.iconst 0, 1) := by decide +kernel
theorem dX11_pack_97 : decode mX11_pack.2.1 97 = .ok (.iastore, 1) := by decide +kernel
theorem dX11_pack_98 : decode mX11_pack.2.1 98 = .ok (.aload_n 0, 1) := by decide +kernel
theorem dX11_pack_99 : decode mX11_pack.2.1 99 = .ok (.getfield 72, 3) := by decide +kernel
theorem dX11_pack_102 : decode mX11_pack.2.1 102 = .ok (.aload_n 0, 1) := by decide +kernel
theorem dX11_pack_103 : decode mX11_pack.2.1 103 = .ok (.getfield 165, 3) := by decide +kernel
theorem dX11_pack_106 : decode mX11_pack.2.1 106 = .ok (.iload_n 1, 1) := by decide +kernel
theorem dX11_pack_107 : decode mX11_pack.2.1 107 = .ok (.iastore, 1) := by decide +kernel
theorem dX11_pack_108 : decode mX11_pack.2.1 108 = .ok (.aload_n 0, 1) := by decide +kernel
theorem dX11_pack_109 : decode mX11_pack.2.1 109 = .ok (.getfield 81, 3) := by decide +kernel
theorem dX11_pack_112 : decode mX11_pack.2.1 112 = .ok (.aload_n 0, 1) := by decide +kernel
theorem dX11_pack_113 : decode mX11_pack.2.1 113 = .ok (.getfield 165, 3) := by decide +kernel
theorem dX11_pack_116 : decode mX11_pack.2.1 116 = .ok (.aload_n 0, 1) := by decide +kernel
theorem dX11_pack_117 : decode mX11_pack.2.1 117 = .ok (.getfield 150, 3) := by decide +kernel
theorem dX11_pack_120 : decode mX11_pack.2.1 120 = .ok (.iastore, 1) := by decide +kernel
theorem dX11_pack_121 : decode mX11_pack.2.1 121 = .ok (.aload_n 0, 1) := by decide +kernel
theorem dX11_pack_122 : decode mX11_pack.2.1 122 = .ok (.getfield 87, 3) := by decide +kernel
theorem dX11_pack_125 : decode mX11_pack.2.1 125 = .ok (.aload_n 0, 1) := by decide +kernel
theorem dX11_pack_126 : decode mX11_pack.2.1 126 = .ok (.getfield 165, 3) := by decide +kernel
theorem dX11_pack_129 : decode mX11_pack.2.1 129 = .ok (.iconst 0, 1) := by decide +kernel
theorem dX11_pack_130 : decode mX11_pack.2.1 130 = .ok (.iastore, 1) := by decide +kernel
theorem dX11_pack_131 : decode mX11_pack.2.1 131 = .ok (.aload_n 0, 1) := by decide +kernel
theorem dX11_pack_132 : decode mX11_pack.2.1 132 = .ok (.aload_n 0, 1) := by decide +kernel
theorem dX11_pack_133 : decode mX11_pack.2.1 133 = .ok (.getfield 165, 3) := by decide +kernel
theorem dX11_pack_136 : decode mX11_pack.2.1 136 = .ok (.iload_n 1, 1) := by decide +kernel
theorem dX11_pack_137 : decode mX11_pack.2.1 137 = .ok (.invokevirtual 168, 3) := by decide +kernel
theorem dX11_pack_140 : decode mX11_pack.2.1 140 = .ok (.aload_n 0, 1) := by decide +kernel
theorem dX11_pack_141 : decode mX11_pack.2.1 141 = .ok (.dup, 1) := by decide +kernel
theorem dX11_pack_142 : decode mX11_pack.2.1 142 = .ok (.getfield 165, 3) := by decide +kernel
theorem dX11_pack_145 : decode mX11_pack.2.1 145 = .ok (.iconst 1, 1) := by decide +kernel
theorem dX11_pack_146 : decode mX11_pack.2.1 146 = .ok (.iadd, 1) := by decide +kernel
theorem dX11_pack_147 : decode mX11_pack.2.1 147 = .ok (.putfield 165, 3) := by decide +kernel
theorem dX11_pack_150 : decode mX11_pack.2.1 150 = .ok (.aload_n 0, 1) := by decide +kernel
theorem dX11_pack_151 : decode mX11_pack.2.1 151 = .ok (.getfield 165, 3) := by decide +kernel
theorem dX11_pack_154 : decode mX11_pack.2.1 154 = .ok (.iconst 1, 1) := by decide +kernel
theorem dX11_pack_155 : decode mX11_pack.2.1 155 = .ok (.isub, 1) := by decide +kernel
theorem dX11_pack_156 : decode mX11_pack.2.1 156 = .ok (.ireturn, 1) := by decide +kernel
theorem dX11_packsOn_0 : decode mX11_packsOn.2.1 0 = .ok (.iconst 0, 1) := by decide +kernel
theorem dX11_packsOn_1 : decode mX11_packsOn.2.1 1 = .ok (.istore_n 2, 1) := by decide +kernel
theorem dX11_packsOn_2 : decode mX11_packsOn.2.1 2 = .ok (.iconst 0, 1) := by decide +kernel
theorem dX11_packsOn_3 : decode mX11_packsOn.2.1 3 = .ok (.istore_n 3, 1) := by decide +kernel
theorem dX11_packsOn_4 : decode mX11_packsOn.2.1 4 = .ok (.iload_n 3, 1) := by decide +kernel
theorem dX11_packsOn_5 : decode mX11_packsOn.2.1 5 = .ok (.aload_n 0, 1) := by decide +kernel
theorem dX11_packsOn_6 : decode mX11_packsOn.2.1 6 = .ok (.getfield 165, 3) := by decide +kernel
theorem dX11_packsOn_9 : decode mX11_packsOn.2.1 9 = .ok (.if_icmp .ge 34, 3) := by decide +kernel
theorem dX11_packsOn_12 : decode mX11_packsOn.2.1 12 = .ok (.aload_n 0, 1) := by decide +kernel
theorem dX11_packsOn_13 : decode mX11_packsOn.2.1 13 = .ok (.getfield 69, 3) := by decide +kernel
theorem dX11_packsOn_16 : decode mX11_packsOn.2.1 16 = .ok (.iload_n 3, 1) := by decide +kernel
theorem dX11_packsOn_17 : decode mX11_packsOn.2.1 17 = .ok (.iaload, 1) := by decide +kernel
theorem dX11_packsOn_18 : decode mX11_packsOn.2.1 18 = .ok (.iconst 1, 1) := by decide +kernel
theorem dX11_packsOn_19 : decode mX11_packsOn.2.1 19 = .ok (.if_icmp .ne 18, 3) := by decide +kernel
theorem dX11_packsOn_22 : decode mX11_packsOn.2.1 22 = .ok (.aload_n 0, 1) := by decide +kernel
theorem dX11_packsOn_23 : decode mX11_packsOn.2.1 23 = .ok (.getfield 75, 3) := by decide +kernel
theorem dX11_packsOn_26 : decode mX11_packsOn.2.1 26 = .ok (.iload_n 3, 1) := by decide +kernel
theorem dX11_packsOn_27 : decode mX11_packsOn.2.1 27 = .ok (.iaload, 1) := by decide +kernel
theorem dX11_packsOn_28 : decode mX11_packsOn.2.1 28 = .ok (.iconst 3, 1) := by decide +kernel
theorem dX11_packsOn_29 : decode mX11_packsOn.2.1 29 = .ok (.idiv, 1) := by decide +kernel
theorem dX11_packsOn_30 : decode mX11_packsOn.2.1 30 = .ok (.iload_n 1, 1) := by decide +kernel
theorem dX11_packsOn_31 : decode mX11_packsOn.2.1 31 = .ok (.if_icmp .ne 6, 3) := by decide +kernel
theorem dX11_packsOn_34 : decode mX11_packsOn.2.1 34 = .ok (.iinc 2 1, 3) := by decide +kernel
theorem dX11_packsOn_37 : decode mX11_packsOn.2.1 37 = .ok (.iinc 3 1, 3) := by decide +kernel
theorem dX11_packsOn_40 : decode mX11_packsOn.2.1 40 = .ok (.goto (-36), 3) := by decide +kernel
theorem dX11_packsOn_43 : decode mX11_packsOn.2.1 43 = .ok (.iload_n 2, 1) := by decide +kernel
theorem dX11_packsOn_44 : decode mX11_packsOn.2.1 44 = .ok (.ireturn, 1) := by decide +kernel
theorem dX11_place_0 : decode mX11_place.2.1 0 = .ok (.aload_n 0, 1) := by decide +kernel
theorem dX11_place_1 : decode mX11_place.2.1 1 = .ok (.iconst 0, 1) := by decide +kernel
theorem dX11_place_2 : decode mX11_place.2.1 2 = .ok (.putfield 1, 3) := by decide +kernel
theorem dX11_place_5 : decode mX11_place.2.1 5 = .ok (.aload_n 0, 1) := by decide +kernel
theorem dX11_place_6 : decode mX11_place.2.1 6 = .ok (.getfield 112, 3) := by decide +kernel
theorem dX11_place_9 : decode mX11_place.2.1 9 = .ok (.ireturn, 1) := by decide +kernel
theorem dX11_rests_0 : decode mX11_rests.2.1 0 = .ok (.iconst 3, 1) := by decide +kernel
theorem dX11_rests_1 : decode mX11_rests.2.1 1 = .ok (.iload_n 1, 1) := by decide +kernel
theorem dX11_rests_2 : decode mX11_rests.2.1 2 = .ok (.imul, 1) := by decide +kernel
theorem dX11_rests_3 : decode mX11_rests.2.1 3 = .ok (.istore_n 2, 1) := by decide +kernel
theorem dX11_rests_4 : decode mX11_rests.2.1 4 = .ok (.iload_n 2, 1) := by decide +kernel
theorem dX11_rests_5 : decode mX11_rests.2.1 5 = .ok (.iconst 3, 1) := by decide +kernel
theorem dX11_rests_6 : decode mX11_rests.2.1 6 = .ok (.iload_n 1, 1) := by decide +kernel
theorem dX11_rests_7 : decode mX11_rests.2.1 7 = .ok (.imul, 1) := by decide +kernel
theorem dX11_rests_8 : decode mX11_rests.2.1 8 = .ok (.iconst 3, 1) := by decide +kernel
theorem dX11_rests_9 : decode mX11_rests.2.1 9 = .ok (.iadd, 1) := by decide +kernel
theorem dX11_rests_10 : decode mX11_rests.2.1 10 = .ok (.if_icmp .ge 43, 3) := by decide +kernel
theorem dX11_rests_13 : decode mX11_rests.2.1 13 = .ok (.aload_n 0, 1) := by decide +kernel
theorem dX11_rests_14 : decode mX11_rests.2.1 14 = .ok (.getfield 51, 3) := by decide +kernel
theorem dX11_rests_17 : decode mX11_rests.2.1 17 = .ok (.iload_n 2, 1) := by decide +kernel
theorem dX11_rests_18 : decode mX11_rests.2.1 18 = .ok (.iconst 0, 1) := by decide +kernel
theorem dX11_rests_19 : decode mX11_rests.2.1 19 = .ok (.aload_n 0, 1) := by decide +kernel
theorem dX11_rests_20 : decode mX11_rests.2.1 20 = .ok (.getfield 51, 3) := by decide +kernel
theorem dX11_rests_23 : decode mX11_rests.2.1 23 = .ok (.iload_n 2, 1) := by decide +kernel
theorem dX11_rests_24 : decode mX11_rests.2.1 24 = .ok (.iaload, 1) := by decide +kernel
theorem dX11_rests_25 : decode mX11_rests.2.1 25 = .ok (.iconst 5, 1) := by decide +kernel
theorem dX11_rests_26 : decode mX11_rests.2.1 26 = .ok (.isub, 1) := by decide +kernel
theorem dX11_rests_27 : decode mX11_rests.2.1 27 = .ok (.invokestatic 194, 3) := by decide +kernel
theorem dX11_rests_30 : decode mX11_rests.2.1 30 = .ok (.iastore, 1) := by decide +kernel
theorem dX11_rests_31 : decode mX11_rests.2.1 31 = .ok (.aload_n 0, 1) := by decide +kernel
theorem dX11_rests_32 : decode mX11_rests.2.1 32 = .ok (.getfield 51, 3) := by decide +kernel
theorem dX11_rests_35 : decode mX11_rests.2.1 35 = .ok (.iload_n 2, 1) := by decide +kernel
theorem dX11_rests_36 : decode mX11_rests.2.1 36 = .ok (.iaload, 1) := by decide +kernel
theorem dX11_rests_37 : decode mX11_rests.2.1 37 = .ok (.ifCond .ne 10, 3) := by decide +kernel
theorem dX11_rests_40 : decode mX11_rests.2.1 40 = .ok (.aload_n 0, 1) := by decide +kernel
theorem dX11_rests_41 : decode mX11_rests.2.1 41 = .ok (.getfield 54, 3) := by decide +kernel
theorem dX11_rests_44 : decode mX11_rests.2.1 44 = .ok (.iload_n 2, 1) := by decide +kernel
theorem dX11_rests_45 : decode mX11_rests.2.1 45 = .ok (.iconst 0, 1) := by decide +kernel
theorem dX11_rests_46 : decode mX11_rests.2.1 46 = .ok (.bastore, 1) := by decide +kernel
theorem dX11_rests_47 : decode mX11_rests.2.1 47 = .ok (.iinc 2 1, 3) := by decide +kernel
theorem dX11_rests_50 : decode mX11_rests.2.1 50 = .ok (.goto (-46), 3) := by decide +kernel
theorem dX11_rests_53 : decode mX11_rests.2.1 53 = .ok (.return_, 1) := by decide +kernel
theorem dX11_rule_0 : decode mX11_rule.2.1 0 = .ok (.aload_n 0, 1) := by decide +kernel
theorem dX11_rule_1 : decode mX11_rule.2.1 1 = .ok (.bipush 58, 2) := by decide +kernel
theorem dX11_rule_3 : decode mX11_rule.2.1 3 = .ok (.invokevirtual 295, 3) := by decide +kernel
theorem dX11_rule_6 : decode mX11_rule.2.1 6 = .ok (.ifCond .ne 17, 3) := by decide +kernel
theorem dX11_rule_9 : decode mX11_rule.2.1 9 = .ok (.aload_n 0, 1) := by decide +kernel
theorem dX11_rule_10 : decode mX11_rule.2.1 10 = .ok (.invokevirtual 286, 3) := by decide +kernel
theorem dX11_rule_13 : decode mX11_rule.2.1 13 = .ok (.iconst (-1), 1) := by decide +kernel
theorem dX11_rule_14 : decode mX11_rule.2.1 14 = .ok (.if_icmp .ne 9, 3) := by decide +kernel
theorem dX11_rule_17 : decode mX11_rule.2.1 17 = .ok (.aload_n 0, 1) := by decide +kernel
theorem dX11_rule_18 : decode mX11_rule.2.1 18 = .ok (.iconst 1, 1) := by decide +kernel
theorem dX11_rule_19 : decode mX11_rule.2.1 19 = .ok (.invokevirtual 289, 3) := by decide +kernel
theorem dX11_rule_22 : decode mX11_rule.2.1 22 = .ok (.return_, 1) := by decide +kernel
theorem dX11_rule_23 : decode mX11_rule.2.1 23 = .ok (.aload_n 0, 1) := by decide +kernel
theorem dX11_rule_24 : decode mX11_rule.2.1 24 = .ok (.getfield 118, 3) := by decide +kernel
theorem dX11_rule_27 : decode mX11_rule.2.1 27 = .ok (.bipush 10, 2) := by decide +kernel
theorem dX11_rule_29 : decode mX11_rule.2.1 29 = .ok (.iaload, 1) := by decide +kernel
theorem dX11_rule_30 : decode mX11_rule.2.1 30 = .ok (.bipush 20, 2) := by decide +kernel
theorem dX11_rule_32 : decode mX11_rule.2.1 32 = .ok (.if_icmp .ne 9, 3) := by decide +kernel
theorem dX11_rule_35 : decode mX11_rule.2.1 35 = .ok (.aload_n 0, 1) := by decide +kernel
theorem dX11_rule_36 : decode mX11_rule.2.1 36 = .ok (.iconst 2, 1) := by decide +kernel
theorem dX11_rule_37 : decode mX11_rule.2.1 37 = .ok (.invokevirtual 289, 3) := by decide +kernel
theorem dX11_rule_40 : decode mX11_rule.2.1 40 = .ok (.return_, 1) := by decide +kernel
theorem dX11_rule_41 : decode mX11_rule.2.1 41 = .ok (.sipush 200, 3) := by decide +kernel
theorem dX11_rule_44 : decode mX11_rule.2.1 44 = .ok (.aload_n 0, 1) := by decide +kernel
theorem dX11_rule_45 : decode mX11_rule.2.1 45 = .ok (.getfield 118, 3) := by decide +kernel
theorem dX11_rule_48 : decode mX11_rule.2.1 48 = .ok (.bipush 10, 2) := by decide +kernel
theorem dX11_rule_50 : decode mX11_rule.2.1 50 = .ok (.iaload, 1) := by decide +kernel
theorem dX11_rule_51 : decode mX11_rule.2.1 51 = .ok (.iadd, 1) := by decide +kernel
theorem dX11_rule_52 : decode mX11_rule.2.1 52 = .ok (.istore_n 1, 1) := by decide +kernel
theorem dX11_rule_53 : decode mX11_rule.2.1 53 = .ok (.aload_n 0, 1) := by decide +kernel
theorem dX11_rule_54 : decode mX11_rule.2.1 54 = .ok (.getfield 118, 3) := by decide +kernel
theorem dX11_rule_57 : decode mX11_rule.2.1 57 = .ok (.bipush 10, 2) := by decide +kernel
theorem dX11_rule_59 : decode mX11_rule.2.1 59 = .ok (.dup2, 1) := by decide +kernel
theorem dX11_rule_60 : decode mX11_rule.2.1 60 = .ok (.iaload, 1) := by decide +kernel
theorem dX11_rule_61 : decode mX11_rule.2.1 61 = .ok (.iconst 1, 1) := by decide +kernel
theorem dX11_rule_62 : decode mX11_rule.2.1 62 = .ok (.iadd, 1) := by decide +kernel
theorem dX11_rule_63 : decode mX11_rule.2.1 63 = .ok (.iastore, 1) := by decide +kernel
theorem dX11_rule_64 : decode mX11_rule.2.1 64 = .ok (.aload_n 0, 1) := by decide +kernel
theorem dX11_rule_65 : decode mX11_rule.2.1 65 = .ok (.getfield 121, 3) := by decide +kernel
theorem dX11_rule_68 : decode mX11_rule.2.1 68 = .ok (.iload_n 1, 1) := by decide +kernel
theorem dX11_rule_69 : decode mX11_rule.2.1 69 = .ok (.iconst 0, 1) := by decide +kernel
theorem dX11_rule_70 : decode mX11_rule.2.1 70 = .ok (.iastore, 1) := by decide +kernel
theorem dX11_rule_71 : decode mX11_rule.2.1 71 = .ok (.aload_n 0, 1) := by decide +kernel
theorem dX11_rule_72 : decode mX11_rule.2.1 72 = .ok (.bipush 58, 2) := by decide +kernel
theorem dX11_rule_74 : decode mX11_rule.2.1 74 = .ok (.invokevirtual 295, 3) := by decide +kernel
theorem dX11_rule_77 : decode mX11_rule.2.1 77 = .ok (.ifCond .ne 7, 3) := by decide +kernel
theorem dX11_rule_80 : decode mX11_rule.2.1 80 = .ok (.iconst 1, 1) := by decide +kernel
theorem dX11_rule_81 : decode mX11_rule.2.1 81 = .ok (.goto 4, 3) := by decide +kernel
theorem dX11_rule_84 : decode mX11_rule.2.1 84 = .ok (.iconst 0, 1) := by decide +kernel
theorem dX11_rule_85 : decode mX11_rule.2.1 85 = .ok (.istore_n 2, 1) := by decide +kernel
theorem dX11_rule_86 : decode mX11_rule.2.1 86 = .ok (.iload_n 2, 1) := by decide +kernel
theorem dX11_rule_87 : decode mX11_rule.2.1 87 = .ok (.ifCond .eq 42, 3) := by decide +kernel
theorem dX11_rule_90 : decode mX11_rule.2.1 90 = .ok (.aload_n 0, 1) := by decide +kernel
theorem dX11_rule_91 : decode mX11_rule.2.1 91 = .ok (.iload_n 1, 1) := by decide +kernel
theorem dX11_rule_92 : decode mX11_rule.2.1 92 = .ok (.invokevirtual 305, 3) := by decide +kernel
theorem dX11_rule_95 : decode mX11_rule.2.1 95 = .ok (.aload_n 0, 1) := by decide +kernel
theorem dX11_rule_96 : decode mX11_rule.2.1 96 = .ok (.invokevirtual 301, 3) := by decide +kernel
theorem dX11_rule_99 : decode mX11_rule.2.1 99 = .ok (.ifCond .eq 17, 3) := by decide +kernel
theorem dX11_rule_102 : decode mX11_rule.2.1 102 = .ok (.aload_n 0, 1) := by decide +kernel
theorem dX11_rule_103 : decode mX11_rule.2.1 103 = .ok (.ldc_w 308, 3) := by decide +kernel
theorem dX11_rule_106 : decode mX11_rule.2.1 106 = .ok (.invokevirtual 272, 3) := by decide +kernel
theorem dX11_rule_109 : decode mX11_rule.2.1 109 = .ok (.ifCond .eq 7, 3) := by decide +kernel
theorem dX11_rule_112 : decode mX11_rule.2.1 112 = .ok (.iconst 1, 1) := by decide +kernel
theorem dX11_rule_113 : decode mX11_rule.2.1 113 = .ok (.goto 4, 3) := by decide +kernel
theorem dX11_rule_116 : decode mX11_rule.2.1 116 = .ok (.iconst 0, 1) := by decide +kernel
theorem dX11_rule_117 : decode mX11_rule.2.1 117 = .ok (.istore_n 2, 1) := by decide +kernel
theorem dX11_rule_118 : decode mX11_rule.2.1 118 = .ok (.iload_n 2, 1) := by decide +kernel
theorem dX11_rule_119 : decode mX11_rule.2.1 119 = .ok (.ifCond .eq (-33), 3) := by decide +kernel
theorem dX11_rule_122 : decode mX11_rule.2.1 122 = .ok (.aload_n 0, 1) := by decide +kernel
theorem dX11_rule_123 : decode mX11_rule.2.1 123 = .ok (.invokevirtual 292, 3) := by decide +kernel
theorem dX11_rule_126 : decode mX11_rule.2.1 126 = .ok (.goto (-40), 3) := by decide +kernel
theorem dX11_rule_129 : decode mX11_rule.2.1 129 = .ok (.aload_n 0, 1) := by decide +kernel
theorem dX11_rule_130 : decode mX11_rule.2.1 130 = .ok (.bipush 58, 2) := by decide +kernel
theorem dX11_rule_132 : decode mX11_rule.2.1 132 = .ok (.invokevirtual 310, 3) := by decide +kernel
theorem dX11_rule_135 : decode mX11_rule.2.1 135 = .ok (.aload_n 0, 1) := by decide +kernel
theorem dX11_rule_136 : decode mX11_rule.2.1 136 = .ok (.invokevirtual 301, 3) := by decide +kernel
theorem dX11_rule_139 : decode mX11_rule.2.1 139 = .ok (.ifCond .eq 16, 3) := by decide +kernel
theorem dX11_rule_142 : decode mX11_rule.2.1 142 = .ok (.aload_n 0, 1) := by decide +kernel
theorem dX11_rule_143 : decode mX11_rule.2.1 143 = .ok (.bipush 45, 2) := by decide +kernel
theorem dX11_rule_145 : decode mX11_rule.2.1 145 = .ok (.invokevirtual 295, 3) := by decide +kernel
theorem dX11_rule_148 : decode mX11_rule.2.1 148 = .ok (.ifCond .eq 7, 3) := by decide +kernel
theorem dX11_rule_151 : decode mX11_rule.2.1 151 = .ok (.iconst 1, 1) := by decide +kernel
theorem dX11_rule_152 : decode mX11_rule.2.1 152 = .ok (.goto 4, 3) := by decide +kernel
theorem dX11_rule_155 : decode mX11_rule.2.1 155 = .ok (.iconst 0, 1) := by decide +kernel
theorem dX11_rule_156 : decode mX11_rule.2.1 156 = .ok (.istore_n 3, 1) := by decide +kernel
theorem dX11_rule_157 : decode mX11_rule.2.1 157 = .ok (.iload_n 3, 1) := by decide +kernel
theorem dX11_rule_158 : decode mX11_rule.2.1 158 = .ok (.ifCond .eq 7, 3) := by decide +kernel
theorem dX11_rule_161 : decode mX11_rule.2.1 161 = .ok (.aload_n 0, 1) := by decide +kernel
theorem dX11_rule_162 : decode mX11_rule.2.1 162 = .ok (.invokevirtual 292, 3) := by decide +kernel
theorem dX11_rule_165 : decode mX11_rule.2.1 165 = .ok (.aload_n 0, 1) := by decide +kernel
theorem dX11_rule_166 : decode mX11_rule.2.1 166 = .ok (.invokevirtual 298, 3) := by decide +kernel
theorem dX11_rule_169 : decode mX11_rule.2.1 169 = .ok (.istore 4, 2) := by decide +kernel
theorem dX11_rule_171 : decode mX11_rule.2.1 171 = .ok (.aload_n 0, 1) := by decide +kernel
theorem dX11_rule_172 : decode mX11_rule.2.1 172 = .ok (.getfield 124, 3) := by decide +kernel
theorem dX11_rule_175 : decode mX11_rule.2.1 175 = .ok (.iload_n 1, 1) := by decide +kernel
theorem dX11_rule_176 : decode mX11_rule.2.1 176 = .ok (.iload_n 3, 1) := by decide +kernel
theorem dX11_rule_177 : decode mX11_rule.2.1 177 = .ok (.ifCond .eq 9, 3) := by decide +kernel
theorem dX11_rule_180 : decode mX11_rule.2.1 180 = .ok (.iload 4, 2) := by decide +kernel
theorem dX11_rule_182 : decode mX11_rule.2.1 182 = .ok (.ineg, 1) := by decide +kernel
theorem dX11_rule_183 : decode mX11_rule.2.1 183 = .ok (.goto 5, 3) := by decide +kernel
theorem dX11_rule_186 : decode mX11_rule.2.1 186 = .ok (.iload 4, 2) := by decide +kernel
theorem dX11_rule_188 : decode mX11_rule.2.1 188 = .ok (.iastore, 1) := by decide +kernel
theorem dX11_rule_189 : decode mX11_rule.2.1 189 = .ok (.aload_n 0, 1) := by decide +kernel
theorem dX11_rule_190 : decode mX11_rule.2.1 190 = .ok (.bipush 59, 2) := by decide +kernel
theorem dX11_rule_192 : decode mX11_rule.2.1 192 = .ok (.invokevirtual 310, 3) := by decide +kernel
theorem dX11_rule_195 : decode mX11_rule.2.1 195 = .ok (.return_, 1) := by decide +kernel
theorem dX11_see_0 : decode mX11_see.2.1 0 = .ok (.iload_n 1, 1) := by decide +kernel
theorem dX11_see_1 : decode mX11_see.2.1 1 = .ok (.aload_n 0, 1) := by decide +kernel
theorem dX11_see_2 : decode mX11_see.2.1 2 = .ok (.getfield 230, 3) := by decide +kernel
theorem dX11_see_5 : decode mX11_see.2.1 5 = .ok (.if_icmp .ge 12, 3) := by decide +kernel
theorem dX11_see_8 : decode mX11_see.2.1 8 = .ok (.aload_n 0, 1) := by decide +kernel
theorem dX11_see_9 : decode mX11_see.2.1 9 = .ok (.getfield 108, 3) := by decide +kernel
theorem dX11_see_12 : decode mX11_see.2.1 12 = .ok (.iload_n 1, 1) := by decide +kernel
theorem dX11_see_13 : decode mX11_see.2.1 13 = .ok (.baload, 1) := by decide +kernel
theorem dX11_see_14 : decode mX11_see.2.1 14 = .ok (.goto 4, 3) := by decide +kernel
theorem dX11_see_17 : decode mX11_see.2.1 17 = .ok (.iconst 0, 1) := by decide +kernel
theorem dX11_see_18 : decode mX11_see.2.1 18 = .ok (.ireturn, 1) := by decide +kernel
theorem dX11_shut_0 : decode mX11_shut.2.1 0 = .ok (.aload_n 0, 1) := by decide +kernel
theorem dX11_shut_1 : decode mX11_shut.2.1 1 = .ok (.iconst 0, 1) := by decide +kernel
theorem dX11_shut_2 : decode mX11_shut.2.1 2 = .ok (.putfield 1, 3) := by decide +kernel
theorem dX11_shut_5 : decode mX11_shut.2.1 5 = .ok (.aload_n 0, 1) := by decide +kernel
theorem dX11_shut_6 : decode mX11_shut.2.1 6 = .ok (.iload_n 1, 1) := by decide +kernel
theorem dX11_shut_7 : decode mX11_shut.2.1 7 = .ok (.invokevirtual 143, 3) := by decide +kernel
theorem dX11_shut_10 : decode mX11_shut.2.1 10 = .ok (.ifCond .eq 26, 3) := by decide +kernel
theorem dX11_shut_13 : decode mX11_shut.2.1 13 = .ok (.iload_n 2, 1) := by decide +kernel
theorem dX11_shut_14 : decode mX11_shut.2.1 14 = .ok (.iconst 0, 1) := by decide +kernel
theorem dX11_shut_15 : decode mX11_shut.2.1 15 = .ok (.sipush 9999, 3) := by decide +kernel
theorem dX11_shut_18 : decode mX11_shut.2.1 18 = .ok (.invokestatic 139, 3) := by decide +kernel
theorem dX11_shut_21 : decode mX11_shut.2.1 21 = .ok (.ifCond .eq 15, 3) := by decide +kernel
theorem dX11_shut_24 : decode mX11_shut.2.1 24 = .ok (.iload_n 3, 1) := by decide +kernel
theorem dX11_shut_25 : decode mX11_shut.2.1 25 = .ok (.iconst 0, 1) := by decide +kernel
theorem dX11_shut_26 : decode mX11_shut.2.1 26 = .ok (.aload_n 0, 1) := by decide +kernel
theorem dX11_shut_27 : decode mX11_shut.2.1 27 = .ok (.getfield 150, 3) := by decide +kernel
theorem dX11_shut_30 : decode mX11_shut.2.1 30 = .ok (.invokestatic 139, 3) := by decide +kernel
theorem dX11_shut_33 : decode mX11_shut.2.1 33 = .ok (.ifCond .ne 5, 3) := by decide +kernel
theorem dX11_shut_36 : decode mX11_shut.2.1 36 = .ok (.iconst (-1), 1) := by decide +kernel
theorem dX11_shut_37 : decode mX11_shut.2.1 37 = .ok (.ireturn, 1) := by decide +kernel
theorem dX11_shut_38 : decode mX11_shut.2.1 38 = .ok (.aload_n 0, 1) := by decide +kernel
theorem dX11_shut_39 : decode mX11_shut.2.1 39 = .ok (.iload_n 1, 1) := by decide +kernel
theorem dX11_shut_40 : decode mX11_shut.2.1 40 = .ok (.iload_n 2, 1) := by decide +kernel
theorem dX11_shut_41 : decode mX11_shut.2.1 41 = .ok (.iload_n 3, 1) := by decide +kernel
theorem dX11_shut_42 : decode mX11_shut.2.1 42 = .ok (.invokevirtual 153, 3) := by decide +kernel
theorem dX11_shut_45 : decode mX11_shut.2.1 45 = .ok (.ifCond .eq 7, 3) := by decide +kernel
theorem dX11_shut_48 : decode mX11_shut.2.1 48 = .ok (.iconst 1, 1) := by decide +kernel
theorem dX11_shut_49 : decode mX11_shut.2.1 49 = .ok (.goto 4, 3) := by decide +kernel
theorem dX11_shut_52 : decode mX11_shut.2.1 52 = .ok (.iconst 0, 1) := by decide +kernel
theorem dX11_shut_53 : decode mX11_shut.2.1 53 = .ok (.ireturn, 1) := by decide +kernel
theorem dX11_snow_0 : decode mX11_snow.2.1 0 = .ok (.aload_n 0, 1) := by decide +kernel
theorem dX11_snow_1 : decode mX11_snow.2.1 1 = .ok (.iconst 0, 1) := by decide +kernel
theorem dX11_snow_2 : decode mX11_snow.2.1 2 = .ok (.putfield 1, 3) := by decide +kernel
theorem dX11_snow_5 : decode mX11_snow.2.1 5 = .ok (.aload_n 0, 1) := by decide +kernel
theorem dX11_snow_6 : decode mX11_snow.2.1 6 = .ok (.iload_n 1, 1) := by decide +kernel
theorem dX11_snow_7 : decode mX11_snow.2.1 7 = .ok (.invokevirtual 143, 3) := by decide +kernel
theorem dX11_snow_10 : decode mX11_snow.2.1 10 = .ok (.ifCond .eq 34, 3) := by decide +kernel
theorem dX11_snow_13 : decode mX11_snow.2.1 13 = .ok (.iload_n 2, 1) := by decide +kernel
theorem dX11_snow_14 : decode mX11_snow.2.1 14 = .ok (.iconst 0, 1) := by decide +kernel
theorem dX11_snow_15 : decode mX11_snow.2.1 15 = .ok (.sipush 9999, 3) := by decide +kernel
theorem dX11_snow_18 : decode mX11_snow.2.1 18 = .ok (.invokestatic 139, 3) := by decide +kernel
theorem dX11_snow_21 : decode mX11_snow.2.1 21 = .ok (.ifCond .eq 23, 3) := by decide +kernel
theorem dX11_snow_24 : decode mX11_snow.2.1 24 = .ok (.iload_n 3, 1) := by decide +kernel
theorem dX11_snow_25 : decode mX11_snow.2.1 25 = .ok (.iload_n 2, 1) := by decide +kernel
theorem dX11_snow_26 : decode mX11_snow.2.1 26 = .ok (.sipush 9999, 3) := by decide +kernel
theorem dX11_snow_29 : decode mX11_snow.2.1 29 = .ok (.invokestatic 139, 3) := by decide +kernel
theorem dX11_snow_32 : decode mX11_snow.2.1 32 = .ok (.ifCond .eq 12, 3) := by decide +kernel
theorem dX11_snow_35 : decode mX11_snow.2.1 35 = .ok (.aload_n 0, 1) := by decide +kernel
theorem dX11_snow_36 : decode mX11_snow.2.1 36 = .ok (.getfield 147, 3) := by decide +kernel
theorem dX11_snow_39 : decode mX11_snow.2.1 39 = .ok (.bipush 60, 2) := by decide +kernel
theorem dX11_snow_41 : decode mX11_snow.2.1 41 = .ok (.if_icmp .ne 5, 3) := by decide +kernel
theorem dX11_snow_44 : decode mX11_snow.2.1 44 = .ok (.iconst (-1), 1) := by decide +kernel
theorem dX11_snow_45 : decode mX11_snow.2.1 45 = .ok (.ireturn, 1) := by decide +kernel
theorem dX11_snow_46 : decode mX11_snow.2.1 46 = .ok (.aload_n 0, 1) := by decide +kernel
theorem dX11_snow_47 : decode mX11_snow.2.1 47 = .ok (.getfield 24, 3) := by decide +kernel
theorem dX11_snow_50 : decode mX11_snow.2.1 50 = .ok (.aload_n 0, 1) := by decide +kernel
theorem dX11_snow_51 : decode mX11_snow.2.1 51 = .ok (.getfield 147, 3) := by decide +kernel
theorem dX11_snow_54 : decode mX11_snow.2.1 54 = .ok (.iload_n 1, 1) := by decide +kernel
theorem dX11_snow_55 : decode mX11_snow.2.1 55 = .ok (.iastore, 1) := by decide +kernel
theorem dX11_snow_56 : decode mX11_snow.2.1 56 = .ok (.aload_n 0, 1) := by decide +kernel
theorem dX11_snow_57 : decode mX11_snow.2.1 57 = .ok (.getfield 27, 3) := by decide +kernel
theorem dX11_snow_60 : decode mX11_snow.2.1 60 = .ok (.aload_n 0, 1) := by decide +kernel
theorem dX11_snow_61 : decode mX11_snow.2.1 61 = .ok (.getfield 147, 3) := by decide +kernel
theorem dX11_snow_64 : decode mX11_snow.2.1 64 = .ok (.iload_n 2, 1) := by decide +kernel
theorem dX11_snow_65 : decode mX11_snow.2.1 65 = .ok (.iastore, 1) := by decide +kernel
theorem dX11_snow_66 : decode mX11_snow.2.1 66 = .ok (.aload_n 0, 1) := by decide +kernel
theorem dX11_snow_67 : decode mX11_snow.2.1 67 = .ok (.getfield 30, 3) := by decide +kernel
theorem dX11_snow_70 : decode mX11_snow.2.1 70 = .ok (.aload_n 0, 1) := by decide +kernel
theorem dX11_snow_71 : decode mX11_snow.2.1 71 = .ok (.getfield 147, 3) := by decide +kernel
theorem dX11_snow_74 : decode mX11_snow.2.1 74 = .ok (.iload_n 3, 1) := by decide +kernel
theorem dX11_snow_75 : decode mX11_snow.2.1 75 = .ok (.iastore, 1) := by decide +kernel
theorem dX11_snow_76 : decode mX11_snow.2.1 76 = .ok (.aload_n 0, 1) := by decide +kernel
theorem dX11_snow_77 : decode mX11_snow.2.1 77 = .ok (.getfield 33, 3) := by decide +kernel
theorem dX11_snow_80 : decode mX11_snow.2.1 80 = .ok (.aload_n 0, 1) := by decide +kernel
theorem dX11_snow_81 : decode mX11_snow.2.1 81 = .ok (.getfield 147, 3) := by decide +kernel
theorem dX11_snow_84 : decode mX11_snow.2.1 84 = .ok (.aload_n 0, 1) := by decide +kernel
theorem dX11_snow_85 : decode mX11_snow.2.1 85 = .ok (.getfield 150, 3) := by decide +kernel
theorem dX11_snow_88 : decode mX11_snow.2.1 88 = .ok (.iastore, 1) := by decide +kernel
theorem dX11_snow_89 : decode mX11_snow.2.1 89 = .ok (.aload_n 0, 1) := by decide +kernel
theorem dX11_snow_90 : decode mX11_snow.2.1 90 = .ok (.dup, 1) := by decide +kernel
theorem dX11_snow_91 : decode mX11_snow.2.1 91 = .ok (.getfield 147, 3) := by decide +kernel
theorem dX11_snow_94 : decode mX11_snow.2.1 94 = .ok (.iconst 1, 1) := by decide +kernel
theorem dX11_snow_95 : decode mX11_snow.2.1 95 = .ok (.iadd, 1) := by decide +kernel
theorem dX11_snow_96 : decode mX11_snow.2.1 96 = .ok (.putfield 147, 3) := by decide +kernel
theorem dX11_snow_99 : decode mX11_snow.2.1 99 = .ok (.aload_n 0, 1) := by decide +kernel
theorem dX11_snow_100 : decode mX11_snow.2.1 100 = .ok (.getfield 147, 3) := by decide +kernel
theorem dX11_snow_103 : decode mX11_snow.2.1 103 = .ok (.iconst 1, 1) := by decide +kernel
theorem dX11_snow_104 : decode mX11_snow.2.1 104 = .ok (.isub, 1) := by decide +kernel
theorem dX11_snow_105 : decode mX11_snow.2.1 105 = .ok (.ireturn, 1) := by decide +kernel
theorem dX11_string_0 : decode mX11_string.2.1 0 = .ok (.aload_n 0, 1) := by decide +kernel
theorem dX11_string_1 : decode mX11_string.2.1 1 = .ok (.iconst 0, 1) := by decide +kernel
theorem dX11_string_2 : decode mX11_string.2.1 2 = .ok (.putfield 1, 3) := by decide +kernel
theorem dX11_string_5 : decode mX11_string.2.1 5 = .ok (.aload_n 0, 1) := by decide +kernel
theorem dX11_string_6 : decode mX11_string.2.1 6 = .ok (.iload_n 1, 1) := by decide +kernel
theorem dX11_string_7 : decode mX11_string.2.1 7 = .ok (.invokevirtual 156, 3) := by decide +kernel
theorem dX11_string_10 : decode mX11_string.2.1 10 = .ok (.ifCond .eq 45, 3) := by decide +kernel
theorem dX11_string_13 : decode mX11_string.2.1 13 = .ok (.iload_n 2, 1) := by decide +kernel
theorem dX11_string_14 : decode mX11_string.2.1 14 = .ok (.bipush 20, 2) := by decide +kernel
theorem dX11_string_16 : decode mX11_string.2.1 16 = .ok (.bipush 120, 2) := by decide +kernel
theorem dX11_string_18 : decode mX11_string.2.1 18 = .ok (.invokestatic 139, 3) := by decide +kernel
theorem dX11_string_21 : decode mX11_string.2.1 21 = .ok (.ifCond .eq 34, 3) := by decide +kernel
theorem dX11_string_24 : decode mX11_string.2.1 24 = .ok (.iload_n 3, 1) := by decide +kernel
theorem dX11_string_25 : decode mX11_string.2.1 25 = .ok (.bipush 20, 2) := by decide +kernel
theorem dX11_string_27 : decode mX11_string.2.1 27 = .ok (.bipush 120, 2) := by decide +kernel
theorem dX11_string_29 : decode mX11_string.2.1 29 = .ok (.invokestatic 139, 3) := by decide +kernel
theorem dX11_string_32 : decode mX11_string.2.1 32 = .ok (.ifCond .eq 23, 3) := by decide +kernel
theorem dX11_string_35 : decode mX11_string.2.1 35 = .ok (.iload 4, 2) := by decide +kernel
theorem dX11_string_37 : decode mX11_string.2.1 37 = .ok (.bipush 20, 2) := by decide +kernel
theorem dX11_string_39 : decode mX11_string.2.1 39 = .ok (.bipush 120, 2) := by decide +kernel
theorem dX11_string_41 : decode mX11_string.2.1 41 = .ok (.invokestatic 139, 3) := by decide +kernel
theorem dX11_string_44 : decode mX11_string.2.1 44 = .ok (.ifCond .eq 11, 3) := by decide +kernel
theorem dX11_string_47 : decode mX11_string.2.1 47 = .ok (.aload_n 0, 1) := by decide +kernel
theorem dX11_string_48 : decode mX11_string.2.1 48 = .ok (.getfield 159, 3) := by decide +kernel
theorem dX11_string_51 : decode mX11_string.2.1 51 = .ok (.iconst 4, 1) := by decide +kernel
theorem dX11_string_52 : decode mX11_string.2.1 52 = .ok (.if_icmp .ne 5, 3) := by decide +kernel
theorem dX11_string_55 : decode mX11_string.2.1 55 = .ok (.iconst (-1), 1) := by decide +kernel
theorem dX11_string_56 : decode mX11_string.2.1 56 = .ok (.ireturn, 1) := by decide +kernel
theorem dX11_string_57 : decode mX11_string.2.1 57 = .ok (.aload_n 0, 1) := by decide +kernel
theorem dX11_string_58 : decode mX11_string.2.1 58 = .ok (.getfield 36, 3) := by decide +kernel
theorem dX11_string_61 : decode mX11_string.2.1 61 = .ok (.aload_n 0, 1) := by decide +kernel
theorem dX11_string_62 : decode mX11_string.2.1 62 = .ok (.getfield 159, 3) := by decide +kernel
theorem dX11_string_65 : decode mX11_string.2.1 65 = .ok (.iload_n 1, 1) := by decide +kernel
theorem dX11_string_66 : decode mX11_string.2.1 66 = .ok (.iastore, 1) := by decide +kernel
theorem dX11_string_67 : decode mX11_string.2.1 67 = .ok (.aload_n 0, 1) := by decide +kernel
theorem dX11_string_68 : decode mX11_string.2.1 68 = .ok (.getfield 39, 3) := by decide +kernel
theorem dX11_string_71 : decode mX11_string.2.1 71 = .ok (.aload_n 0, 1) := by decide +kernel
theorem dX11_string_72 : decode mX11_string.2.1 72 = .ok (.getfield 159, 3) := by decide +kernel
theorem dX11_string_75 : decode mX11_string.2.1 75 = .ok (.iconst (-1), 1) := by decide +kernel
theorem dX11_string_76 : decode mX11_string.2.1 76 = .ok (.iastore, 1) := by decide +kernel
theorem dX11_string_77 : decode mX11_string.2.1 77 = .ok (.iconst 0, 1) := by decide +kernel
theorem dX11_string_78 : decode mX11_string.2.1 78 = .ok (.istore 5, 2) := by decide +kernel
theorem dX11_string_80 : decode mX11_string.2.1 80 = .ok (.iload 5, 2) := by decide +kernel
theorem dX11_string_82 : decode mX11_string.2.1 82 = .ok (.iconst 3, 1) := by decide +kernel
theorem dX11_string_83 : decode mX11_string.2.1 83 = .ok (.if_icmp .ge 72, 3) := by decide +kernel
theorem dX11_string_86 : decode mX11_string.2.1 86 = .ok (.iconst 3, 1) := by decide +kernel
theorem dX11_string_87 : decode mX11_string.2.1 87 = .ok (.aload_n 0, 1) := by decide +kernel
theorem dX11_string_88 : decode mX11_string.2.1 88 = .ok (.getfield 159, 3) := by decide +kernel
theorem dX11_string_91 : decode mX11_string.2.1 91 = .ok (.imul, 1) := by decide +kernel
theorem dX11_string_92 : decode mX11_string.2.1 92 = .ok (.iload 5, 2) := by decide +kernel
theorem dX11_string_94 : decode mX11_string.2.1 94 = .ok (.iadd, 1) := by decide +kernel
theorem dX11_string_95 : decode mX11_string.2.1 95 = .ok (.istore 6, 2) := by decide +kernel
theorem dX11_string_97 : decode mX11_string.2.1 97 = .ok (.aload_n 0, 1) := by decide +kernel
theorem dX11_string_98 : decode mX11_string.2.1 98 = .ok (.getfield 48, 3) := by decide +kernel
theorem dX11_string_101 : decode mX11_string.2.1 101 = .ok (.iload 6, 2) := by decide +kernel
theorem dX11_string_103 : decode mX11_string.2.1 103 = .ok (.iload 5, 2) := by decide +kernel
theorem dX11_string_105 : decode mX11_string.2.1 105 = .ok (.ifCond .ne 7, 3) := by decide +kernel
theorem dX11_string_108 : decode mX11_string.2.1 108 = .ok (.iload_n 2, 1) := by decide +kernel
theorem dX11_string_109 : decode mX11_string.2.1 109 = .ok (.goto 15, 3) := by decide +kernel
theorem dX11_string_112 : decode mX11_string.2.1 112 = .ok (.iload 5, 2) := by decide +kernel
theorem dX11_string_114 : decode mX11_string.2.1 114 = .ok (.iconst 1, 1) := by decide +kernel
theorem dX11_string_115 : decode mX11_string.2.1 115 = .ok (.if_icmp .ne 7, 3) := by decide +kernel
theorem dX11_string_118 : decode mX11_string.2.1 118 = .ok (.iload_n 3, 1) := by decide +kernel
theorem dX11_string_119 : decode mX11_string.2.1 119 = .ok (.goto 5, 3) := by decide +kernel
theorem dX11_string_122 : decode mX11_string.2.1 122 = .ok (.iload 4, 2) := by decide +kernel
theorem dX11_string_124 : decode mX11_string.2.1 124 = .ok (.iastore, 1) := by decide +kernel
theorem dX11_string_125 : decode mX11_string.2.1 125 = .ok (.aload_n 0, 1) := by decide +kernel
theorem dX11_string_126 : decode mX11_string.2.1 126 = .ok (.getfield 51, 3) := by decide +kernel
theorem dX11_string_129 : decode mX11_string.2.1 129 = .ok (.iload 6, 2) := by decide +kernel
theorem dX11_string_131 : decode mX11_string.2.1 131 = .ok (.iconst 0, 1) := by decide +kernel
theorem dX11_string_132 : decode mX11_string.2.1 132 = .ok (.iastore, 1) := by decide +kernel
theorem dX11_string_133 : decode mX11_string.2.1 133 = .ok (.aload_n 0, 1) := by decide +kernel
theorem dX11_string_134 : decode mX11_string.2.1 134 = .ok (.getfield 54, 3) := by decide +kernel
theorem dX11_string_137 : decode mX11_string.2.1 137 = .ok (.iload 6, 2) := by decide +kernel
theorem dX11_string_139 : decode mX11_string.2.1 139 = .ok (.iconst 0, 1) := by decide +kernel
theorem dX11_string_140 : decode mX11_string.2.1 140 = .ok (.bastore, 1) := by decide +kernel
theorem dX11_string_141 : decode mX11_string.2.1 141 = .ok (.aload_n 0, 1) := by decide +kernel
theorem dX11_string_142 : decode mX11_string.2.1 142 = .ok (.getfield 57, 3) := by decide +kernel
theorem dX11_string_145 : decode mX11_string.2.1 145 = .ok (.iload 6, 2) := by decide +kernel
theorem dX11_string_147 : decode mX11_string.2.1 147 = .ok (.iconst (-1), 1) := by decide +kernel
theorem dX11_string_148 : decode mX11_string.2.1 148 = .ok (.iastore, 1) := by decide +kernel
theorem dX11_string_149 : decode mX11_string.2.1 149 = .ok (.iinc 5 1, 3) := by decide +kernel
theorem dX11_string_152 : decode mX11_string.2.1 152 = .ok (.goto (-72), 3) := by decide +kernel
theorem dX11_string_155 : decode mX11_string.2.1 155 = .ok (.aload_n 0, 1) := by decide +kernel
theorem dX11_string_156 : decode mX11_string.2.1 156 = .ok (.dup, 1) := by decide +kernel
theorem dX11_string_157 : decode mX11_string.2.1 157 = .ok (.getfield 159, 3) := by decide +kernel
theorem dX11_string_160 : decode mX11_string.2.1 160 = .ok (.iconst 1, 1) := by decide +kernel
theorem dX11_string_161 : decode mX11_string.2.1 161 = .ok (.iadd, 1) := by decide +kernel
theorem dX11_string_162 : decode mX11_string.2.1 162 = .ok (.putfield 159, 3) := by decide +kernel
theorem dX11_string_165 : decode mX11_string.2.1 165 = .ok (.aload_n 0, 1) := by decide +kernel
theorem dX11_string_166 : decode mX11_string.2.1 166 = .ok (.getfield 159, 3) := by decide +kernel
theorem dX11_string_169 : decode mX11_string.2.1 169 = .ok (.iconst 1, 1) := by decide +kernel
theorem dX11_string_170 : decode mX11_string.2.1 170 = .ok (.isub, 1) := by decide +kernel
theorem dX11_string_171 : decode mX11_string.2.1 171 = .ok (.ireturn, 1) := by decide +kernel
theorem dX11_stringOf_0 : decode mX11_stringOf.2.1 0 = .ok (.aload_n 0, 1) := by decide +kernel
theorem dX11_stringOf_1 : decode mX11_stringOf.2.1 1 = .ok (.iconst 0, 1) := by decide +kernel
theorem dX11_stringOf_2 : decode mX11_stringOf.2.1 2 = .ok (.putfield 1, 3) := by decide +kernel
theorem dX11_stringOf_5 : decode mX11_stringOf.2.1 5 = .ok (.aload_n 0, 1) := by decide +kernel
theorem dX11_stringOf_6 : decode mX11_stringOf.2.1 6 = .ok (.iload_n 1, 1) := by decide +kernel
theorem dX11_stringOf_7 : decode mX11_stringOf.2.1 7 = .ok (.invokevirtual 172, 3) := by decide +kernel
theorem dX11_stringOf_10 : decode mX11_stringOf.2.1 10 = .ok (.ifCond .ne 5, 3) := by decide +kernel
theorem dX11_stringOf_13 : decode mX11_stringOf.2.1 13 = .ok (.iconst (-1), 1) := by decide +kernel
theorem dX11_stringOf_14 : decode mX11_stringOf.2.1 14 = .ok (.ireturn, 1) := by decide +kernel
theorem dX11_stringOf_15 : decode mX11_stringOf.2.1 15 = .ok (.aload_n 0, 1) := by decide +kernel
theorem dX11_stringOf_16 : decode mX11_stringOf.2.1 16 = .ok (.getfield 36, 3) := by decide +kernel
theorem dX11_stringOf_19 : decode mX11_stringOf.2.1 19 = .ok (.iload_n 1, 1) := by decide +kernel
theorem dX11_stringOf_20 : decode mX11_stringOf.2.1 20 = .ok (.iaload, 1) := by decide +kernel
theorem dX11_stringOf_21 : decode mX11_stringOf.2.1 21 = .ok (.iconst (-1), 1) := by decide +kernel
theorem dX11_stringOf_22 : decode mX11_stringOf.2.1 22 = .ok (.if_icmp .ne 7, 3) := by decide +kernel
theorem dX11_stringOf_25 : decode mX11_stringOf.2.1 25 = .ok (.iconst 1, 1) := by decide +kernel
theorem dX11_stringOf_26 : decode mX11_stringOf.2.1 26 = .ok (.goto 4, 3) := by decide +kernel
theorem dX11_stringOf_29 : decode mX11_stringOf.2.1 29 = .ok (.iconst 0, 1) := by decide +kernel
theorem dX11_stringOf_30 : decode mX11_stringOf.2.1 30 = .ok (.istore_n 3, 1) := by decide +kernel
theorem dX11_stringOf_31 : decode mX11_stringOf.2.1 31 = .ok (.iload_n 2, 1) := by decide +kernel
theorem dX11_stringOf_32 : decode mX11_stringOf.2.1 32 = .ok (.tableswitch 94 0 4 #[36, 43, 50, 73, 88], 36) := by decide +kernel
theorem dX11_stringOf_68 : decode mX11_stringOf.2.1 68 = .ok (.aload_n 0, 1) := by decide +kernel
theorem dX11_stringOf_69 : decode mX11_stringOf.2.1 69 = .ok (.getfield 36, 3) := by decide +kernel
theorem dX11_stringOf_72 : decode mX11_stringOf.2.1 72 = .ok (.iload_n 1, 1) := by decide +kernel
theorem dX11_stringOf_73 : decode mX11_stringOf.2.1 73 = .ok (.iaload, 1) := by decide +kernel
theorem dX11_stringOf_74 : decode mX11_stringOf.2.1 74 = .ok (.ireturn, 1) := by decide +kernel
theorem dX11_stringOf_75 : decode mX11_stringOf.2.1 75 = .ok (.aload_n 0, 1) := by decide +kernel
theorem dX11_stringOf_76 : decode mX11_stringOf.2.1 76 = .ok (.getfield 39, 3) := by decide +kernel
theorem dX11_stringOf_79 : decode mX11_stringOf.2.1 79 = .ok (.iload_n 1, 1) := by decide +kernel
theorem dX11_stringOf_80 : decode mX11_stringOf.2.1 80 = .ok (.iaload, 1) := by decide +kernel
theorem dX11_stringOf_81 : decode mX11_stringOf.2.1 81 = .ok (.ireturn, 1) := by decide +kernel
theorem dX11_stringOf_82 : decode mX11_stringOf.2.1 82 = .ok (.iload_n 3, 1) := by decide +kernel
theorem dX11_stringOf_83 : decode mX11_stringOf.2.1 83 = .ok (.ifCond .ne 7, 3) := by decide +kernel
theorem dX11_stringOf_86 : decode mX11_stringOf.2.1 86 = .ok (.iconst (-1), 1) := by decide +kernel
theorem dX11_stringOf_87 : decode mX11_stringOf.2.1 87 = .ok (.goto 17, 3) := by decide +kernel
theorem dX11_stringOf_90 : decode mX11_stringOf.2.1 90 = .ok (.aload_n 0, 1) := by decide +kernel
theorem dX11_stringOf_91 : decode mX11_stringOf.2.1 91 = .ok (.getfield 42, 3) := by decide +kernel
theorem dX11_stringOf_94 : decode mX11_stringOf.2.1 94 = .ok (.iload_n 1, 1) := by decide +kernel
theorem dX11_stringOf_95 : decode mX11_stringOf.2.1 95 = .ok (.baload, 1) := by decide +kernel
theorem dX11_stringOf_96 : decode mX11_stringOf.2.1 96 = .ok (.ifCond .eq 7, 3) := by decide +kernel
theorem dX11_stringOf_99 : decode mX11_stringOf.2.1 99 = .ok (.iconst 1, 1) := by decide +kernel
theorem dX11_stringOf_100 : decode mX11_stringOf.2.1 100 = .ok (.goto 4, 3) := by decide +kernel
theorem dX11_stringOf_103 : decode mX11_stringOf.2.1 103 = .ok (.iconst 0, 1) := by decide +kernel
theorem dX11_stringOf_104 : decode mX11_stringOf.2.1 104 = .ok (.ireturn, 1) := by decide +kernel
theorem dX11_stringOf_105 : decode mX11_stringOf.2.1 105 = .ok (.iload_n 3, 1) := by decide +kernel
theorem dX11_stringOf_106 : decode mX11_stringOf.2.1 106 = .ok (.ifCond .eq 12, 3) := by decide +kernel
theorem dX11_stringOf_109 : decode mX11_stringOf.2.1 109 = .ok (.aload_n 0, 1) := by decide +kernel
theorem dX11_stringOf_110 : decode mX11_stringOf.2.1 110 = .ok (.getfield 45, 3) := by decide +kernel
theorem dX11_stringOf_113 : decode mX11_stringOf.2.1 113 = .ok (.iload_n 1, 1) := by decide +kernel
theorem dX11_stringOf_114 : decode mX11_stringOf.2.1 114 = .ok (.iaload, 1) := by decide +kernel
theorem dX11_stringOf_115 : decode mX11_stringOf.2.1 115 = .ok (.goto 4, 3) := by decide +kernel
theorem dX11_stringOf_118 : decode mX11_stringOf.2.1 118 = .ok (.iconst (-1), 1) := by decide +kernel
theorem dX11_stringOf_119 : decode mX11_stringOf.2.1 119 = .ok (.ireturn, 1) := by decide +kernel
theorem dX11_stringOf_120 : decode mX11_stringOf.2.1 120 = .ok (.aload_n 0, 1) := by decide +kernel
theorem dX11_stringOf_121 : decode mX11_stringOf.2.1 121 = .ok (.iload_n 1, 1) := by decide +kernel
theorem dX11_stringOf_122 : decode mX11_stringOf.2.1 122 = .ok (.invokevirtual 327, 3) := by decide +kernel
theorem dX11_stringOf_125 : decode mX11_stringOf.2.1 125 = .ok (.ireturn, 1) := by decide +kernel
theorem dX11_stringOf_126 : decode mX11_stringOf.2.1 126 = .ok (.iconst (-1), 1) := by decide +kernel
theorem dX11_stringOf_127 : decode mX11_stringOf.2.1 127 = .ok (.ireturn, 1) := by decide +kernel
theorem dX11_term_0 : decode mX11_term.2.1 0 = .ok (.aload_n 0, 1) := by decide +kernel
theorem dX11_term_1 : decode mX11_term.2.1 1 = .ok (.invokevirtual 286, 3) := by decide +kernel
theorem dX11_term_4 : decode mX11_term.2.1 4 = .ok (.istore_n 2, 1) := by decide +kernel
theorem dX11_term_5 : decode mX11_term.2.1 5 = .ok (.iload_n 2, 1) := by decide +kernel
theorem dX11_term_6 : decode mX11_term.2.1 6 = .ok (.iconst (-1), 1) := by decide +kernel
theorem dX11_term_7 : decode mX11_term.2.1 7 = .ok (.if_icmp .ne 9, 3) := by decide +kernel
theorem dX11_term_10 : decode mX11_term.2.1 10 = .ok (.aload_n 0, 1) := by decide +kernel
theorem dX11_term_11 : decode mX11_term.2.1 11 = .ok (.iconst 1, 1) := by decide +kernel
theorem dX11_term_12 : decode mX11_term.2.1 12 = .ok (.invokevirtual 289, 3) := by decide +kernel
theorem dX11_term_15 : decode mX11_term.2.1 15 = .ok (.return_, 1) := by decide +kernel
theorem dX11_term_16 : decode mX11_term.2.1 16 = .ok (.aload_n 0, 1) := by decide +kernel
theorem dX11_term_17 : decode mX11_term.2.1 17 = .ok (.getfield 121, 3) := by decide +kernel
theorem dX11_term_20 : decode mX11_term.2.1 20 = .ok (.iload_n 1, 1) := by decide +kernel
theorem dX11_term_21 : decode mX11_term.2.1 21 = .ok (.iaload, 1) := by decide +kernel
theorem dX11_term_22 : decode mX11_term.2.1 22 = .ok (.iconst 4, 1) := by decide +kernel
theorem dX11_term_23 : decode mX11_term.2.1 23 = .ok (.if_icmp .ne 9, 3) := by decide +kernel
theorem dX11_term_26 : decode mX11_term.2.1 26 = .ok (.aload_n 0, 1) := by decide +kernel
theorem dX11_term_27 : decode mX11_term.2.1 27 = .ok (.iconst 2, 1) := by decide +kernel
theorem dX11_term_28 : decode mX11_term.2.1 28 = .ok (.invokevirtual 289, 3) := by decide +kernel
theorem dX11_term_31 : decode mX11_term.2.1 31 = .ok (.return_, 1) := by decide +kernel
theorem dX11_term_32 : decode mX11_term.2.1 32 = .ok (.iconst 4, 1) := by decide +kernel
theorem dX11_term_33 : decode mX11_term.2.1 33 = .ok (.iload_n 1, 1) := by decide +kernel
theorem dX11_term_34 : decode mX11_term.2.1 34 = .ok (.imul, 1) := by decide +kernel
theorem dX11_term_35 : decode mX11_term.2.1 35 = .ok (.aload_n 0, 1) := by decide +kernel
theorem dX11_term_36 : decode mX11_term.2.1 36 = .ok (.getfield 121, 3) := by decide +kernel
theorem dX11_term_39 : decode mX11_term.2.1 39 = .ok (.iload_n 1, 1) := by decide +kernel
theorem dX11_term_40 : decode mX11_term.2.1 40 = .ok (.iaload, 1) := by decide +kernel
theorem dX11_term_41 : decode mX11_term.2.1 41 = .ok (.iadd, 1) := by decide +kernel
theorem dX11_term_42 : decode mX11_term.2.1 42 = .ok (.istore_n 3, 1) := by decide +kernel
theorem dX11_term_43 : decode mX11_term.2.1 43 = .ok (.aload_n 0, 1) := by decide +kernel
theorem dX11_term_44 : decode mX11_term.2.1 44 = .ok (.getfield 121, 3) := by decide +kernel
theorem dX11_term_47 : decode mX11_term.2.1 47 = .ok (.iload_n 1, 1) := by decide +kernel
theorem dX11_term_48 : decode mX11_term.2.1 48 = .ok (.dup2, 1) := by decide +kernel
theorem dX11_term_49 : decode mX11_term.2.1 49 = .ok (.iaload, 1) := by decide +kernel
theorem dX11_term_50 : decode mX11_term.2.1 50 = .ok (.iconst 1, 1) := by decide +kernel
theorem dX11_term_51 : decode mX11_term.2.1 51 = .ok (.iadd, 1) := by decide +kernel
theorem dX11_term_52 : decode mX11_term.2.1 52 = .ok (.iastore, 1) := by decide +kernel
theorem dX11_term_53 : decode mX11_term.2.1 53 = .ok (.aload_n 0, 1) := by decide +kernel
theorem dX11_term_54 : decode mX11_term.2.1 54 = .ok (.getfield 127, 3) := by decide +kernel
theorem dX11_term_57 : decode mX11_term.2.1 57 = .ok (.iload_n 3, 1) := by decide +kernel
theorem dX11_term_58 : decode mX11_term.2.1 58 = .ok (.iload_n 2, 1) := by decide +kernel
theorem dX11_term_59 : decode mX11_term.2.1 59 = .ok (.iastore, 1) := by decide +kernel
theorem dX11_term_60 : decode mX11_term.2.1 60 = .ok (.aload_n 0, 1) := by decide +kernel
theorem dX11_term_61 : decode mX11_term.2.1 61 = .ok (.invokevirtual 292, 3) := by decide +kernel
theorem dX11_term_64 : decode mX11_term.2.1 64 = .ok (.iload_n 2, 1) := by decide +kernel
theorem dX11_term_65 : decode mX11_term.2.1 65 = .ok (.iconst 4, 1) := by decide +kernel
theorem dX11_term_66 : decode mX11_term.2.1 66 = .ok (.if_icmp .ge 4, 3) := by decide +kernel
theorem dX11_term_69 : decode mX11_term.2.1 69 = .ok (.return_, 1) := by decide +kernel
theorem dX11_term_70 : decode mX11_term.2.1 70 = .ok (.aload_n 0, 1) := by decide +kernel
theorem dX11_term_71 : decode mX11_term.2.1 71 = .ok (.bipush 60, 2) := by decide +kernel
theorem dX11_term_73 : decode mX11_term.2.1 73 = .ok (.invokevirtual 295, 3) := by decide +kernel
theorem dX11_term_76 : decode mX11_term.2.1 76 = .ok (.ifCond .ne 27, 3) := by decide +kernel
theorem dX11_term_79 : decode mX11_term.2.1 79 = .ok (.aload_n 0, 1) := by decide +kernel
theorem dX11_term_80 : decode mX11_term.2.1 80 = .ok (.bipush 61, 2) := by decide +kernel
theorem dX11_term_82 : decode mX11_term.2.1 82 = .ok (.invokevirtual 295, 3) := by decide +kernel
theorem dX11_term_85 : decode mX11_term.2.1 85 = .ok (.ifCond .ne 18, 3) := by decide +kernel
theorem dX11_term_88 : decode mX11_term.2.1 88 = .ok (.aload_n 0, 1) := by decide +kernel
theorem dX11_term_89 : decode mX11_term.2.1 89 = .ok (.bipush 62, 2) := by decide +kernel
theorem dX11_term_91 : decode mX11_term.2.1 91 = .ok (.invokevirtual 295, 3) := by decide +kernel
theorem dX11_term_94 : decode mX11_term.2.1 94 = .ok (.ifCond .ne 9, 3) := by decide +kernel
theorem dX11_term_97 : decode mX11_term.2.1 97 = .ok (.aload_n 0, 1) := by decide +kernel
theorem dX11_term_98 : decode mX11_term.2.1 98 = .ok (.iconst 1, 1) := by decide +kernel
theorem dX11_term_99 : decode mX11_term.2.1 99 = .ok (.invokevirtual 289, 3) := by decide +kernel
theorem dX11_term_102 : decode mX11_term.2.1 102 = .ok (.return_, 1) := by decide +kernel
theorem dX11_term_103 : decode mX11_term.2.1 103 = .ok (.aload_n 0, 1) := by decide +kernel
theorem dX11_term_104 : decode mX11_term.2.1 104 = .ok (.getfield 130, 3) := by decide +kernel
theorem dX11_term_107 : decode mX11_term.2.1 107 = .ok (.iload_n 3, 1) := by decide +kernel
theorem dX11_term_108 : decode mX11_term.2.1 108 = .ok (.aload_n 0, 1) := by decide +kernel
theorem dX11_term_109 : decode mX11_term.2.1 109 = .ok (.getfield 251, 3) := by decide +kernel
theorem dX11_term_112 : decode mX11_term.2.1 112 = .ok (.iastore, 1) := by decide +kernel
theorem dX11_term_113 : decode mX11_term.2.1 113 = .ok (.aload_n 0, 1) := by decide +kernel
theorem dX11_term_114 : decode mX11_term.2.1 114 = .ok (.invokevirtual 292, 3) := by decide +kernel
theorem dX11_term_117 : decode mX11_term.2.1 117 = .ok (.aload_n 0, 1) := by decide +kernel
theorem dX11_term_118 : decode mX11_term.2.1 118 = .ok (.getfield 133, 3) := by decide +kernel
theorem dX11_term_121 : decode mX11_term.2.1 121 = .ok (.iload_n 3, 1) := by decide +kernel
theorem dX11_term_122 : decode mX11_term.2.1 122 = .ok (.aload_n 0, 1) := by decide +kernel
theorem dX11_term_123 : decode mX11_term.2.1 123 = .ok (.invokevirtual 298, 3) := by decide +kernel
theorem dX11_term_126 : decode mX11_term.2.1 126 = .ok (.iastore, 1) := by decide +kernel
theorem dX11_term_127 : decode mX11_term.2.1 127 = .ok (.return_, 1) := by decide +kernel
theorem dX11_thrown_0 : decode mX11_thrown.2.1 0 = .ok (.aload_n 0, 1) := by decide +kernel
theorem dX11_thrown_1 : decode mX11_thrown.2.1 1 = .ok (.getfield 1, 3) := by decide +kernel
theorem dX11_thrown_4 : decode mX11_thrown.2.1 4 = .ok (.ireturn, 1) := by decide +kernel
theorem dX11_tires_0 : decode mX11_tires.2.1 0 = .ok (.iconst 3, 1) := by decide +kernel
theorem dX11_tires_1 : decode mX11_tires.2.1 1 = .ok (.iload_n 1, 1) := by decide +kernel
theorem dX11_tires_2 : decode mX11_tires.2.1 2 = .ok (.imul, 1) := by decide +kernel
theorem dX11_tires_3 : decode mX11_tires.2.1 3 = .ok (.istore_n 2, 1) := by decide +kernel
theorem dX11_tires_4 : decode mX11_tires.2.1 4 = .ok (.iload_n 2, 1) := by decide +kernel
theorem dX11_tires_5 : decode mX11_tires.2.1 5 = .ok (.iconst 3, 1) := by decide +kernel
theorem dX11_tires_6 : decode mX11_tires.2.1 6 = .ok (.iload_n 1, 1) := by decide +kernel
theorem dX11_tires_7 : decode mX11_tires.2.1 7 = .ok (.imul, 1) := by decide +kernel
theorem dX11_tires_8 : decode mX11_tires.2.1 8 = .ok (.iconst 3, 1) := by decide +kernel
theorem dX11_tires_9 : decode mX11_tires.2.1 9 = .ok (.iadd, 1) := by decide +kernel
theorem dX11_tires_10 : decode mX11_tires.2.1 10 = .ok (.if_icmp .ge 93, 3) := by decide +kernel
theorem dX11_tires_13 : decode mX11_tires.2.1 13 = .ok (.aload_n 0, 1) := by decide +kernel
theorem dX11_tires_14 : decode mX11_tires.2.1 14 = .ok (.getfield 54, 3) := by decide +kernel
theorem dX11_tires_17 : decode mX11_tires.2.1 17 = .ok (.iload_n 2, 1) := by decide +kernel
theorem dX11_tires_18 : decode mX11_tires.2.1 18 = .ok (.baload, 1) := by decide +kernel
theorem dX11_tires_19 : decode mX11_tires.2.1 19 = .ok (.ifCond .eq 6, 3) := by decide +kernel
theorem dX11_tires_22 : decode mX11_tires.2.1 22 = .ok (.goto 75, 3) := by decide +kernel
theorem dX11_tires_25 : decode mX11_tires.2.1 25 = .ok (.aload_n 0, 1) := by decide +kernel
theorem dX11_tires_26 : decode mX11_tires.2.1 26 = .ok (.getfield 51, 3) := by decide +kernel
theorem dX11_tires_29 : decode mX11_tires.2.1 29 = .ok (.iload_n 2, 1) := by decide +kernel
theorem dX11_tires_30 : decode mX11_tires.2.1 30 = .ok (.bipush 100, 2) := by decide +kernel
theorem dX11_tires_32 : decode mX11_tires.2.1 32 = .ok (.aload_n 0, 1) := by decide +kernel
theorem dX11_tires_33 : decode mX11_tires.2.1 33 = .ok (.getfield 51, 3) := by decide +kernel
theorem dX11_tires_36 : decode mX11_tires.2.1 36 = .ok (.iload_n 2, 1) := by decide +kernel
theorem dX11_tires_37 : decode mX11_tires.2.1 37 = .ok (.iaload, 1) := by decide +kernel
theorem dX11_tires_38 : decode mX11_tires.2.1 38 = .ok (.iconst 2, 1) := by decide +kernel
theorem dX11_tires_39 : decode mX11_tires.2.1 39 = .ok (.iadd, 1) := by decide +kernel
theorem dX11_tires_40 : decode mX11_tires.2.1 40 = .ok (.aload_n 0, 1) := by decide +kernel
theorem dX11_tires_41 : decode mX11_tires.2.1 41 = .ok (.iload_n 2, 1) := by decide +kernel
theorem dX11_tires_42 : decode mX11_tires.2.1 42 = .ok (.iconst 3, 1) := by decide +kernel
theorem dX11_tires_43 : decode mX11_tires.2.1 43 = .ok (.invokevirtual 178, 3) := by decide +kernel
theorem dX11_tires_46 : decode mX11_tires.2.1 46 = .ok (.aload_n 0, 1) := by decide +kernel
theorem dX11_tires_47 : decode mX11_tires.2.1 47 = .ok (.getfield 17, 3) := by decide +kernel
theorem dX11_tires_50 : decode mX11_tires.2.1 50 = .ok (.aload_n 0, 1) := by decide +kernel
theorem dX11_tires_51 : decode mX11_tires.2.1 51 = .ok (.getfield 39, 3) := by decide +kernel
theorem dX11_tires_54 : decode mX11_tires.2.1 54 = .ok (.iload_n 1, 1) := by decide +kernel
theorem dX11_tires_55 : decode mX11_tires.2.1 55 = .ok (.iaload, 1) := by decide +kernel
theorem dX11_tires_56 : decode mX11_tires.2.1 56 = .ok (.iaload, 1) := by decide +kernel
theorem dX11_tires_57 : decode mX11_tires.2.1 57 = .ok (.imul, 1) := by decide +kernel
theorem dX11_tires_58 : decode mX11_tires.2.1 58 = .ok (.bipush 100, 2) := by decide +kernel
theorem dX11_tires_60 : decode mX11_tires.2.1 60 = .ok (.idiv, 1) := by decide +kernel
theorem dX11_tires_61 : decode mX11_tires.2.1 61 = .ok (.iadd, 1) := by decide +kernel
theorem dX11_tires_62 : decode mX11_tires.2.1 62 = .ok (.invokestatic 189, 3) := by decide +kernel
theorem dX11_tires_65 : decode mX11_tires.2.1 65 = .ok (.iastore, 1) := by decide +kernel
theorem dX11_tires_66 : decode mX11_tires.2.1 66 = .ok (.aload_n 0, 1) := by decide +kernel
theorem dX11_tires_67 : decode mX11_tires.2.1 67 = .ok (.getfield 51, 3) := by decide +kernel
theorem dX11_tires_70 : decode mX11_tires.2.1 70 = .ok (.iload_n 2, 1) := by decide +kernel
theorem dX11_tires_71 : decode mX11_tires.2.1 71 = .ok (.iaload, 1) := by decide +kernel
theorem dX11_tires_72 : decode mX11_tires.2.1 72 = .ok (.bipush 100, 2) := by decide +kernel
theorem dX11_tires_74 : decode mX11_tires.2.1 74 = .ok (.if_icmp .ge 6, 3) := by decide +kernel
theorem dX11_tires_77 : decode mX11_tires.2.1 77 = .ok (.goto 20, 3) := by decide +kernel
theorem dX11_tires_80 : decode mX11_tires.2.1 80 = .ok (.aload_n 0, 1) := by decide +kernel
theorem dX11_tires_81 : decode mX11_tires.2.1 81 = .ok (.getfield 54, 3) := by decide +kernel
theorem dX11_tires_84 : decode mX11_tires.2.1 84 = .ok (.iload_n 2, 1) := by decide +kernel
theorem dX11_tires_85 : decode mX11_tires.2.1 85 = .ok (.iconst 1, 1) := by decide +kernel
theorem dX11_tires_86 : decode mX11_tires.2.1 86 = .ok (.bastore, 1) := by decide +kernel
theorem dX11_tires_87 : decode mX11_tires.2.1 87 = .ok (.aload_n 0, 1) := by decide +kernel
theorem dX11_tires_88 : decode mX11_tires.2.1 88 = .ok (.getfield 57, 3) := by decide +kernel
theorem dX11_tires_91 : decode mX11_tires.2.1 91 = .ok (.iload_n 2, 1) := by decide +kernel
theorem dX11_tires_92 : decode mX11_tires.2.1 92 = .ok (.aload_n 0, 1) := by decide +kernel
theorem dX11_tires_93 : decode mX11_tires.2.1 93 = .ok (.getfield 150, 3) := by decide +kernel
theorem dX11_tires_96 : decode mX11_tires.2.1 96 = .ok (.iastore, 1) := by decide +kernel
theorem dX11_tires_97 : decode mX11_tires.2.1 97 = .ok (.iinc 2 1, 3) := by decide +kernel
theorem dX11_tires_100 : decode mX11_tires.2.1 100 = .ok (.goto (-96), 3) := by decide +kernel
theorem dX11_tires_103 : decode mX11_tires.2.1 103 = .ok (.return_, 1) := by decide +kernel
theorem dX11_top_0 : decode mX11_top.2.1 0 = .ok (.iconst 0, 1) := by decide +kernel
theorem dX11_top_1 : decode mX11_top.2.1 1 = .ok (.istore_n 2, 1) := by decide +kernel
theorem dX11_top_2 : decode mX11_top.2.1 2 = .ok (.iload_n 2, 1) := by decide +kernel
theorem dX11_top_3 : decode mX11_top.2.1 3 = .ok (.aload_n 0, 1) := by decide +kernel
theorem dX11_top_4 : decode mX11_top.2.1 4 = .ok (.getfield 165, 3) := by decide +kernel
theorem dX11_top_7 : decode mX11_top.2.1 7 = .ok (.if_icmp .ge 41, 3) := by decide +kernel
theorem dX11_top_10 : decode mX11_top.2.1 10 = .ok (.aload_n 0, 1) := by decide +kernel
theorem dX11_top_11 : decode mX11_top.2.1 11 = .ok (.getfield 69, 3) := by decide +kernel
theorem dX11_top_14 : decode mX11_top.2.1 14 = .ok (.iload_n 2, 1) := by decide +kernel
theorem dX11_top_15 : decode mX11_top.2.1 15 = .ok (.iaload, 1) := by decide +kernel
theorem dX11_top_16 : decode mX11_top.2.1 16 = .ok (.iconst 1, 1) := by decide +kernel
theorem dX11_top_17 : decode mX11_top.2.1 17 = .ok (.if_icmp .ne 25, 3) := by decide +kernel
theorem dX11_top_20 : decode mX11_top.2.1 20 = .ok (.aload_n 0, 1) := by decide +kernel
theorem dX11_top_21 : decode mX11_top.2.1 21 = .ok (.getfield 75, 3) := by decide +kernel
theorem dX11_top_24 : decode mX11_top.2.1 24 = .ok (.iload_n 2, 1) := by decide +kernel
theorem dX11_top_25 : decode mX11_top.2.1 25 = .ok (.iaload, 1) := by decide +kernel
theorem dX11_top_26 : decode mX11_top.2.1 26 = .ok (.iload_n 1, 1) := by decide +kernel
theorem dX11_top_27 : decode mX11_top.2.1 27 = .ok (.if_icmp .ne 15, 3) := by decide +kernel
theorem dX11_top_30 : decode mX11_top.2.1 30 = .ok (.aload_n 0, 1) := by decide +kernel
theorem dX11_top_31 : decode mX11_top.2.1 31 = .ok (.getfield 78, 3) := by decide +kernel
theorem dX11_top_34 : decode mX11_top.2.1 34 = .ok (.iload_n 2, 1) := by decide +kernel
theorem dX11_top_35 : decode mX11_top.2.1 35 = .ok (.iaload, 1) := by decide +kernel
theorem dX11_top_36 : decode mX11_top.2.1 36 = .ok (.iconst 2, 1) := by decide +kernel
theorem dX11_top_37 : decode mX11_top.2.1 37 = .ok (.if_icmp .ne 5, 3) := by decide +kernel
theorem dX11_top_40 : decode mX11_top.2.1 40 = .ok (.iload_n 2, 1) := by decide +kernel
theorem dX11_top_41 : decode mX11_top.2.1 41 = .ok (.ireturn, 1) := by decide +kernel
theorem dX11_top_42 : decode mX11_top.2.1 42 = .ok (.iinc 2 1, 3) := by decide +kernel
theorem dX11_top_45 : decode mX11_top.2.1 45 = .ok (.goto (-43), 3) := by decide +kernel
theorem dX11_top_48 : decode mX11_top.2.1 48 = .ok (.iconst (-1), 1) := by decide +kernel
theorem dX11_top_49 : decode mX11_top.2.1 49 = .ok (.ireturn, 1) := by decide +kernel
theorem dX11_tries_0 : decode mX11_tries.2.1 0 = .ok (.iload_n 2, 1) := by decide +kernel
theorem dX11_tries_1 : decode mX11_tries.2.1 1 = .ok (.iload_n 3, 1) := by decide +kernel
theorem dX11_tries_2 : decode mX11_tries.2.1 2 = .ok (.iadd, 1) := by decide +kernel
theorem dX11_tries_3 : decode mX11_tries.2.1 3 = .ok (.iload 5, 2) := by decide +kernel
theorem dX11_tries_5 : decode mX11_tries.2.1 5 = .ok (.if_icmp .le 4, 3) := by decide +kernel
theorem dX11_tries_8 : decode mX11_tries.2.1 8 = .ok (.return_, 1) := by decide +kernel
theorem dX11_tries_9 : decode mX11_tries.2.1 9 = .ok (.iload_n 1, 1) := by decide +kernel
theorem dX11_tries_10 : decode mX11_tries.2.1 10 = .ok (.aload_n 0, 1) := by decide +kernel
theorem dX11_tries_11 : decode mX11_tries.2.1 11 = .ok (.getfield 213, 3) := by decide +kernel
theorem dX11_tries_14 : decode mX11_tries.2.1 14 = .ok (.if_icmp .ne 101, 3) := by decide +kernel
theorem dX11_tries_17 : decode mX11_tries.2.1 17 = .ok (.iload_n 2, 1) := by decide +kernel
theorem dX11_tries_18 : decode mX11_tries.2.1 18 = .ok (.iload_n 3, 1) := by decide +kernel
theorem dX11_tries_19 : decode mX11_tries.2.1 19 = .ok (.isub, 1) := by decide +kernel
theorem dX11_tries_20 : decode mX11_tries.2.1 20 = .ok (.istore 6, 2) := by decide +kernel
theorem dX11_tries_22 : decode mX11_tries.2.1 22 = .ok (.iload 6, 2) := by decide +kernel
theorem dX11_tries_24 : decode mX11_tries.2.1 24 = .ok (.bipush (-10), 2) := by decide +kernel
theorem dX11_tries_26 : decode mX11_tries.2.1 26 = .ok (.if_icmp .lt 10, 3) := by decide +kernel
theorem dX11_tries_29 : decode mX11_tries.2.1 29 = .ok (.iload 6, 2) := by decide +kernel
theorem dX11_tries_31 : decode mX11_tries.2.1 31 = .ok (.bipush 10, 2) := by decide +kernel
theorem dX11_tries_33 : decode mX11_tries.2.1 33 = .ok (.if_icmp .le 4, 3) := by decide +kernel
theorem dX11_tries_36 : decode mX11_tries.2.1 36 = .ok (.return_, 1) := by decide +kernel

/-! decode rows, by program -/
theorem d_Mo_init_0 : decode b_Mo_init 0 = .ok (.aload_n 0, 1) := by decide +kernel
theorem d_Mo_init_1 : decode b_Mo_init 1 = .ok (.invokespecial 1, 3) := by decide +kernel
theorem d_Mo_init_4 : decode b_Mo_init 4 = .ok (.aload_n 0, 1) := by decide +kernel
theorem d_Mo_init_5 : decode b_Mo_init 5 = .ok (.bipush 14, 2) := by decide +kernel
theorem d_Mo_init_7 : decode b_Mo_init 7 = .ok (.newarray .boolean, 2) := by decide +kernel
theorem d_Mo_init_9 : decode b_Mo_init 9 = .ok (.putfield 7, 3) := by decide +kernel
theorem d_Mo_init_12 : decode b_Mo_init 12 = .ok (.aload_n 0, 1) := by decide +kernel
theorem d_Mo_init_13 : decode b_Mo_init 13 = .ok (.bipush 14, 2) := by decide +kernel
theorem d_Mo_init_15 : decode b_Mo_init 15 = .ok (.newarray .boolean, 2) := by decide +kernel
theorem d_Mo_init_17 : decode b_Mo_init 17 = .ok (.putfield 13, 3) := by decide +kernel
theorem d_Mo_init_20 : decode b_Mo_init 20 = .ok (.aload_n 0, 1) := by decide +kernel
theorem d_Mo_init_21 : decode b_Mo_init 21 = .ok (.bipush 14, 2) := by decide +kernel
theorem d_Mo_init_23 : decode b_Mo_init 23 = .ok (.newarray .boolean, 2) := by decide +kernel
theorem d_Mo_init_25 : decode b_Mo_init 25 = .ok (.putfield 16, 3) := by decide +kernel
theorem d_Mo_init_28 : decode b_Mo_init 28 = .ok (.aload_n 0, 1) := by decide +kernel
theorem d_Mo_init_29 : decode b_Mo_init 29 = .ok (.bipush 14, 2) := by decide +kernel
theorem d_Mo_init_31 : decode b_Mo_init 31 = .ok (.newarray .boolean, 2) := by decide +kernel
theorem d_Mo_init_33 : decode b_Mo_init 33 = .ok (.putfield 19, 3) := by decide +kernel
theorem d_Mo_init_36 : decode b_Mo_init 36 = .ok (.aload_n 0, 1) := by decide +kernel
theorem d_Mo_init_37 : decode b_Mo_init 37 = .ok (.bipush 14, 2) := by decide +kernel
theorem d_Mo_init_39 : decode b_Mo_init 39 = .ok (.newarray .int, 2) := by decide +kernel
theorem d_Mo_init_41 : decode b_Mo_init 41 = .ok (.putfield 22, 3) := by decide +kernel
theorem d_Mo_init_44 : decode b_Mo_init 44 = .ok (.aload_n 0, 1) := by decide +kernel
theorem d_Mo_init_45 : decode b_Mo_init 45 = .ok (.bipush 14, 2) := by decide +kernel
theorem d_Mo_init_47 : decode b_Mo_init 47 = .ok (.newarray .int, 2) := by decide +kernel
theorem d_Mo_init_49 : decode b_Mo_init 49 = .ok (.putfield 26, 3) := by decide +kernel
theorem d_Mo_init_52 : decode b_Mo_init 52 = .ok (.aload_n 0, 1) := by decide +kernel
theorem d_Mo_init_53 : decode b_Mo_init 53 = .ok (.bipush 14, 2) := by decide +kernel
theorem d_Mo_init_55 : decode b_Mo_init 55 = .ok (.newarray .int, 2) := by decide +kernel
theorem d_Mo_init_57 : decode b_Mo_init 57 = .ok (.putfield 29, 3) := by decide +kernel
theorem d_Mo_init_60 : decode b_Mo_init 60 = .ok (.aload_n 0, 1) := by decide +kernel
theorem d_Mo_init_61 : decode b_Mo_init 61 = .ok (.bipush 14, 2) := by decide +kernel
theorem d_Mo_init_63 : decode b_Mo_init 63 = .ok (.newarray .int, 2) := by decide +kernel
theorem d_Mo_init_65 : decode b_Mo_init 65 = .ok (.putfield 32, 3) := by decide +kernel
theorem d_Mo_init_68 : decode b_Mo_init 68 = .ok (.aload_n 0, 1) := by decide +kernel
theorem d_Mo_init_69 : decode b_Mo_init 69 = .ok (.sipush 196, 3) := by decide +kernel
theorem d_Mo_init_72 : decode b_Mo_init 72 = .ok (.newarray .int, 2) := by decide +kernel
theorem d_Mo_init_74 : decode b_Mo_init 74 = .ok (.putfield 35, 3) := by decide +kernel
theorem d_Mo_init_77 : decode b_Mo_init 77 = .ok (.aload_n 0, 1) := by decide +kernel
theorem d_Mo_init_78 : decode b_Mo_init 78 = .ok (.bipush 14, 2) := by decide +kernel
theorem d_Mo_init_80 : decode b_Mo_init 80 = .ok (.newarray .int, 2) := by decide +kernel
theorem d_Mo_init_82 : decode b_Mo_init 82 = .ok (.putfield 38, 3) := by decide +kernel
theorem d_Mo_init_85 : decode b_Mo_init 85 = .ok (.aload_n 0, 1) := by decide +kernel
theorem d_Mo_init_86 : decode b_Mo_init 86 = .ok (.bipush 56, 2) := by decide +kernel
theorem d_Mo_init_88 : decode b_Mo_init 88 = .ok (.newarray .int, 2) := by decide +kernel
theorem d_Mo_init_90 : decode b_Mo_init 90 = .ok (.putfield 41, 3) := by decide +kernel
theorem d_Mo_init_93 : decode b_Mo_init 93 = .ok (.aload_n 0, 1) := by decide +kernel
theorem d_Mo_init_94 : decode b_Mo_init 94 = .ok (.bipush 14, 2) := by decide +kernel
theorem d_Mo_init_96 : decode b_Mo_init 96 = .ok (.newarray .int, 2) := by decide +kernel
theorem d_Mo_init_98 : decode b_Mo_init 98 = .ok (.putfield 44, 3) := by decide +kernel
theorem d_Mo_init_101 : decode b_Mo_init 101 = .ok (.aload_n 0, 1) := by decide +kernel
theorem d_Mo_init_102 : decode b_Mo_init 102 = .ok (.bipush 14, 2) := by decide +kernel
theorem d_Mo_init_104 : decode b_Mo_init 104 = .ok (.newarray .int, 2) := by decide +kernel
theorem d_Mo_init_106 : decode b_Mo_init 106 = .ok (.putfield 47, 3) := by decide +kernel
theorem d_Mo_init_109 : decode b_Mo_init 109 = .ok (.aload_n 0, 1) := by decide +kernel
theorem d_Mo_init_110 : decode b_Mo_init 110 = .ok (.bipush 14, 2) := by decide +kernel
theorem d_Mo_init_112 : decode b_Mo_init 112 = .ok (.newarray .int, 2) := by decide +kernel
theorem d_Mo_init_114 : decode b_Mo_init 114 = .ok (.putfield 50, 3) := by decide +kernel
theorem d_Mo_init_117 : decode b_Mo_init 117 = .ok (.aload_n 0, 1) := by decide +kernel
theorem d_Mo_init_118 : decode b_Mo_init 118 = .ok (.bipush 14, 2) := by decide +kernel
theorem d_Mo_init_120 : decode b_Mo_init 120 = .ok (.newarray .double, 2) := by decide +kernel
theorem d_Mo_init_122 : decode b_Mo_init 122 = .ok (.putfield 53, 3) := by decide +kernel
theorem d_Mo_init_125 : decode b_Mo_init 125 = .ok (.aload_n 0, 1) := by decide +kernel
theorem d_Mo_init_126 : decode b_Mo_init 126 = .ok (.bipush 14, 2) := by decide +kernel
theorem d_Mo_init_128 : decode b_Mo_init 128 = .ok (.newarray .double, 2) := by decide +kernel
theorem d_Mo_init_130 : decode b_Mo_init 130 = .ok (.putfield 57, 3) := by decide +kernel
theorem d_Mo_init_133 : decode b_Mo_init 133 = .ok (.aload_n 0, 1) := by decide +kernel
theorem d_Mo_init_134 : decode b_Mo_init 134 = .ok (.bipush 14, 2) := by decide +kernel
theorem d_Mo_init_136 : decode b_Mo_init 136 = .ok (.newarray .double, 2) := by decide +kernel
theorem d_Mo_init_138 : decode b_Mo_init 138 = .ok (.putfield 60, 3) := by decide +kernel
theorem d_Mo_init_141 : decode b_Mo_init 141 = .ok (.aload_n 0, 1) := by decide +kernel
theorem d_Mo_init_142 : decode b_Mo_init 142 = .ok (.bipush 56, 2) := by decide +kernel
theorem d_Mo_init_144 : decode b_Mo_init 144 = .ok (.newarray .double, 2) := by decide +kernel
theorem d_Mo_init_146 : decode b_Mo_init 146 = .ok (.putfield 63, 3) := by decide +kernel
theorem d_Mo_init_149 : decode b_Mo_init 149 = .ok (.aload_n 0, 1) := by decide +kernel
theorem d_Mo_init_150 : decode b_Mo_init 150 = .ok (.sipush 224, 3) := by decide +kernel
theorem d_Mo_init_153 : decode b_Mo_init 153 = .ok (.newarray .double, 2) := by decide +kernel
theorem d_Mo_init_155 : decode b_Mo_init 155 = .ok (.putfield 66, 3) := by decide +kernel
theorem d_Mo_init_158 : decode b_Mo_init 158 = .ok (.aload_n 0, 1) := by decide +kernel
theorem d_Mo_init_159 : decode b_Mo_init 159 = .ok (.sipush 224, 3) := by decide +kernel
theorem d_Mo_init_162 : decode b_Mo_init 162 = .ok (.newarray .double, 2) := by decide +kernel
theorem d_Mo_init_164 : decode b_Mo_init 164 = .ok (.putfield 69, 3) := by decide +kernel
theorem d_Mo_init_167 : decode b_Mo_init 167 = .ok (.aload_n 0, 1) := by decide +kernel
theorem d_Mo_init_168 : decode b_Mo_init 168 = .ok (.bipush 14, 2) := by decide +kernel
theorem d_Mo_init_170 : decode b_Mo_init 170 = .ok (.newarray .double, 2) := by decide +kernel
theorem d_Mo_init_172 : decode b_Mo_init 172 = .ok (.putfield 72, 3) := by decide +kernel
theorem d_Mo_init_175 : decode b_Mo_init 175 = .ok (.aload_n 0, 1) := by decide +kernel
theorem d_Mo_init_176 : decode b_Mo_init 176 = .ok (.bipush 14, 2) := by decide +kernel
theorem d_Mo_init_178 : decode b_Mo_init 178 = .ok (.newarray .double, 2) := by decide +kernel
theorem d_Mo_init_180 : decode b_Mo_init 180 = .ok (.putfield 75, 3) := by decide +kernel
theorem d_Mo_init_183 : decode b_Mo_init 183 = .ok (.aload_n 0, 1) := by decide +kernel
theorem d_Mo_init_184 : decode b_Mo_init 184 = .ok (.bipush 28, 2) := by decide +kernel
theorem d_Mo_init_186 : decode b_Mo_init 186 = .ok (.newarray .double, 2) := by decide +kernel
theorem d_Mo_init_188 : decode b_Mo_init 188 = .ok (.putfield 78, 3) := by decide +kernel
theorem d_Mo_init_191 : decode b_Mo_init 191 = .ok (.aload_n 0, 1) := by decide +kernel
theorem d_Mo_init_192 : decode b_Mo_init 192 = .ok (.bipush 28, 2) := by decide +kernel
theorem d_Mo_init_194 : decode b_Mo_init 194 = .ok (.newarray .double, 2) := by decide +kernel
theorem d_Mo_init_196 : decode b_Mo_init 196 = .ok (.putfield 81, 3) := by decide +kernel
theorem d_Mo_init_199 : decode b_Mo_init 199 = .ok (.aload_n 0, 1) := by decide +kernel
theorem d_Mo_init_200 : decode b_Mo_init 200 = .ok (.sipush 192, 3) := by decide +kernel
theorem d_Mo_init_203 : decode b_Mo_init 203 = .ok (.newarray .int, 2) := by decide +kernel
theorem d_Mo_init_205 : decode b_Mo_init 205 = .ok (.putfield 84, 3) := by decide +kernel
theorem d_Mo_init_208 : decode b_Mo_init 208 = .ok (.aload_n 0, 1) := by decide +kernel
theorem d_Mo_init_209 : decode b_Mo_init 209 = .ok (.getfield 7, 3) := by decide +kernel
theorem d_Mo_init_212 : decode b_Mo_init 212 = .ok (.iconst 0, 1) := by decide +kernel
theorem d_Mo_init_213 : decode b_Mo_init 213 = .ok (.iconst 1, 1) := by decide +kernel
theorem d_Mo_init_214 : decode b_Mo_init 214 = .ok (.bastore, 1) := by decide +kernel
theorem d_Mo_init_215 : decode b_Mo_init 215 = .ok (.aload_n 0, 1) := by decide +kernel
theorem d_Mo_init_216 : decode b_Mo_init 216 = .ok (.getfield 29, 3) := by decide +kernel
theorem d_Mo_init_219 : decode b_Mo_init 219 = .ok (.iconst 0, 1) := by decide +kernel
theorem d_Mo_init_220 : decode b_Mo_init 220 = .ok (.iconst (-1), 1) := by decide +kernel
theorem d_Mo_init_221 : decode b_Mo_init 221 = .ok (.iastore, 1) := by decide +kernel
theorem d_Mo_init_222 : decode b_Mo_init 222 = .ok (.aload_n 0, 1) := by decide +kernel
theorem d_Mo_init_223 : decode b_Mo_init 223 = .ok (.getfield 53, 3) := by decide +kernel
theorem d_Mo_init_226 : decode b_Mo_init 226 = .ok (.iconst 0, 1) := by decide +kernel
theorem d_Mo_init_227 : decode b_Mo_init 227 = .ok (.dconst 1, 1) := by decide +kernel
theorem d_Mo_init_228 : decode b_Mo_init 228 = .ok (.dastore, 1) := by decide +kernel
theorem d_Mo_init_229 : decode b_Mo_init 229 = .ok (.aload_n 0, 1) := by decide +kernel
theorem d_Mo_init_230 : decode b_Mo_init 230 = .ok (.invokevirtual 87, 3) := by decide +kernel
theorem d_Mo_init_233 : decode b_Mo_init 233 = .ok (.return_, 1) := by decide +kernel
theorem d_Mo_sortNodes_0 : decode b_Mo_sortNodes 0 = .ok (.aload_n 0, 1) := by decide +kernel
theorem d_Mo_sortNodes_1 : decode b_Mo_sortNodes 1 = .ok (.iconst 1, 1) := by decide +kernel
theorem d_Mo_sortNodes_2 : decode b_Mo_sortNodes 2 = .ok (.putfield 98, 3) := by decide +kernel
theorem d_Mo_sortNodes_5 : decode b_Mo_sortNodes 5 = .ok (.aload_n 0, 1) := by decide +kernel
theorem d_Mo_sortNodes_6 : decode b_Mo_sortNodes 6 = .ok (.getfield 44, 3) := by decide +kernel
theorem d_Mo_sortNodes_9 : decode b_Mo_sortNodes 9 = .ok (.iconst 0, 1) := by decide +kernel
theorem d_Mo_sortNodes_10 : decode b_Mo_sortNodes 10 = .ok (.iconst 0, 1) := by decide +kernel
theorem d_Mo_sortNodes_11 : decode b_Mo_sortNodes 11 = .ok (.iastore, 1) := by decide +kernel
theorem d_Mo_sortNodes_12 : decode b_Mo_sortNodes 12 = .ok (.aload_n 0, 1) := by decide +kernel
theorem d_Mo_sortNodes_13 : decode b_Mo_sortNodes 13 = .ok (.getfield 50, 3) := by decide +kernel
theorem d_Mo_sortNodes_16 : decode b_Mo_sortNodes 16 = .ok (.iconst 0, 1) := by decide +kernel
theorem d_Mo_sortNodes_17 : decode b_Mo_sortNodes 17 = .ok (.iconst 0, 1) := by decide +kernel
theorem d_Mo_sortNodes_18 : decode b_Mo_sortNodes 18 = .ok (.iastore, 1) := by decide +kernel
theorem d_Mo_sortNodes_19 : decode b_Mo_sortNodes 19 = .ok (.iconst 0, 1) := by decide +kernel
theorem d_Mo_sortNodes_20 : decode b_Mo_sortNodes 20 = .ok (.istore_n 1, 1) := by decide +kernel
theorem d_Mo_sortNodes_21 : decode b_Mo_sortNodes 21 = .ok (.iload_n 1, 1) := by decide +kernel
theorem d_Mo_sortNodes_22 : decode b_Mo_sortNodes 22 = .ok (.aload_n 0, 1) := by decide +kernel
theorem d_Mo_sortNodes_23 : decode b_Mo_sortNodes 23 = .ok (.getfield 98, 3) := by decide +kernel
theorem d_Mo_sortNodes_26 : decode b_Mo_sortNodes 26 = .ok (.if_icmp .ge 83, 3) := by decide +kernel
theorem d_Mo_sortNodes_29 : decode b_Mo_sortNodes 29 = .ok (.aload_n 0, 1) := by decide +kernel
theorem d_Mo_sortNodes_30 : decode b_Mo_sortNodes 30 = .ok (.getfield 44, 3) := by decide +kernel
theorem d_Mo_sortNodes_33 : decode b_Mo_sortNodes 33 = .ok (.iload_n 1, 1) := by decide +kernel
theorem d_Mo_sortNodes_34 : decode b_Mo_sortNodes 34 = .ok (.iaload, 1) := by decide +kernel
theorem d_Mo_sortNodes_35 : decode b_Mo_sortNodes 35 = .ok (.istore_n 2, 1) := by decide +kernel
theorem d_Mo_sortNodes_36 : decode b_Mo_sortNodes 36 = .ok (.iconst 0, 1) := by decide +kernel
theorem d_Mo_sortNodes_37 : decode b_Mo_sortNodes 37 = .ok (.istore_n 3, 1) := by decide +kernel
theorem d_Mo_sortNodes_38 : decode b_Mo_sortNodes 38 = .ok (.iload_n 3, 1) := by decide +kernel
theorem d_Mo_sortNodes_39 : decode b_Mo_sortNodes 39 = .ok (.aload_n 0, 1) := by decide +kernel
theorem d_Mo_sortNodes_40 : decode b_Mo_sortNodes 40 = .ok (.getfield 32, 3) := by decide +kernel
theorem d_Mo_sortNodes_43 : decode b_Mo_sortNodes 43 = .ok (.iload_n 2, 1) := by decide +kernel
theorem d_Mo_sortNodes_44 : decode b_Mo_sortNodes 44 = .ok (.iaload, 1) := by decide +kernel
theorem d_Mo_sortNodes_45 : decode b_Mo_sortNodes 45 = .ok (.if_icmp .ge 58, 3) := by decide +kernel
theorem d_Mo_sortNodes_48 : decode b_Mo_sortNodes 48 = .ok (.aload_n 0, 1) := by decide +kernel
theorem d_Mo_sortNodes_49 : decode b_Mo_sortNodes 49 = .ok (.getfield 35, 3) := by decide +kernel
theorem d_Mo_sortNodes_52 : decode b_Mo_sortNodes 52 = .ok (.iload_n 2, 1) := by decide +kernel
theorem d_Mo_sortNodes_53 : decode b_Mo_sortNodes 53 = .ok (.bipush 14, 2) := by decide +kernel
theorem d_Mo_sortNodes_55 : decode b_Mo_sortNodes 55 = .ok (.imul, 1) := by decide +kernel
theorem d_Mo_sortNodes_56 : decode b_Mo_sortNodes 56 = .ok (.iload_n 3, 1) := by decide +kernel
theorem d_Mo_sortNodes_57 : decode b_Mo_sortNodes 57 = .ok (.iadd, 1) := by decide +kernel
theorem d_Mo_sortNodes_58 : decode b_Mo_sortNodes 58 = .ok (.iaload, 1) := by decide +kernel
theorem d_Mo_sortNodes_59 : decode b_Mo_sortNodes 59 = .ok (.istore 4, 2) := by decide +kernel
theorem d_Mo_sortNodes_61 : decode b_Mo_sortNodes 61 = .ok (.aload_n 0, 1) := by decide +kernel
theorem d_Mo_sortNodes_62 : decode b_Mo_sortNodes 62 = .ok (.getfield 44, 3) := by decide +kernel
theorem d_Mo_sortNodes_65 : decode b_Mo_sortNodes 65 = .ok (.aload_n 0, 1) := by decide +kernel
theorem d_Mo_sortNodes_66 : decode b_Mo_sortNodes 66 = .ok (.getfield 98, 3) := by decide +kernel
theorem d_Mo_sortNodes_69 : decode b_Mo_sortNodes 69 = .ok (.iload 4, 2) := by decide +kernel
theorem d_Mo_sortNodes_71 : decode b_Mo_sortNodes 71 = .ok (.iastore, 1) := by decide +kernel
theorem d_Mo_sortNodes_72 : decode b_Mo_sortNodes 72 = .ok (.aload_n 0, 1) := by decide +kernel
theorem d_Mo_sortNodes_73 : decode b_Mo_sortNodes 73 = .ok (.getfield 50, 3) := by decide +kernel
theorem d_Mo_sortNodes_76 : decode b_Mo_sortNodes 76 = .ok (.iload 4, 2) := by decide +kernel
theorem d_Mo_sortNodes_78 : decode b_Mo_sortNodes 78 = .ok (.aload_n 0, 1) := by decide +kernel
theorem d_Mo_sortNodes_79 : decode b_Mo_sortNodes 79 = .ok (.getfield 50, 3) := by decide +kernel
theorem d_Mo_sortNodes_82 : decode b_Mo_sortNodes 82 = .ok (.iload_n 2, 1) := by decide +kernel
theorem d_Mo_sortNodes_83 : decode b_Mo_sortNodes 83 = .ok (.iaload, 1) := by decide +kernel
theorem d_Mo_sortNodes_84 : decode b_Mo_sortNodes 84 = .ok (.iconst 1, 1) := by decide +kernel
theorem d_Mo_sortNodes_85 : decode b_Mo_sortNodes 85 = .ok (.iadd, 1) := by decide +kernel
theorem d_Mo_sortNodes_86 : decode b_Mo_sortNodes 86 = .ok (.iastore, 1) := by decide +kernel
theorem d_Mo_sortNodes_87 : decode b_Mo_sortNodes 87 = .ok (.aload_n 0, 1) := by decide +kernel
theorem d_Mo_sortNodes_88 : decode b_Mo_sortNodes 88 = .ok (.dup, 1) := by decide +kernel
theorem d_Mo_sortNodes_89 : decode b_Mo_sortNodes 89 = .ok (.getfield 98, 3) := by decide +kernel
theorem d_Mo_sortNodes_92 : decode b_Mo_sortNodes 92 = .ok (.iconst 1, 1) := by decide +kernel
theorem d_Mo_sortNodes_93 : decode b_Mo_sortNodes 93 = .ok (.iadd, 1) := by decide +kernel
theorem d_Mo_sortNodes_94 : decode b_Mo_sortNodes 94 = .ok (.putfield 98, 3) := by decide +kernel
theorem d_Mo_sortNodes_97 : decode b_Mo_sortNodes 97 = .ok (.iinc 3 1, 3) := by decide +kernel
theorem d_Mo_sortNodes_100 : decode b_Mo_sortNodes 100 = .ok (.goto (-62), 3) := by decide +kernel
theorem d_Mo_sortNodes_103 : decode b_Mo_sortNodes 103 = .ok (.iinc 1 1, 3) := by decide +kernel
theorem d_Mo_sortNodes_106 : decode b_Mo_sortNodes 106 = .ok (.goto (-85), 3) := by decide +kernel
theorem d_Mo_sortNodes_109 : decode b_Mo_sortNodes 109 = .ok (.return_, 1) := by decide +kernel
theorem d_Mo_thrown_0 : decode b_Mo_thrown 0 = .ok (.aload_n 0, 1) := by decide +kernel
theorem d_Mo_thrown_1 : decode b_Mo_thrown 1 = .ok (.getfield 90, 3) := by decide +kernel
theorem d_Mo_thrown_4 : decode b_Mo_thrown 4 = .ok (.ireturn, 1) := by decide +kernel
theorem d_Mo_node_0 : decode b_Mo_node 0 = .ok (.aload_n 0, 1) := by decide +kernel
theorem d_Mo_node_1 : decode b_Mo_node 1 = .ok (.aload_n 0, 1) := by decide +kernel
theorem d_Mo_node_2 : decode b_Mo_node 2 = .ok (.iload_n 1, 1) := by decide +kernel
theorem d_Mo_node_3 : decode b_Mo_node 3 = .ok (.invokevirtual 105, 3) := by decide +kernel
theorem d_Mo_node_6 : decode b_Mo_node 6 = .ok (.ifCond .eq 26, 3) := by decide +kernel
theorem d_Mo_node_9 : decode b_Mo_node 9 = .ok (.iload_n 2, 1) := by decide +kernel
theorem d_Mo_node_10 : decode b_Mo_node 10 = .ok (.ifCond .lt 22, 3) := by decide +kernel
theorem d_Mo_node_13 : decode b_Mo_node 13 = .ok (.iload_n 2, 1) := by decide +kernel
theorem d_Mo_node_14 : decode b_Mo_node 14 = .ok (.iconst 4, 1) := by decide +kernel
theorem d_Mo_node_15 : decode b_Mo_node 15 = .ok (.if_icmp .ge 17, 3) := by decide +kernel
theorem d_Mo_node_18 : decode b_Mo_node 18 = .ok (.iload_n 3, 1) := by decide +kernel
theorem d_Mo_node_19 : decode b_Mo_node 19 = .ok (.ifCond .le 13, 3) := by decide +kernel
theorem d_Mo_node_22 : decode b_Mo_node 22 = .ok (.iload_n 3, 1) := by decide +kernel
theorem d_Mo_node_23 : decode b_Mo_node 23 = .ok (.bipush 16, 2) := by decide +kernel
theorem d_Mo_node_25 : decode b_Mo_node 25 = .ok (.if_icmp .ge 7, 3) := by decide +kernel
theorem d_Mo_node_28 : decode b_Mo_node 28 = .ok (.iconst 1, 1) := by decide +kernel
theorem d_Mo_node_29 : decode b_Mo_node 29 = .ok (.goto 4, 3) := by decide +kernel
theorem d_Mo_node_32 : decode b_Mo_node 32 = .ok (.iconst 0, 1) := by decide +kernel
theorem d_Mo_node_33 : decode b_Mo_node 33 = .ok (.invokevirtual 108, 3) := by decide +kernel
theorem d_Mo_node_36 : decode b_Mo_node 36 = .ok (.ifCond .eq 5, 3) := by decide +kernel
theorem d_Mo_node_39 : decode b_Mo_node 39 = .ok (.iconst 0, 1) := by decide +kernel
theorem d_Mo_node_40 : decode b_Mo_node 40 = .ok (.ireturn, 1) := by decide +kernel
theorem d_Mo_node_41 : decode b_Mo_node 41 = .ok (.aload_n 0, 1) := by decide +kernel
theorem d_Mo_node_42 : decode b_Mo_node 42 = .ok (.getfield 98, 3) := by decide +kernel
theorem d_Mo_node_45 : decode b_Mo_node 45 = .ok (.bipush 14, 2) := by decide +kernel
theorem d_Mo_node_47 : decode b_Mo_node 47 = .ok (.if_icmp .eq 13, 3) := by decide +kernel
theorem d_Mo_node_50 : decode b_Mo_node 50 = .ok (.aload_n 0, 1) := by decide +kernel
theorem d_Mo_node_51 : decode b_Mo_node 51 = .ok (.getfield 50, 3) := by decide +kernel
theorem d_Mo_node_54 : decode b_Mo_node 54 = .ok (.iload_n 1, 1) := by decide +kernel
theorem d_Mo_node_55 : decode b_Mo_node 55 = .ok (.iaload, 1) := by decide +kernel
theorem d_Mo_node_56 : decode b_Mo_node 56 = .ok (.iconst 5, 1) := by decide +kernel
theorem d_Mo_node_57 : decode b_Mo_node 57 = .ok (.if_icmp .ne 10, 3) := by decide +kernel
theorem d_Mo_node_60 : decode b_Mo_node 60 = .ok (.aload_n 0, 1) := by decide +kernel
theorem d_Mo_node_61 : decode b_Mo_node 61 = .ok (.iconst 2, 1) := by decide +kernel
theorem d_Mo_node_62 : decode b_Mo_node 62 = .ok (.putfield 90, 3) := by decide +kernel
theorem d_Mo_node_65 : decode b_Mo_node 65 = .ok (.iconst 0, 1) := by decide +kernel
theorem d_Mo_node_66 : decode b_Mo_node 66 = .ok (.ireturn, 1) := by decide +kernel
theorem d_Mo_node_67 : decode b_Mo_node 67 = .ok (.iconst 1, 1) := by decide +kernel
theorem d_Mo_node_68 : decode b_Mo_node 68 = .ok (.istore 4, 2) := by decide +kernel
theorem d_Mo_node_70 : decode b_Mo_node 70 = .ok (.aload_n 0, 1) := by decide +kernel
theorem d_Mo_node_71 : decode b_Mo_node 71 = .ok (.getfield 7, 3) := by decide +kernel
theorem d_Mo_node_74 : decode b_Mo_node 74 = .ok (.iload 4, 2) := by decide +kernel
theorem d_Mo_node_76 : decode b_Mo_node 76 = .ok (.baload, 1) := by decide +kernel
theorem d_Mo_node_77 : decode b_Mo_node 77 = .ok (.ifCond .eq 9, 3) := by decide +kernel
theorem d_Mo_node_80 : decode b_Mo_node 80 = .ok (.iinc 4 1, 3) := by decide +kernel
theorem d_Mo_node_83 : decode b_Mo_node 83 = .ok (.goto (-13), 3) := by decide +kernel
theorem d_Mo_node_86 : decode b_Mo_node 86 = .ok (.aload_n 0, 1) := by decide +kernel
theorem d_Mo_node_87 : decode b_Mo_node 87 = .ok (.getfield 7, 3) := by decide +kernel
theorem d_Mo_node_90 : decode b_Mo_node 90 = .ok (.iload 4, 2) := by decide +kernel
theorem d_Mo_node_92 : decode b_Mo_node 92 = .ok (.iconst 1, 1) := by decide +kernel
theorem d_Mo_node_93 : decode b_Mo_node 93 = .ok (.bastore, 1) := by decide +kernel
theorem d_Mo_node_94 : decode b_Mo_node 94 = .ok (.aload_n 0, 1) := by decide +kernel
theorem d_Mo_node_95 : decode b_Mo_node 95 = .ok (.getfield 13, 3) := by decide +kernel
theorem d_Mo_node_98 : decode b_Mo_node 98 = .ok (.iload 4, 2) := by decide +kernel
theorem d_Mo_node_100 : decode b_Mo_node 100 = .ok (.iconst 0, 1) := by decide +kernel
theorem d_Mo_node_101 : decode b_Mo_node 101 = .ok (.bastore, 1) := by decide +kernel
theorem d_Mo_node_102 : decode b_Mo_node 102 = .ok (.aload_n 0, 1) := by decide +kernel
theorem d_Mo_node_103 : decode b_Mo_node 103 = .ok (.getfield 22, 3) := by decide +kernel
theorem d_Mo_node_106 : decode b_Mo_node 106 = .ok (.iload 4, 2) := by decide +kernel
theorem d_Mo_node_108 : decode b_Mo_node 108 = .ok (.iload_n 2, 1) := by decide +kernel
theorem d_Mo_node_109 : decode b_Mo_node 109 = .ok (.iastore, 1) := by decide +kernel
theorem d_Mo_node_110 : decode b_Mo_node 110 = .ok (.aload_n 0, 1) := by decide +kernel
theorem d_Mo_node_111 : decode b_Mo_node 111 = .ok (.getfield 26, 3) := by decide +kernel
theorem d_Mo_node_114 : decode b_Mo_node 114 = .ok (.iload 4, 2) := by decide +kernel
theorem d_Mo_node_116 : decode b_Mo_node 116 = .ok (.iconst 0, 1) := by decide +kernel
theorem d_Mo_node_117 : decode b_Mo_node 117 = .ok (.iastore, 1) := by decide +kernel
theorem d_Mo_node_118 : decode b_Mo_node 118 = .ok (.aload_n 0, 1) := by decide +kernel
theorem d_Mo_node_119 : decode b_Mo_node 119 = .ok (.getfield 53, 3) := by decide +kernel
theorem d_Mo_node_122 : decode b_Mo_node 122 = .ok (.iload 4, 2) := by decide +kernel
theorem d_Mo_node_124 : decode b_Mo_node 124 = .ok (.dconst 1, 1) := by decide +kernel
theorem d_Mo_node_125 : decode b_Mo_node 125 = .ok (.dastore, 1) := by decide +kernel
theorem d_Mo_node_126 : decode b_Mo_node 126 = .ok (.aload_n 0, 1) := by decide +kernel
theorem d_Mo_node_127 : decode b_Mo_node 127 = .ok (.getfield 32, 3) := by decide +kernel
theorem d_Mo_node_130 : decode b_Mo_node 130 = .ok (.iload 4, 2) := by decide +kernel
theorem d_Mo_node_132 : decode b_Mo_node 132 = .ok (.iconst 0, 1) := by decide +kernel
theorem d_Mo_node_133 : decode b_Mo_node 133 = .ok (.iastore, 1) := by decide +kernel
theorem d_Mo_node_134 : decode b_Mo_node 134 = .ok (.aload_n 0, 1) := by decide +kernel
theorem d_Mo_node_135 : decode b_Mo_node 135 = .ok (.getfield 38, 3) := by decide +kernel
theorem d_Mo_node_138 : decode b_Mo_node 138 = .ok (.iload 4, 2) := by decide +kernel
theorem d_Mo_node_140 : decode b_Mo_node 140 = .ok (.iconst 0, 1) := by decide +kernel
theorem d_Mo_node_141 : decode b_Mo_node 141 = .ok (.iastore, 1) := by decide +kernel
theorem d_Mo_node_142 : decode b_Mo_node 142 = .ok (.aload_n 0, 1) := by decide +kernel
theorem d_Mo_node_143 : decode b_Mo_node 143 = .ok (.getfield 57, 3) := by decide +kernel
theorem d_Mo_node_146 : decode b_Mo_node 146 = .ok (.iload 4, 2) := by decide +kernel
theorem d_Mo_node_148 : decode b_Mo_node 148 = .ok (.dconst 1, 1) := by decide +kernel
theorem d_Mo_node_149 : decode b_Mo_node 149 = .ok (.dastore, 1) := by decide +kernel
theorem d_Mo_node_150 : decode b_Mo_node 150 = .ok (.aload_n 0, 1) := by decide +kernel
theorem d_Mo_node_151 : decode b_Mo_node 151 = .ok (.getfield 60, 3) := by decide +kernel
theorem d_Mo_node_154 : decode b_Mo_node 154 = .ok (.iload 4, 2) := by decide +kernel
theorem d_Mo_node_156 : decode b_Mo_node 156 = .ok (.dconst 1, 1) := by decide +kernel
theorem d_Mo_node_157 : decode b_Mo_node 157 = .ok (.dastore, 1) := by decide +kernel
theorem d_Mo_node_158 : decode b_Mo_node 158 = .ok (.iconst 0, 1) := by decide +kernel
theorem d_Mo_node_159 : decode b_Mo_node 159 = .ok (.istore 5, 2) := by decide +kernel
theorem d_Mo_node_161 : decode b_Mo_node 161 = .ok (.iload 5, 2) := by decide +kernel
theorem d_Mo_node_163 : decode b_Mo_node 163 = .ok (.iconst 4, 1) := by decide +kernel
theorem d_Mo_node_164 : decode b_Mo_node 164 = .ok (.if_icmp .ge 46, 3) := by decide +kernel
theorem d_Mo_node_167 : decode b_Mo_node 167 = .ok (.aload_n 0, 1) := by decide +kernel
theorem d_Mo_node_168 : decode b_Mo_node 168 = .ok (.getfield 41, 3) := by decide +kernel
theorem d_Mo_node_171 : decode b_Mo_node 171 = .ok (.iload 4, 2) := by decide +kernel
theorem d_Mo_node_173 : decode b_Mo_node 173 = .ok (.iconst 4, 1) := by decide +kernel
theorem d_Mo_node_174 : decode b_Mo_node 174 = .ok (.imul, 1) := by decide +kernel
theorem d_Mo_node_175 : decode b_Mo_node 175 = .ok (.iload 5, 2) := by decide +kernel
theorem d_Mo_node_177 : decode b_Mo_node 177 = .ok (.iadd, 1) := by decide +kernel
theorem d_Mo_node_178 : decode b_Mo_node 178 = .ok (.iconst 0, 1) := by decide +kernel
theorem d_Mo_node_179 : decode b_Mo_node 179 = .ok (.iastore, 1) := by decide +kernel
theorem d_Mo_node_180 : decode b_Mo_node 180 = .ok (.aload_n 0, 1) := by decide +kernel
theorem d_Mo_node_181 : decode b_Mo_node 181 = .ok (.getfield 63, 3) := by decide +kernel
theorem d_Mo_node_184 : decode b_Mo_node 184 = .ok (.iload 4, 2) := by decide +kernel
theorem d_Mo_node_186 : decode b_Mo_node 186 = .ok (.iconst 4, 1) := by decide +kernel
theorem d_Mo_node_187 : decode b_Mo_node 187 = .ok (.imul, 1) := by decide +kernel
theorem d_Mo_node_188 : decode b_Mo_node 188 = .ok (.iload 5, 2) := by decide +kernel
theorem d_Mo_node_190 : decode b_Mo_node 190 = .ok (.iadd, 1) := by decide +kernel
theorem d_Mo_node_191 : decode b_Mo_node 191 = .ok (.iload 5, 2) := by decide +kernel
theorem d_Mo_node_193 : decode b_Mo_node 193 = .ok (.iconst 3, 1) := by decide +kernel
theorem d_Mo_node_194 : decode b_Mo_node 194 = .ok (.if_icmp .ne 8, 3) := by decide +kernel
theorem d_Mo_node_197 : decode b_Mo_node 197 = .ok (.iload_n 3, 1) := by decide +kernel
theorem d_Mo_node_198 : decode b_Mo_node 198 = .ok (.i2d, 1) := by decide +kernel
theorem d_Mo_node_199 : decode b_Mo_node 199 = .ok (.goto 4, 3) := by decide +kernel
theorem d_Mo_node_202 : decode b_Mo_node 202 = .ok (.dconst 0, 1) := by decide +kernel
theorem d_Mo_node_203 : decode b_Mo_node 203 = .ok (.dastore, 1) := by decide +kernel
theorem d_Mo_node_204 : decode b_Mo_node 204 = .ok (.iinc 5 1, 3) := by decide +kernel
theorem d_Mo_node_207 : decode b_Mo_node 207 = .ok (.goto (-46), 3) := by decide +kernel
theorem d_Mo_node_210 : decode b_Mo_node 210 = .ok (.aload_n 0, 1) := by decide +kernel
theorem d_Mo_node_211 : decode b_Mo_node 211 = .ok (.iload 4, 2) := by decide +kernel
theorem d_Mo_node_213 : decode b_Mo_node 213 = .ok (.iload_n 1, 1) := by decide +kernel
theorem d_Mo_node_214 : decode b_Mo_node 214 = .ok (.invokevirtual 112, 3) := by decide +kernel
theorem d_Mo_node_217 : decode b_Mo_node 217 = .ok (.iload 4, 2) := by decide +kernel
theorem d_Mo_node_219 : decode b_Mo_node 219 = .ok (.ireturn, 1) := by decide +kernel
theorem d_Mo_isGroup_0 : decode b_Mo_isGroup 0 = .ok (.aload_n 0, 1) := by decide +kernel
theorem d_Mo_isGroup_1 : decode b_Mo_isGroup 1 = .ok (.iload_n 1, 1) := by decide +kernel
theorem d_Mo_isGroup_2 : decode b_Mo_isGroup 2 = .ok (.invokevirtual 94, 3) := by decide +kernel
theorem d_Mo_isGroup_5 : decode b_Mo_isGroup 5 = .ok (.ifCond .eq 16, 3) := by decide +kernel
theorem d_Mo_isGroup_8 : decode b_Mo_isGroup 8 = .ok (.aload_n 0, 1) := by decide +kernel
theorem d_Mo_isGroup_9 : decode b_Mo_isGroup 9 = .ok (.getfield 22, 3) := by decide +kernel
theorem d_Mo_isGroup_12 : decode b_Mo_isGroup 12 = .ok (.iload_n 1, 1) := by decide +kernel
theorem d_Mo_isGroup_13 : decode b_Mo_isGroup 13 = .ok (.iaload, 1) := by decide +kernel
theorem d_Mo_isGroup_14 : decode b_Mo_isGroup 14 = .ok (.ifCond .ne 7, 3) := by decide +kernel
theorem d_Mo_isGroup_17 : decode b_Mo_isGroup 17 = .ok (.iconst 1, 1) := by decide +kernel
theorem d_Mo_isGroup_18 : decode b_Mo_isGroup 18 = .ok (.goto 4, 3) := by decide +kernel
theorem d_Mo_isGroup_21 : decode b_Mo_isGroup 21 = .ok (.iconst 0, 1) := by decide +kernel
theorem d_Mo_isGroup_22 : decode b_Mo_isGroup 22 = .ok (.ireturn, 1) := by decide +kernel
theorem d_Mo_is_0 : decode b_Mo_is 0 = .ok (.iload_n 1, 1) := by decide +kernel
theorem d_Mo_is_1 : decode b_Mo_is 1 = .ok (.ifCond .lt 22, 3) := by decide +kernel
theorem d_Mo_is_4 : decode b_Mo_is 4 = .ok (.iload_n 1, 1) := by decide +kernel
theorem d_Mo_is_5 : decode b_Mo_is 5 = .ok (.bipush 14, 2) := by decide +kernel
theorem d_Mo_is_7 : decode b_Mo_is 7 = .ok (.if_icmp .ge 16, 3) := by decide +kernel
theorem d_Mo_is_10 : decode b_Mo_is 10 = .ok (.aload_n 0, 1) := by decide +kernel
theorem d_Mo_is_11 : decode b_Mo_is 11 = .ok (.getfield 7, 3) := by decide +kernel
theorem d_Mo_is_14 : decode b_Mo_is 14 = .ok (.iload_n 1, 1) := by decide +kernel
theorem d_Mo_is_15 : decode b_Mo_is 15 = .ok (.baload, 1) := by decide +kernel
theorem d_Mo_is_16 : decode b_Mo_is 16 = .ok (.ifCond .eq 7, 3) := by decide +kernel
theorem d_Mo_is_19 : decode b_Mo_is 19 = .ok (.iconst 1, 1) := by decide +kernel
theorem d_Mo_is_20 : decode b_Mo_is 20 = .ok (.goto 4, 3) := by decide +kernel
theorem d_Mo_is_23 : decode b_Mo_is 23 = .ok (.iconst 0, 1) := by decide +kernel
theorem d_Mo_is_24 : decode b_Mo_is 24 = .ok (.ireturn, 1) := by decide +kernel
theorem d_Mo_bad_0 : decode b_Mo_bad 0 = .ok (.aload_n 0, 1) := by decide +kernel
theorem d_Mo_bad_1 : decode b_Mo_bad 1 = .ok (.iload_n 1, 1) := by decide +kernel
theorem d_Mo_bad_2 : decode b_Mo_bad 2 = .ok (.ifCond .eq 7, 3) := by decide +kernel
theorem d_Mo_bad_5 : decode b_Mo_bad 5 = .ok (.iconst 0, 1) := by decide +kernel
theorem d_Mo_bad_6 : decode b_Mo_bad 6 = .ok (.goto 4, 3) := by decide +kernel
theorem d_Mo_bad_9 : decode b_Mo_bad 9 = .ok (.iconst 1, 1) := by decide +kernel
theorem d_Mo_bad_10 : decode b_Mo_bad 10 = .ok (.putfield 90, 3) := by decide +kernel
theorem d_Mo_bad_13 : decode b_Mo_bad 13 = .ok (.iload_n 1, 1) := by decide +kernel
theorem d_Mo_bad_14 : decode b_Mo_bad 14 = .ok (.ifCond .ne 7, 3) := by decide +kernel
theorem d_Mo_bad_17 : decode b_Mo_bad 17 = .ok (.iconst 1, 1) := by decide +kernel
theorem d_Mo_bad_18 : decode b_Mo_bad 18 = .ok (.goto 4, 3) := by decide +kernel
theorem d_Mo_bad_21 : decode b_Mo_bad 21 = .ok (.iconst 0, 1) := by decide +kernel
theorem d_Mo_bad_22 : decode b_Mo_bad 22 = .ok (.ireturn, 1) := by decide +kernel
theorem d_Mo_enter_0 : decode b_Mo_enter 0 = .ok (.aload_n 0, 1) := by decide +kernel
theorem d_Mo_enter_1 : decode b_Mo_enter 1 = .ok (.getfield 29, 3) := by decide +kernel
theorem d_Mo_enter_4 : decode b_Mo_enter 4 = .ok (.iload_n 1, 1) := by decide +kernel
theorem d_Mo_enter_5 : decode b_Mo_enter 5 = .ok (.iload_n 2, 1) := by decide +kernel
theorem d_Mo_enter_6 : decode b_Mo_enter 6 = .ok (.iastore, 1) := by decide +kernel
theorem d_Mo_enter_7 : decode b_Mo_enter 7 = .ok (.aload_n 0, 1) := by decide +kernel
theorem d_Mo_enter_8 : decode b_Mo_enter 8 = .ok (.getfield 35, 3) := by decide +kernel
theorem d_Mo_enter_11 : decode b_Mo_enter 11 = .ok (.iload_n 2, 1) := by decide +kernel
theorem d_Mo_enter_12 : decode b_Mo_enter 12 = .ok (.bipush 14, 2) := by decide +kernel
theorem d_Mo_enter_14 : decode b_Mo_enter 14 = .ok (.imul, 1) := by decide +kernel
theorem d_Mo_enter_15 : decode b_Mo_enter 15 = .ok (.aload_n 0, 1) := by decide +kernel
theorem d_Mo_enter_16 : decode b_Mo_enter 16 = .ok (.getfield 32, 3) := by decide +kernel
theorem d_Mo_enter_19 : decode b_Mo_enter 19 = .ok (.iload_n 2, 1) := by decide +kernel
theorem d_Mo_enter_20 : decode b_Mo_enter 20 = .ok (.iaload, 1) := by decide +kernel
theorem d_Mo_enter_21 : decode b_Mo_enter 21 = .ok (.iadd, 1) := by decide +kernel
theorem d_Mo_enter_22 : decode b_Mo_enter 22 = .ok (.iload_n 1, 1) := by decide +kernel
theorem d_Mo_enter_23 : decode b_Mo_enter 23 = .ok (.iastore, 1) := by decide +kernel
theorem d_Mo_enter_24 : decode b_Mo_enter 24 = .ok (.aload_n 0, 1) := by decide +kernel
theorem d_Mo_enter_25 : decode b_Mo_enter 25 = .ok (.getfield 32, 3) := by decide +kernel
theorem d_Mo_enter_28 : decode b_Mo_enter 28 = .ok (.iload_n 2, 1) := by decide +kernel
theorem d_Mo_enter_29 : decode b_Mo_enter 29 = .ok (.dup2, 1) := by decide +kernel
theorem d_Mo_enter_30 : decode b_Mo_enter 30 = .ok (.iaload, 1) := by decide +kernel
theorem d_Mo_enter_31 : decode b_Mo_enter 31 = .ok (.iconst 1, 1) := by decide +kernel
theorem d_Mo_enter_32 : decode b_Mo_enter 32 = .ok (.iadd, 1) := by decide +kernel
theorem d_Mo_enter_33 : decode b_Mo_enter 33 = .ok (.iastore, 1) := by decide +kernel
theorem d_Mo_enter_34 : decode b_Mo_enter 34 = .ok (.aload_n 0, 1) := by decide +kernel
theorem d_Mo_enter_35 : decode b_Mo_enter 35 = .ok (.invokevirtual 87, 3) := by decide +kernel
theorem d_Mo_enter_38 : decode b_Mo_enter 38 = .ok (.return_, 1) := by decide +kernel
theorem d_Mo_lengths_0 : decode b_Mo_lengths 0 = .ok (.aload_n 0, 1) := by decide +kernel
theorem d_Mo_lengths_1 : decode b_Mo_lengths 1 = .ok (.aload_n 0, 1) := by decide +kernel
theorem d_Mo_lengths_2 : decode b_Mo_lengths 2 = .ok (.iload_n 1, 1) := by decide +kernel
theorem d_Mo_lengths_3 : decode b_Mo_lengths 3 = .ok (.invokevirtual 94, 3) := by decide +kernel
theorem d_Mo_lengths_6 : decode b_Mo_lengths 6 = .ok (.ifCond .eq 43, 3) := by decide +kernel
theorem d_Mo_lengths_9 : decode b_Mo_lengths 9 = .ok (.aload_n 0, 1) := by decide +kernel
theorem d_Mo_lengths_10 : decode b_Mo_lengths 10 = .ok (.getfield 22, 3) := by decide +kernel
theorem d_Mo_lengths_13 : decode b_Mo_lengths 13 = .ok (.iload_n 1, 1) := by decide +kernel
theorem d_Mo_lengths_14 : decode b_Mo_lengths 14 = .ok (.iaload, 1) := by decide +kernel
theorem d_Mo_lengths_15 : decode b_Mo_lengths 15 = .ok (.ifCond .le 34, 3) := by decide +kernel
theorem d_Mo_lengths_18 : decode b_Mo_lengths 18 = .ok (.dload_n 2, 1) := by decide +kernel
theorem d_Mo_lengths_19 : decode b_Mo_lengths 19 = .ok (.ldc2_w 116, 3) := by decide +kernel
theorem d_Mo_lengths_22 : decode b_Mo_lengths 22 = .ok (.ldc2_w 118, 3) := by decide +kernel
theorem d_Mo_lengths_25 : decode b_Mo_lengths 25 = .ok (.invokestatic 120, 3) := by decide +kernel
theorem d_Mo_lengths_28 : decode b_Mo_lengths 28 = .ok (.ifCond .eq 21, 3) := by decide +kernel
theorem d_Mo_lengths_31 : decode b_Mo_lengths 31 = .ok (.dload 4, 2) := by decide +kernel
theorem d_Mo_lengths_33 : decode b_Mo_lengths 33 = .ok (.ldc2_w 116, 3) := by decide +kernel
theorem d_Mo_lengths_36 : decode b_Mo_lengths 36 = .ok (.ldc2_w 118, 3) := by decide +kernel
theorem d_Mo_lengths_39 : decode b_Mo_lengths 39 = .ok (.invokestatic 120, 3) := by decide +kernel
theorem d_Mo_lengths_42 : decode b_Mo_lengths 42 = .ok (.ifCond .eq 7, 3) := by decide +kernel
theorem d_Mo_lengths_45 : decode b_Mo_lengths 45 = .ok (.iconst 1, 1) := by decide +kernel
theorem d_Mo_lengths_46 : decode b_Mo_lengths 46 = .ok (.goto 4, 3) := by decide +kernel
theorem d_Mo_lengths_49 : decode b_Mo_lengths 49 = .ok (.iconst 0, 1) := by decide +kernel
theorem d_Mo_lengths_50 : decode b_Mo_lengths 50 = .ok (.invokevirtual 108, 3) := by decide +kernel
theorem d_Mo_lengths_53 : decode b_Mo_lengths 53 = .ok (.ifCond .eq 4, 3) := by decide +kernel
theorem d_Mo_lengths_56 : decode b_Mo_lengths 56 = .ok (.return_, 1) := by decide +kernel
theorem d_Mo_lengths_57 : decode b_Mo_lengths 57 = .ok (.aload_n 0, 1) := by decide +kernel
theorem d_Mo_lengths_58 : decode b_Mo_lengths 58 = .ok (.getfield 57, 3) := by decide +kernel
theorem d_Mo_lengths_61 : decode b_Mo_lengths 61 = .ok (.iload_n 1, 1) := by decide +kernel
theorem d_Mo_lengths_62 : decode b_Mo_lengths 62 = .ok (.dload_n 2, 1) := by decide +kernel
theorem d_Mo_lengths_63 : decode b_Mo_lengths 63 = .ok (.dastore, 1) := by decide +kernel
theorem d_Mo_lengths_64 : decode b_Mo_lengths 64 = .ok (.aload_n 0, 1) := by decide +kernel
theorem d_Mo_lengths_65 : decode b_Mo_lengths 65 = .ok (.getfield 60, 3) := by decide +kernel
theorem d_Mo_lengths_68 : decode b_Mo_lengths 68 = .ok (.iload_n 1, 1) := by decide +kernel
theorem d_Mo_lengths_69 : decode b_Mo_lengths 69 = .ok (.dload 4, 2) := by decide +kernel
theorem d_Mo_lengths_71 : decode b_Mo_lengths 71 = .ok (.dastore, 1) := by decide +kernel
theorem d_Mo_lengths_72 : decode b_Mo_lengths 72 = .ok (.return_, 1) := by decide +kernel
theorem d_Mo_in_0 : decode b_Mo_in 0 = .ok (.dload_n 0, 1) := by decide +kernel
theorem d_Mo_in_1 : decode b_Mo_in 1 = .ok (.dload_n 2, 1) := by decide +kernel
theorem d_Mo_in_2 : decode b_Mo_in 2 = .ok (.dcmp .l, 1) := by decide +kernel
theorem d_Mo_in_3 : decode b_Mo_in 3 = .ok (.ifCond .lt 14, 3) := by decide +kernel
theorem d_Mo_in_6 : decode b_Mo_in 6 = .ok (.dload_n 0, 1) := by decide +kernel
theorem d_Mo_in_7 : decode b_Mo_in 7 = .ok (.dload 4, 2) := by decide +kernel
theorem d_Mo_in_9 : decode b_Mo_in 9 = .ok (.dcmp .g, 1) := by decide +kernel
theorem d_Mo_in_10 : decode b_Mo_in 10 = .ok (.ifCond .gt 7, 3) := by decide +kernel
theorem d_Mo_in_13 : decode b_Mo_in 13 = .ok (.iconst 1, 1) := by decide +kernel
theorem d_Mo_in_14 : decode b_Mo_in 14 = .ok (.goto 4, 3) := by decide +kernel
theorem d_Mo_in_17 : decode b_Mo_in 17 = .ok (.iconst 0, 1) := by decide +kernel
theorem d_Mo_in_18 : decode b_Mo_in 18 = .ok (.ireturn, 1) := by decide +kernel
theorem d_Mo_place_0 : decode b_Mo_place 0 = .ok (.aload_n 0, 1) := by decide +kernel
theorem d_Mo_place_1 : decode b_Mo_place 1 = .ok (.aload_n 0, 1) := by decide +kernel
theorem d_Mo_place_2 : decode b_Mo_place 2 = .ok (.iload_n 1, 1) := by decide +kernel
theorem d_Mo_place_3 : decode b_Mo_place 3 = .ok (.invokevirtual 124, 3) := by decide +kernel
theorem d_Mo_place_6 : decode b_Mo_place 6 = .ok (.ifCond .eq 34, 3) := by decide +kernel
theorem d_Mo_place_9 : decode b_Mo_place 9 = .ok (.dload_n 2, 1) := by decide +kernel
theorem d_Mo_place_10 : decode b_Mo_place 10 = .ok (.ldc2_w 127, 3) := by decide +kernel
theorem d_Mo_place_13 : decode b_Mo_place 13 = .ok (.ldc2_w 118, 3) := by decide +kernel
theorem d_Mo_place_16 : decode b_Mo_place 16 = .ok (.invokestatic 120, 3) := by decide +kernel
theorem d_Mo_place_19 : decode b_Mo_place 19 = .ok (.ifCond .eq 21, 3) := by decide +kernel
theorem d_Mo_place_22 : decode b_Mo_place 22 = .ok (.dload 4, 2) := by decide +kernel
theorem d_Mo_place_24 : decode b_Mo_place 24 = .ok (.ldc2_w 127, 3) := by decide +kernel
theorem d_Mo_place_27 : decode b_Mo_place 27 = .ok (.ldc2_w 118, 3) := by decide +kernel
theorem d_Mo_place_30 : decode b_Mo_place 30 = .ok (.invokestatic 120, 3) := by decide +kernel
theorem d_Mo_place_33 : decode b_Mo_place 33 = .ok (.ifCond .eq 7, 3) := by decide +kernel
theorem d_Mo_place_36 : decode b_Mo_place 36 = .ok (.iconst 1, 1) := by decide +kernel
theorem d_Mo_place_37 : decode b_Mo_place 37 = .ok (.goto 4, 3) := by decide +kernel
theorem d_Mo_place_40 : decode b_Mo_place 40 = .ok (.iconst 0, 1) := by decide +kernel
theorem d_Mo_place_41 : decode b_Mo_place 41 = .ok (.invokevirtual 108, 3) := by decide +kernel
theorem d_Mo_place_44 : decode b_Mo_place 44 = .ok (.ifCond .eq 4, 3) := by decide +kernel
theorem d_Mo_place_47 : decode b_Mo_place 47 = .ok (.return_, 1) := by decide +kernel
theorem d_Mo_place_48 : decode b_Mo_place 48 = .ok (.aload_n 0, 1) := by decide +kernel
theorem d_Mo_place_49 : decode b_Mo_place 49 = .ok (.getfield 63, 3) := by decide +kernel
theorem d_Mo_place_52 : decode b_Mo_place 52 = .ok (.iload_n 1, 1) := by decide +kernel
theorem d_Mo_place_53 : decode b_Mo_place 53 = .ok (.iconst 4, 1) := by decide +kernel
theorem d_Mo_place_54 : decode b_Mo_place 54 = .ok (.imul, 1) := by decide +kernel
theorem d_Mo_place_55 : decode b_Mo_place 55 = .ok (.dload_n 2, 1) := by decide +kernel
theorem d_Mo_place_56 : decode b_Mo_place 56 = .ok (.dastore, 1) := by decide +kernel
theorem d_Mo_place_57 : decode b_Mo_place 57 = .ok (.aload_n 0, 1) := by decide +kernel
theorem d_Mo_place_58 : decode b_Mo_place 58 = .ok (.getfield 63, 3) := by decide +kernel
theorem d_Mo_place_61 : decode b_Mo_place 61 = .ok (.iload_n 1, 1) := by decide +kernel
theorem d_Mo_place_62 : decode b_Mo_place 62 = .ok (.iconst 4, 1) := by decide +kernel
theorem d_Mo_place_63 : decode b_Mo_place 63 = .ok (.imul, 1) := by decide +kernel
theorem d_Mo_place_64 : decode b_Mo_place 64 = .ok (.iconst 1, 1) := by decide +kernel
theorem d_Mo_place_65 : decode b_Mo_place 65 = .ok (.iadd, 1) := by decide +kernel
theorem d_Mo_place_66 : decode b_Mo_place 66 = .ok (.dload 4, 2) := by decide +kernel
theorem d_Mo_place_68 : decode b_Mo_place 68 = .ok (.dastore, 1) := by decide +kernel
theorem d_Mo_place_69 : decode b_Mo_place 69 = .ok (.return_, 1) := by decide +kernel
theorem d_Mo_isOther_0 : decode b_Mo_isOther 0 = .ok (.iload_n 1, 1) := by decide +kernel
theorem d_Mo_isOther_1 : decode b_Mo_isOther 1 = .ok (.ifCond .le 15, 3) := by decide +kernel
theorem d_Mo_isOther_4 : decode b_Mo_isOther 4 = .ok (.aload_n 0, 1) := by decide +kernel
theorem d_Mo_isOther_5 : decode b_Mo_isOther 5 = .ok (.iload_n 1, 1) := by decide +kernel
theorem d_Mo_isOther_6 : decode b_Mo_isOther 6 = .ok (.invokevirtual 94, 3) := by decide +kernel
theorem d_Mo_isOther_9 : decode b_Mo_isOther 9 = .ok (.ifCond .eq 7, 3) := by decide +kernel
theorem d_Mo_isOther_12 : decode b_Mo_isOther 12 = .ok (.iconst 1, 1) := by decide +kernel
theorem d_Mo_isOther_13 : decode b_Mo_isOther 13 = .ok (.goto 4, 3) := by decide +kernel
theorem d_Mo_isOther_16 : decode b_Mo_isOther 16 = .ok (.iconst 0, 1) := by decide +kernel
theorem d_Mo_isOther_17 : decode b_Mo_isOther 17 = .ok (.ireturn, 1) := by decide +kernel
theorem d_Mo_lay_0 : decode b_Mo_lay 0 = .ok (.aload_n 0, 1) := by decide +kernel
theorem d_Mo_lay_1 : decode b_Mo_lay 1 = .ok (.aload_n 0, 1) := by decide +kernel
theorem d_Mo_lay_2 : decode b_Mo_lay 2 = .ok (.iload_n 1, 1) := by decide +kernel
theorem d_Mo_lay_3 : decode b_Mo_lay 3 = .ok (.invokevirtual 124, 3) := by decide +kernel
theorem d_Mo_lay_6 : decode b_Mo_lay 6 = .ok (.ifCond .eq 27, 3) := by decide +kernel
theorem d_Mo_lay_9 : decode b_Mo_lay 9 = .ok (.iload_n 2, 1) := by decide +kernel
theorem d_Mo_lay_10 : decode b_Mo_lay 10 = .ok (.ifCond .lt 23, 3) := by decide +kernel
theorem d_Mo_lay_13 : decode b_Mo_lay 13 = .ok (.iload_n 2, 1) := by decide +kernel
theorem d_Mo_lay_14 : decode b_Mo_lay 14 = .ok (.iconst 4, 1) := by decide +kernel
theorem d_Mo_lay_15 : decode b_Mo_lay 15 = .ok (.if_icmp .ge 18, 3) := by decide +kernel
theorem d_Mo_lay_18 : decode b_Mo_lay 18 = .ok (.iload_n 3, 1) := by decide +kernel
theorem d_Mo_lay_19 : decode b_Mo_lay 19 = .ok (.bipush (-2), 2) := by decide +kernel
theorem d_Mo_lay_21 : decode b_Mo_lay 21 = .ok (.if_icmp .lt 12, 3) := by decide +kernel
theorem d_Mo_lay_24 : decode b_Mo_lay 24 = .ok (.iload_n 3, 1) := by decide +kernel
theorem d_Mo_lay_25 : decode b_Mo_lay 25 = .ok (.iconst 2, 1) := by decide +kernel
theorem d_Mo_lay_26 : decode b_Mo_lay 26 = .ok (.if_icmp .gt 7, 3) := by decide +kernel
theorem d_Mo_lay_29 : decode b_Mo_lay 29 = .ok (.iconst 1, 1) := by decide +kernel
theorem d_Mo_lay_30 : decode b_Mo_lay 30 = .ok (.goto 4, 3) := by decide +kernel
theorem d_Mo_lay_33 : decode b_Mo_lay 33 = .ok (.iconst 0, 1) := by decide +kernel
theorem d_Mo_lay_34 : decode b_Mo_lay 34 = .ok (.invokevirtual 108, 3) := by decide +kernel
theorem d_Mo_lay_37 : decode b_Mo_lay 37 = .ok (.ifCond .eq 4, 3) := by decide +kernel
theorem d_Mo_lay_40 : decode b_Mo_lay 40 = .ok (.return_, 1) := by decide +kernel
theorem d_Mo_lay_41 : decode b_Mo_lay 41 = .ok (.aload_n 0, 1) := by decide +kernel
theorem d_Mo_lay_42 : decode b_Mo_lay 42 = .ok (.getfield 38, 3) := by decide +kernel
theorem d_Mo_lay_45 : decode b_Mo_lay 45 = .ok (.iload_n 1, 1) := by decide +kernel
theorem d_Mo_lay_46 : decode b_Mo_lay 46 = .ok (.iload_n 2, 1) := by decide +kernel
theorem d_Mo_lay_47 : decode b_Mo_lay 47 = .ok (.iastore, 1) := by decide +kernel
theorem d_Mo_lay_48 : decode b_Mo_lay 48 = .ok (.aload_n 0, 1) := by decide +kernel
theorem d_Mo_lay_49 : decode b_Mo_lay 49 = .ok (.getfield 63, 3) := by decide +kernel
theorem d_Mo_lay_52 : decode b_Mo_lay 52 = .ok (.iload_n 1, 1) := by decide +kernel
theorem d_Mo_lay_53 : decode b_Mo_lay 53 = .ok (.iconst 4, 1) := by decide +kernel
theorem d_Mo_lay_54 : decode b_Mo_lay 54 = .ok (.imul, 1) := by decide +kernel
theorem d_Mo_lay_55 : decode b_Mo_lay 55 = .ok (.iconst 2, 1) := by decide +kernel
theorem d_Mo_lay_56 : decode b_Mo_lay 56 = .ok (.iadd, 1) := by decide +kernel
theorem d_Mo_lay_57 : decode b_Mo_lay 57 = .ok (.iload_n 3, 1) := by decide +kernel
theorem d_Mo_lay_58 : decode b_Mo_lay 58 = .ok (.i2d, 1) := by decide +kernel
theorem d_Mo_lay_59 : decode b_Mo_lay 59 = .ok (.dastore, 1) := by decide +kernel
theorem d_Mo_lay_60 : decode b_Mo_lay 60 = .ok (.return_, 1) := by decide +kernel
theorem d_Mo_mode_0 : decode b_Mo_mode 0 = .ok (.aload_n 0, 1) := by decide +kernel
theorem d_Mo_mode_1 : decode b_Mo_mode 1 = .ok (.aload_n 0, 1) := by decide +kernel
theorem d_Mo_mode_2 : decode b_Mo_mode 2 = .ok (.iload_n 1, 1) := by decide +kernel
theorem d_Mo_mode_3 : decode b_Mo_mode 3 = .ok (.invokevirtual 105, 3) := by decide +kernel
theorem d_Mo_mode_6 : decode b_Mo_mode 6 = .ok (.ifCond .eq 27, 3) := by decide +kernel
theorem d_Mo_mode_9 : decode b_Mo_mode 9 = .ok (.iload_n 2, 1) := by decide +kernel
theorem d_Mo_mode_10 : decode b_Mo_mode 10 = .ok (.ifCond .lt 23, 3) := by decide +kernel
theorem d_Mo_mode_13 : decode b_Mo_mode 13 = .ok (.iload_n 2, 1) := by decide +kernel
theorem d_Mo_mode_14 : decode b_Mo_mode 14 = .ok (.iconst 3, 1) := by decide +kernel
theorem d_Mo_mode_15 : decode b_Mo_mode 15 = .ok (.if_icmp .ge 18, 3) := by decide +kernel
theorem d_Mo_mode_18 : decode b_Mo_mode 18 = .ok (.dload_n 3, 1) := by decide +kernel
theorem d_Mo_mode_19 : decode b_Mo_mode 19 = .ok (.dconst 1, 1) := by decide +kernel
theorem d_Mo_mode_20 : decode b_Mo_mode 20 = .ok (.ldc2_w 129, 3) := by decide +kernel
theorem d_Mo_mode_23 : decode b_Mo_mode 23 = .ok (.invokestatic 120, 3) := by decide +kernel
theorem d_Mo_mode_26 : decode b_Mo_mode 26 = .ok (.ifCond .eq 7, 3) := by decide +kernel
theorem d_Mo_mode_29 : decode b_Mo_mode 29 = .ok (.iconst 1, 1) := by decide +kernel
theorem d_Mo_mode_30 : decode b_Mo_mode 30 = .ok (.goto 4, 3) := by decide +kernel
theorem d_Mo_mode_33 : decode b_Mo_mode 33 = .ok (.iconst 0, 1) := by decide +kernel
theorem d_Mo_mode_34 : decode b_Mo_mode 34 = .ok (.invokevirtual 108, 3) := by decide +kernel
theorem d_Mo_mode_37 : decode b_Mo_mode 37 = .ok (.ifCond .eq 4, 3) := by decide +kernel
theorem d_Mo_mode_40 : decode b_Mo_mode 40 = .ok (.return_, 1) := by decide +kernel
theorem d_Mo_mode_41 : decode b_Mo_mode 41 = .ok (.aload_n 0, 1) := by decide +kernel
theorem d_Mo_mode_42 : decode b_Mo_mode 42 = .ok (.getfield 26, 3) := by decide +kernel
theorem d_Mo_mode_45 : decode b_Mo_mode 45 = .ok (.iload_n 1, 1) := by decide +kernel
theorem d_Mo_mode_46 : decode b_Mo_mode 46 = .ok (.iload_n 2, 1) := by decide +kernel
theorem d_Mo_mode_47 : decode b_Mo_mode 47 = .ok (.iastore, 1) := by decide +kernel
theorem d_Mo_mode_48 : decode b_Mo_mode 48 = .ok (.aload_n 0, 1) := by decide +kernel
theorem d_Mo_mode_49 : decode b_Mo_mode 49 = .ok (.getfield 53, 3) := by decide +kernel
theorem d_Mo_mode_52 : decode b_Mo_mode 52 = .ok (.iload_n 1, 1) := by decide +kernel
theorem d_Mo_mode_53 : decode b_Mo_mode 53 = .ok (.dload_n 3, 1) := by decide +kernel
theorem d_Mo_mode_54 : decode b_Mo_mode 54 = .ok (.dastore, 1) := by decide +kernel
theorem d_Mo_mode_55 : decode b_Mo_mode 55 = .ok (.return_, 1) := by decide +kernel
theorem d_Mo_hide_0 : decode b_Mo_hide 0 = .ok (.aload_n 0, 1) := by decide +kernel
theorem d_Mo_hide_1 : decode b_Mo_hide 1 = .ok (.aload_n 0, 1) := by decide +kernel
theorem d_Mo_hide_2 : decode b_Mo_hide 2 = .ok (.iload_n 1, 1) := by decide +kernel
theorem d_Mo_hide_3 : decode b_Mo_hide 3 = .ok (.invokevirtual 124, 3) := by decide +kernel
theorem d_Mo_hide_6 : decode b_Mo_hide 6 = .ok (.invokevirtual 108, 3) := by decide +kernel
theorem d_Mo_hide_9 : decode b_Mo_hide 9 = .ok (.ifCond .eq 4, 3) := by decide +kernel
theorem d_Mo_hide_12 : decode b_Mo_hide 12 = .ok (.return_, 1) := by decide +kernel
theorem d_Mo_hide_13 : decode b_Mo_hide 13 = .ok (.aload_n 0, 1) := by decide +kernel
theorem d_Mo_hide_14 : decode b_Mo_hide 14 = .ok (.getfield 13, 3) := by decide +kernel
theorem d_Mo_hide_17 : decode b_Mo_hide 17 = .ok (.iload_n 1, 1) := by decide +kernel
theorem d_Mo_hide_18 : decode b_Mo_hide 18 = .ok (.iload_n 2, 1) := by decide +kernel
theorem d_Mo_hide_19 : decode b_Mo_hide 19 = .ok (.bastore, 1) := by decide +kernel
theorem d_Mo_hide_20 : decode b_Mo_hide 20 = .ok (.return_, 1) := by decide +kernel
theorem d_Mo_key_0 : decode b_Mo_key 0 = .ok (.aload_n 0, 1) := by decide +kernel
theorem d_Mo_key_1 : decode b_Mo_key 1 = .ok (.aload_n 0, 1) := by decide +kernel
theorem d_Mo_key_2 : decode b_Mo_key 2 = .ok (.iload_n 1, 1) := by decide +kernel
theorem d_Mo_key_3 : decode b_Mo_key 3 = .ok (.invokevirtual 124, 3) := by decide +kernel
theorem d_Mo_key_6 : decode b_Mo_key 6 = .ok (.ifCond .eq 36, 3) := by decide +kernel
theorem d_Mo_key_9 : decode b_Mo_key 9 = .ok (.iload_n 2, 1) := by decide +kernel
theorem d_Mo_key_10 : decode b_Mo_key 10 = .ok (.ifCond .lt 32, 3) := by decide +kernel
theorem d_Mo_key_13 : decode b_Mo_key 13 = .ok (.iload_n 2, 1) := by decide +kernel
theorem d_Mo_key_14 : decode b_Mo_key 14 = .ok (.iconst 4, 1) := by decide +kernel
theorem d_Mo_key_15 : decode b_Mo_key 15 = .ok (.if_icmp .ge 27, 3) := by decide +kernel
theorem d_Mo_key_18 : decode b_Mo_key 18 = .ok (.dload_n 3, 1) := by decide +kernel
theorem d_Mo_key_19 : decode b_Mo_key 19 = .ok (.dconst 0, 1) := by decide +kernel
theorem d_Mo_key_20 : decode b_Mo_key 20 = .ok (.ldc2_w 141, 3) := by decide +kernel
theorem d_Mo_key_23 : decode b_Mo_key 23 = .ok (.invokestatic 120, 3) := by decide +kernel
theorem d_Mo_key_26 : decode b_Mo_key 26 = .ok (.ifCond .eq 16, 3) := by decide +kernel
theorem d_Mo_key_29 : decode b_Mo_key 29 = .ok (.iload_n 2, 1) := by decide +kernel
theorem d_Mo_key_30 : decode b_Mo_key 30 = .ok (.dload 5, 2) := by decide +kernel
theorem d_Mo_key_32 : decode b_Mo_key 32 = .ok (.invokestatic 143, 3) := by decide +kernel
theorem d_Mo_key_35 : decode b_Mo_key 35 = .ok (.ifCond .eq 7, 3) := by decide +kernel
theorem d_Mo_key_38 : decode b_Mo_key 38 = .ok (.iconst 1, 1) := by decide +kernel
theorem d_Mo_key_39 : decode b_Mo_key 39 = .ok (.goto 4, 3) := by decide +kernel
theorem d_Mo_key_42 : decode b_Mo_key 42 = .ok (.iconst 0, 1) := by decide +kernel
theorem d_Mo_key_43 : decode b_Mo_key 43 = .ok (.invokevirtual 108, 3) := by decide +kernel
theorem d_Mo_key_46 : decode b_Mo_key 46 = .ok (.ifCond .eq 5, 3) := by decide +kernel
theorem d_Mo_key_49 : decode b_Mo_key 49 = .ok (.iconst 0, 1) := by decide +kernel
theorem d_Mo_key_50 : decode b_Mo_key 50 = .ok (.ireturn, 1) := by decide +kernel
theorem d_Mo_key_51 : decode b_Mo_key 51 = .ok (.iload_n 1, 1) := by decide +kernel
theorem d_Mo_key_52 : decode b_Mo_key 52 = .ok (.iconst 4, 1) := by decide +kernel
theorem d_Mo_key_53 : decode b_Mo_key 53 = .ok (.imul, 1) := by decide +kernel
theorem d_Mo_key_54 : decode b_Mo_key 54 = .ok (.iload_n 2, 1) := by decide +kernel
theorem d_Mo_key_55 : decode b_Mo_key 55 = .ok (.iadd, 1) := by decide +kernel
theorem d_Mo_key_56 : decode b_Mo_key 56 = .ok (.istore 7, 2) := by decide +kernel
theorem d_Mo_key_58 : decode b_Mo_key 58 = .ok (.iconst 0, 1) := by decide +kernel
theorem d_Mo_key_59 : decode b_Mo_key 59 = .ok (.istore 8, 2) := by decide +kernel
theorem d_Mo_key_61 : decode b_Mo_key 61 = .ok (.iload 8, 2) := by decide +kernel
theorem d_Mo_key_63 : decode b_Mo_key 63 = .ok (.aload_n 0, 1) := by decide +kernel
theorem d_Mo_key_64 : decode b_Mo_key 64 = .ok (.getfield 41, 3) := by decide +kernel
theorem d_Mo_key_67 : decode b_Mo_key 67 = .ok (.iload 7, 2) := by decide +kernel
theorem d_Mo_key_69 : decode b_Mo_key 69 = .ok (.iaload, 1) := by decide +kernel
theorem d_Mo_key_70 : decode b_Mo_key 70 = .ok (.if_icmp .ge 26, 3) := by decide +kernel
theorem d_Mo_key_73 : decode b_Mo_key 73 = .ok (.aload_n 0, 1) := by decide +kernel
theorem d_Mo_key_74 : decode b_Mo_key 74 = .ok (.getfield 66, 3) := by decide +kernel
theorem d_Mo_key_77 : decode b_Mo_key 77 = .ok (.iload 7, 2) := by decide +kernel
theorem d_Mo_key_79 : decode b_Mo_key 79 = .ok (.iconst 4, 1) := by decide +kernel
theorem d_Mo_key_80 : decode b_Mo_key 80 = .ok (.imul, 1) := by decide +kernel
theorem d_Mo_key_81 : decode b_Mo_key 81 = .ok (.iload 8, 2) := by decide +kernel
theorem d_Mo_key_83 : decode b_Mo_key 83 = .ok (.iadd, 1) := by decide +kernel
theorem d_Mo_key_84 : decode b_Mo_key 84 = .ok (.daload, 1) := by decide +kernel
theorem d_Mo_key_85 : decode b_Mo_key 85 = .ok (.dload_n 3, 1) := by decide +kernel
theorem d_Mo_key_86 : decode b_Mo_key 86 = .ok (.dcmp .g, 1) := by decide +kernel
theorem d_Mo_key_87 : decode b_Mo_key 87 = .ok (.ifCond .ge 9, 3) := by decide +kernel
theorem d_Mo_key_90 : decode b_Mo_key 90 = .ok (.iinc 8 1, 3) := by decide +kernel
theorem d_Mo_key_93 : decode b_Mo_key 93 = .ok (.goto (-32), 3) := by decide +kernel
theorem d_Mo_key_96 : decode b_Mo_key 96 = .ok (.iload 8, 2) := by decide +kernel
theorem d_Mo_key_98 : decode b_Mo_key 98 = .ok (.aload_n 0, 1) := by decide +kernel
theorem d_Mo_key_99 : decode b_Mo_key 99 = .ok (.getfield 41, 3) := by decide +kernel
theorem d_Mo_key_102 : decode b_Mo_key 102 = .ok (.iload 7, 2) := by decide +kernel
theorem d_Mo_key_104 : decode b_Mo_key 104 = .ok (.iaload, 1) := by decide +kernel
theorem d_Mo_key_105 : decode b_Mo_key 105 = .ok (.if_icmp .ge 24, 3) := by decide +kernel
theorem d_Mo_key_108 : decode b_Mo_key 108 = .ok (.aload_n 0, 1) := by decide +kernel
theorem d_Mo_key_109 : decode b_Mo_key 109 = .ok (.getfield 66, 3) := by decide +kernel
theorem d_Mo_key_112 : decode b_Mo_key 112 = .ok (.iload 7, 2) := by decide +kernel
theorem d_Mo_key_114 : decode b_Mo_key 114 = .ok (.iconst 4, 1) := by decide +kernel
theorem d_Mo_key_115 : decode b_Mo_key 115 = .ok (.imul, 1) := by decide +kernel
theorem d_Mo_key_116 : decode b_Mo_key 116 = .ok (.iload 8, 2) := by decide +kernel
theorem d_Mo_key_118 : decode b_Mo_key 118 = .ok (.iadd, 1) := by decide +kernel
theorem d_Mo_key_119 : decode b_Mo_key 119 = .ok (.daload, 1) := by decide +kernel
theorem d_Mo_key_120 : decode b_Mo_key 120 = .ok (.dload_n 3, 1) := by decide +kernel
theorem d_Mo_key_121 : decode b_Mo_key 121 = .ok (.dcmp .l, 1) := by decide +kernel
theorem d_Mo_key_122 : decode b_Mo_key 122 = .ok (.ifCond .ne 7, 3) := by decide +kernel
theorem d_Mo_key_125 : decode b_Mo_key 125 = .ok (.iconst 1, 1) := by decide +kernel
theorem d_Mo_key_126 : decode b_Mo_key 126 = .ok (.goto 4, 3) := by decide +kernel
theorem d_Mo_key_129 : decode b_Mo_key 129 = .ok (.iconst 0, 1) := by decide +kernel
theorem d_Mo_key_130 : decode b_Mo_key 130 = .ok (.istore 9, 2) := by decide +kernel
theorem d_Mo_key_132 : decode b_Mo_key 132 = .ok (.iload 9, 2) := by decide +kernel
theorem d_Mo_key_134 : decode b_Mo_key 134 = .ok (.ifCond .ne 21, 3) := by decide +kernel
theorem d_Mo_key_137 : decode b_Mo_key 137 = .ok (.aload_n 0, 1) := by decide +kernel
theorem d_Mo_key_138 : decode b_Mo_key 138 = .ok (.getfield 41, 3) := by decide +kernel
theorem d_Mo_key_141 : decode b_Mo_key 141 = .ok (.iload 7, 2) := by decide +kernel
theorem d_Mo_key_143 : decode b_Mo_key 143 = .ok (.iaload, 1) := by decide +kernel
theorem d_Mo_key_144 : decode b_Mo_key 144 = .ok (.iconst 4, 1) := by decide +kernel
theorem d_Mo_key_145 : decode b_Mo_key 145 = .ok (.if_icmp .ne 10, 3) := by decide +kernel
theorem d_Mo_key_148 : decode b_Mo_key 148 = .ok (.aload_n 0, 1) := by decide +kernel
theorem d_Mo_key_149 : decode b_Mo_key 149 = .ok (.iconst 2, 1) := by decide +kernel
theorem d_Mo_key_150 : decode b_Mo_key 150 = .ok (.putfield 90, 3) := by decide +kernel
theorem d_Mo_key_153 : decode b_Mo_key 153 = .ok (.iconst 0, 1) := by decide +kernel
theorem d_Mo_key_154 : decode b_Mo_key 154 = .ok (.ireturn, 1) := by decide +kernel
theorem d_Mo_key_155 : decode b_Mo_key 155 = .ok (.iload 9, 2) := by decide +kernel
theorem d_Mo_key_157 : decode b_Mo_key 157 = .ok (.ifCond .ne 88, 3) := by decide +kernel
theorem d_Mo_key_160 : decode b_Mo_key 160 = .ok (.aload_n 0, 1) := by decide +kernel
theorem d_Mo_key_161 : decode b_Mo_key 161 = .ok (.getfield 41, 3) := by decide +kernel
theorem d_Mo_key_164 : decode b_Mo_key 164 = .ok (.iload 7, 2) := by decide +kernel
theorem d_Mo_key_166 : decode b_Mo_key 166 = .ok (.iaload, 1) := by decide +kernel
theorem d_Mo_key_167 : decode b_Mo_key 167 = .ok (.istore 10, 2) := by decide +kernel
theorem d_Mo_key_169 : decode b_Mo_key 169 = .ok (.iload 10, 2) := by decide +kernel
theorem d_Mo_key_171 : decode b_Mo_key 171 = .ok (.iload 8, 2) := by decide +kernel
theorem d_Mo_key_173 : decode b_Mo_key 173 = .ok (.if_icmp .le 61, 3) := by decide +kernel
theorem d_Mo_key_176 : decode b_Mo_key 176 = .ok (.aload_n 0, 1) := by decide +kernel
theorem d_Mo_key_177 : decode b_Mo_key 177 = .ok (.getfield 66, 3) := by decide +kernel
theorem d_Mo_key_180 : decode b_Mo_key 180 = .ok (.iload 7, 2) := by decide +kernel
theorem d_Mo_key_182 : decode b_Mo_key 182 = .ok (.iconst 4, 1) := by decide +kernel
theorem d_Mo_key_183 : decode b_Mo_key 183 = .ok (.imul, 1) := by decide +kernel
theorem d_Mo_key_184 : decode b_Mo_key 184 = .ok (.iload 10, 2) := by decide +kernel
theorem d_Mo_key_186 : decode b_Mo_key 186 = .ok (.iadd, 1) := by decide +kernel
theorem d_Mo_key_187 : decode b_Mo_key 187 = .ok (.aload_n 0, 1) := by decide +kernel
theorem d_Mo_key_188 : decode b_Mo_key 188 = .ok (.getfield 66, 3) := by decide +kernel
theorem d_Mo_key_191 : decode b_Mo_key 191 = .ok (.iload 7, 2) := by decide +kernel
theorem d_Mo_key_193 : decode b_Mo_key 193 = .ok (.iconst 4, 1) := by decide +kernel
theorem d_Mo_key_194 : decode b_Mo_key 194 = .ok (.imul, 1) := by decide +kernel
theorem d_Mo_key_195 : decode b_Mo_key 195 = .ok (.iload 10, 2) := by decide +kernel
theorem d_Mo_key_197 : decode b_Mo_key 197 = .ok (.iadd, 1) := by decide +kernel
theorem d_Mo_key_198 : decode b_Mo_key 198 = .ok (.iconst 1, 1) := by decide +kernel
theorem d_Mo_key_199 : decode b_Mo_key 199 = .ok (.isub, 1) := by decide +kernel
theorem d_Mo_key_200 : decode b_Mo_key 200 = .ok (.daload, 1) := by decide +kernel
theorem d_Mo_key_201 : decode b_Mo_key 201 = .ok (.dastore, 1) := by decide +kernel
theorem d_Mo_key_202 : decode b_Mo_key 202 = .ok (.aload_n 0, 1) := by decide +kernel
theorem d_Mo_key_203 : decode b_Mo_key 203 = .ok (.getfield 69, 3) := by decide +kernel
theorem d_Mo_key_206 : decode b_Mo_key 206 = .ok (.iload 7, 2) := by decide +kernel
theorem d_Mo_key_208 : decode b_Mo_key 208 = .ok (.iconst 4, 1) := by decide +kernel
theorem d_Mo_key_209 : decode b_Mo_key 209 = .ok (.imul, 1) := by decide +kernel
theorem d_Mo_key_210 : decode b_Mo_key 210 = .ok (.iload 10, 2) := by decide +kernel
theorem d_Mo_key_212 : decode b_Mo_key 212 = .ok (.iadd, 1) := by decide +kernel
theorem d_Mo_key_213 : decode b_Mo_key 213 = .ok (.aload_n 0, 1) := by decide +kernel
theorem d_Mo_key_214 : decode b_Mo_key 214 = .ok (.getfield 69, 3) := by decide +kernel
theorem d_Mo_key_217 : decode b_Mo_key 217 = .ok (.iload 7, 2) := by decide +kernel
theorem d_Mo_key_219 : decode b_Mo_key 219 = .ok (.iconst 4, 1) := by decide +kernel
theorem d_Mo_key_220 : decode b_Mo_key 220 = .ok (.imul, 1) := by decide +kernel
theorem d_Mo_key_221 : decode b_Mo_key 221 = .ok (.iload 10, 2) := by decide +kernel
theorem d_Mo_key_223 : decode b_Mo_key 223 = .ok (.iadd, 1) := by decide +kernel
theorem d_Mo_key_224 : decode b_Mo_key 224 = .ok (.iconst 1, 1) := by decide +kernel
theorem d_Mo_key_225 : decode b_Mo_key 225 = .ok (.isub, 1) := by decide +kernel
theorem d_Mo_key_226 : decode b_Mo_key 226 = .ok (.daload, 1) := by decide +kernel
theorem d_Mo_key_227 : decode b_Mo_key 227 = .ok (.dastore, 1) := by decide +kernel
theorem d_Mo_key_228 : decode b_Mo_key 228 = .ok (.iinc 10 (-1), 3) := by decide +kernel
theorem d_Mo_key_231 : decode b_Mo_key 231 = .ok (.goto (-62), 3) := by decide +kernel
theorem d_Mo_key_234 : decode b_Mo_key 234 = .ok (.aload_n 0, 1) := by decide +kernel
theorem d_Mo_key_235 : decode b_Mo_key 235 = .ok (.getfield 41, 3) := by decide +kernel
theorem d_Mo_key_238 : decode b_Mo_key 238 = .ok (.iload 7, 2) := by decide +kernel
theorem d_Mo_key_240 : decode b_Mo_key 240 = .ok (.dup2, 1) := by decide +kernel
theorem d_Mo_key_241 : decode b_Mo_key 241 = .ok (.iaload, 1) := by decide +kernel
theorem d_Mo_key_242 : decode b_Mo_key 242 = .ok (.iconst 1, 1) := by decide +kernel
theorem d_Mo_key_243 : decode b_Mo_key 243 = .ok (.iadd, 1) := by decide +kernel
theorem d_Mo_key_244 : decode b_Mo_key 244 = .ok (.iastore, 1) := by decide +kernel
theorem d_Mo_key_245 : decode b_Mo_key 245 = .ok (.aload_n 0, 1) := by decide +kernel
theorem d_Mo_key_246 : decode b_Mo_key 246 = .ok (.getfield 66, 3) := by decide +kernel
theorem d_Mo_key_249 : decode b_Mo_key 249 = .ok (.iload 7, 2) := by decide +kernel
theorem d_Mo_key_251 : decode b_Mo_key 251 = .ok (.iconst 4, 1) := by decide +kernel
theorem d_Mo_key_252 : decode b_Mo_key 252 = .ok (.imul, 1) := by decide +kernel
theorem d_Mo_key_253 : decode b_Mo_key 253 = .ok (.iload 8, 2) := by decide +kernel
theorem d_Mo_key_255 : decode b_Mo_key 255 = .ok (.iadd, 1) := by decide +kernel
theorem d_Mo_key_256 : decode b_Mo_key 256 = .ok (.dload_n 3, 1) := by decide +kernel
theorem d_Mo_key_257 : decode b_Mo_key 257 = .ok (.dastore, 1) := by decide +kernel
theorem d_Mo_key_258 : decode b_Mo_key 258 = .ok (.aload_n 0, 1) := by decide +kernel
theorem d_Mo_key_259 : decode b_Mo_key 259 = .ok (.getfield 69, 3) := by decide +kernel
theorem d_Mo_key_262 : decode b_Mo_key 262 = .ok (.iload 7, 2) := by decide +kernel
theorem d_Mo_key_264 : decode b_Mo_key 264 = .ok (.iconst 4, 1) := by decide +kernel
theorem d_Mo_key_265 : decode b_Mo_key 265 = .ok (.imul, 1) := by decide +kernel
theorem d_Mo_key_266 : decode b_Mo_key 266 = .ok (.iload 8, 2) := by decide +kernel
theorem d_Mo_key_268 : decode b_Mo_key 268 = .ok (.iadd, 1) := by decide +kernel
theorem d_Mo_key_269 : decode b_Mo_key 269 = .ok (.dload 5, 2) := by decide +kernel
theorem d_Mo_key_271 : decode b_Mo_key 271 = .ok (.dastore, 1) := by decide +kernel
theorem d_Mo_key_272 : decode b_Mo_key 272 = .ok (.aload_n 0, 1) := by decide +kernel
theorem d_Mo_key_273 : decode b_Mo_key 273 = .ok (.getfield 41, 3) := by decide +kernel
theorem d_Mo_key_276 : decode b_Mo_key 276 = .ok (.iload 7, 2) := by decide +kernel
theorem d_Mo_key_278 : decode b_Mo_key 278 = .ok (.iaload, 1) := by decide +kernel
theorem d_Mo_key_279 : decode b_Mo_key 279 = .ok (.ireturn, 1) := by decide +kernel
theorem d_Mo_fits_0 : decode b_Mo_fits 0 = .ok (.iload_n 0, 1) := by decide +kernel
theorem d_Mo_fits_1 : decode b_Mo_fits 1 = .ok (.iconst 2, 1) := by decide +kernel
theorem d_Mo_fits_2 : decode b_Mo_fits 2 = .ok (.if_icmp .ge 14, 3) := by decide +kernel
theorem d_Mo_fits_5 : decode b_Mo_fits 5 = .ok (.dload_n 1, 1) := by decide +kernel
theorem d_Mo_fits_6 : decode b_Mo_fits 6 = .ok (.ldc2_w 127, 3) := by decide +kernel
theorem d_Mo_fits_9 : decode b_Mo_fits 9 = .ok (.ldc2_w 118, 3) := by decide +kernel
theorem d_Mo_fits_12 : decode b_Mo_fits 12 = .ok (.invokestatic 120, 3) := by decide +kernel
theorem d_Mo_fits_15 : decode b_Mo_fits 15 = .ok (.ireturn, 1) := by decide +kernel
theorem d_Mo_fits_16 : decode b_Mo_fits 16 = .ok (.dload_n 1, 1) := by decide +kernel
theorem d_Mo_fits_17 : decode b_Mo_fits 17 = .ok (.dload_n 1, 1) := by decide +kernel
theorem d_Mo_fits_18 : decode b_Mo_fits 18 = .ok (.invokestatic 131, 3) := by decide +kernel
theorem d_Mo_fits_21 : decode b_Mo_fits 21 = .ok (.dcmp .l, 1) := by decide +kernel
theorem d_Mo_fits_22 : decode b_Mo_fits 22 = .ok (.ifCond .eq 5, 3) := by decide +kernel
theorem d_Mo_fits_25 : decode b_Mo_fits 25 = .ok (.iconst 0, 1) := by decide +kernel
theorem d_Mo_fits_26 : decode b_Mo_fits 26 = .ok (.ireturn, 1) := by decide +kernel
theorem d_Mo_fits_27 : decode b_Mo_fits 27 = .ok (.iload_n 0, 1) := by decide +kernel
theorem d_Mo_fits_28 : decode b_Mo_fits 28 = .ok (.iconst 2, 1) := by decide +kernel
theorem d_Mo_fits_29 : decode b_Mo_fits 29 = .ok (.if_icmp .ne 16, 3) := by decide +kernel
theorem d_Mo_fits_32 : decode b_Mo_fits 32 = .ok (.dload_n 1, 1) := by decide +kernel
theorem d_Mo_fits_33 : decode b_Mo_fits 33 = .ok (.ldc2_w 135, 3) := by decide +kernel
theorem d_Mo_fits_36 : decode b_Mo_fits 36 = .ok (.ldc2_w 137, 3) := by decide +kernel
theorem d_Mo_fits_39 : decode b_Mo_fits 39 = .ok (.invokestatic 120, 3) := by decide +kernel
theorem d_Mo_fits_42 : decode b_Mo_fits 42 = .ok (.goto 11, 3) := by decide +kernel
theorem d_Mo_fits_45 : decode b_Mo_fits 45 = .ok (.dload_n 1, 1) := by decide +kernel
theorem d_Mo_fits_46 : decode b_Mo_fits 46 = .ok (.dconst 1, 1) := by decide +kernel
theorem d_Mo_fits_47 : decode b_Mo_fits 47 = .ok (.ldc2_w 139, 3) := by decide +kernel
theorem d_Mo_fits_50 : decode b_Mo_fits 50 = .ok (.invokestatic 120, 3) := by decide +kernel
theorem d_Mo_fits_53 : decode b_Mo_fits 53 = .ok (.ireturn, 1) := by decide +kernel
theorem d_Mo_floor_0 : decode b_Mo_floor 0 = .ok (.dload_n 0, 1) := by decide +kernel
theorem d_Mo_floor_1 : decode b_Mo_floor 1 = .ok (.d2l, 1) := by decide +kernel
theorem d_Mo_floor_2 : decode b_Mo_floor 2 = .ok (.lstore_n 2, 1) := by decide +kernel
theorem d_Mo_floor_3 : decode b_Mo_floor 3 = .ok (.lload_n 2, 1) := by decide +kernel
theorem d_Mo_floor_4 : decode b_Mo_floor 4 = .ok (.l2d, 1) := by decide +kernel
theorem d_Mo_floor_5 : decode b_Mo_floor 5 = .ok (.dload_n 0, 1) := by decide +kernel
theorem d_Mo_floor_6 : decode b_Mo_floor 6 = .ok (.dcmp .l, 1) := by decide +kernel
theorem d_Mo_floor_7 : decode b_Mo_floor 7 = .ok (.ifCond .le 10, 3) := by decide +kernel
theorem d_Mo_floor_10 : decode b_Mo_floor 10 = .ok (.lload_n 2, 1) := by decide +kernel
theorem d_Mo_floor_11 : decode b_Mo_floor 11 = .ok (.lconst 1, 1) := by decide +kernel
theorem d_Mo_floor_12 : decode b_Mo_floor 12 = .ok (.lsub, 1) := by decide +kernel
theorem d_Mo_floor_13 : decode b_Mo_floor 13 = .ok (.l2d, 1) := by decide +kernel
theorem d_Mo_floor_14 : decode b_Mo_floor 14 = .ok (.goto 5, 3) := by decide +kernel
theorem d_Mo_floor_17 : decode b_Mo_floor 17 = .ok (.lload_n 2, 1) := by decide +kernel
theorem d_Mo_floor_18 : decode b_Mo_floor 18 = .ok (.l2d, 1) := by decide +kernel
theorem d_Mo_floor_19 : decode b_Mo_floor 19 = .ok (.dreturn, 1) := by decide +kernel
theorem d_Mo_unkey_0 : decode b_Mo_unkey 0 = .ok (.aload_n 0, 1) := by decide +kernel
theorem d_Mo_unkey_1 : decode b_Mo_unkey 1 = .ok (.aload_n 0, 1) := by decide +kernel
theorem d_Mo_unkey_2 : decode b_Mo_unkey 2 = .ok (.iload_n 1, 1) := by decide +kernel
theorem d_Mo_unkey_3 : decode b_Mo_unkey 3 = .ok (.invokevirtual 124, 3) := by decide +kernel
theorem d_Mo_unkey_6 : decode b_Mo_unkey 6 = .ok (.ifCond .eq 16, 3) := by decide +kernel
theorem d_Mo_unkey_9 : decode b_Mo_unkey 9 = .ok (.iload_n 2, 1) := by decide +kernel
theorem d_Mo_unkey_10 : decode b_Mo_unkey 10 = .ok (.ifCond .lt 12, 3) := by decide +kernel
theorem d_Mo_unkey_13 : decode b_Mo_unkey 13 = .ok (.iload_n 2, 1) := by decide +kernel
theorem d_Mo_unkey_14 : decode b_Mo_unkey 14 = .ok (.iconst 4, 1) := by decide +kernel
theorem d_Mo_unkey_15 : decode b_Mo_unkey 15 = .ok (.if_icmp .ge 7, 3) := by decide +kernel
theorem d_Mo_unkey_18 : decode b_Mo_unkey 18 = .ok (.iconst 1, 1) := by decide +kernel
theorem d_Mo_unkey_19 : decode b_Mo_unkey 19 = .ok (.goto 4, 3) := by decide +kernel
theorem d_Mo_unkey_22 : decode b_Mo_unkey 22 = .ok (.iconst 0, 1) := by decide +kernel
theorem d_Mo_unkey_23 : decode b_Mo_unkey 23 = .ok (.invokevirtual 108, 3) := by decide +kernel
theorem d_Mo_unkey_26 : decode b_Mo_unkey 26 = .ok (.ifCond .eq 4, 3) := by decide +kernel
theorem d_Mo_unkey_29 : decode b_Mo_unkey 29 = .ok (.return_, 1) := by decide +kernel
theorem d_Mo_unkey_30 : decode b_Mo_unkey 30 = .ok (.aload_n 0, 1) := by decide +kernel
theorem d_Mo_unkey_31 : decode b_Mo_unkey 31 = .ok (.getfield 41, 3) := by decide +kernel
theorem d_Mo_unkey_34 : decode b_Mo_unkey 34 = .ok (.iload_n 1, 1) := by decide +kernel
theorem d_Mo_unkey_35 : decode b_Mo_unkey 35 = .ok (.iconst 4, 1) := by decide +kernel
theorem d_Mo_unkey_36 : decode b_Mo_unkey 36 = .ok (.imul, 1) := by decide +kernel
theorem d_Mo_unkey_37 : decode b_Mo_unkey 37 = .ok (.iload_n 2, 1) := by decide +kernel
theorem d_Mo_unkey_38 : decode b_Mo_unkey 38 = .ok (.iadd, 1) := by decide +kernel
theorem d_Mo_unkey_39 : decode b_Mo_unkey 39 = .ok (.iaload, 1) := by decide +kernel
theorem d_Mo_unkey_40 : decode b_Mo_unkey 40 = .ok (.ifCond .ne 8, 3) := by decide +kernel
theorem d_Mo_unkey_43 : decode b_Mo_unkey 43 = .ok (.aload_n 0, 1) := by decide +kernel
theorem d_Mo_unkey_44 : decode b_Mo_unkey 44 = .ok (.iconst 2, 1) := by decide +kernel
theorem d_Mo_unkey_45 : decode b_Mo_unkey 45 = .ok (.putfield 90, 3) := by decide +kernel
theorem d_Mo_unkey_48 : decode b_Mo_unkey 48 = .ok (.aload_n 0, 1) := by decide +kernel
theorem d_Mo_unkey_49 : decode b_Mo_unkey 49 = .ok (.getfield 41, 3) := by decide +kernel
theorem d_Mo_unkey_52 : decode b_Mo_unkey 52 = .ok (.iload_n 1, 1) := by decide +kernel
theorem d_Mo_unkey_53 : decode b_Mo_unkey 53 = .ok (.iconst 4, 1) := by decide +kernel
theorem d_Mo_unkey_54 : decode b_Mo_unkey 54 = .ok (.imul, 1) := by decide +kernel
theorem d_Mo_unkey_55 : decode b_Mo_unkey 55 = .ok (.iload_n 2, 1) := by decide +kernel
theorem d_Mo_unkey_56 : decode b_Mo_unkey 56 = .ok (.iadd, 1) := by decide +kernel
theorem d_Mo_unkey_57 : decode b_Mo_unkey 57 = .ok (.iconst 0, 1) := by decide +kernel
theorem d_Mo_unkey_58 : decode b_Mo_unkey 58 = .ok (.iastore, 1) := by decide +kernel
theorem d_Mo_unkey_59 : decode b_Mo_unkey 59 = .ok (.return_, 1) := by decide +kernel
theorem d_Mo_into_0 : decode b_Mo_into 0 = .ok (.aload_n 0, 1) := by decide +kernel
theorem d_Mo_into_1 : decode b_Mo_into 1 = .ok (.aload_n 0, 1) := by decide +kernel
theorem d_Mo_into_2 : decode b_Mo_into 2 = .ok (.iload_n 1, 1) := by decide +kernel
theorem d_Mo_into_3 : decode b_Mo_into 3 = .ok (.invokevirtual 124, 3) := by decide +kernel
theorem d_Mo_into_6 : decode b_Mo_into 6 = .ok (.ifCond .eq 15, 3) := by decide +kernel
theorem d_Mo_into_9 : decode b_Mo_into 9 = .ok (.aload_n 0, 1) := by decide +kernel
theorem d_Mo_into_10 : decode b_Mo_into 10 = .ok (.iload_n 2, 1) := by decide +kernel
theorem d_Mo_into_11 : decode b_Mo_into 11 = .ok (.invokevirtual 105, 3) := by decide +kernel
theorem d_Mo_into_14 : decode b_Mo_into 14 = .ok (.ifCond .eq 7, 3) := by decide +kernel
theorem d_Mo_into_17 : decode b_Mo_into 17 = .ok (.iconst 1, 1) := by decide +kernel
theorem d_Mo_into_18 : decode b_Mo_into 18 = .ok (.goto 4, 3) := by decide +kernel
theorem d_Mo_into_21 : decode b_Mo_into 21 = .ok (.iconst 0, 1) := by decide +kernel
theorem d_Mo_into_22 : decode b_Mo_into 22 = .ok (.invokevirtual 108, 3) := by decide +kernel
theorem d_Mo_into_25 : decode b_Mo_into 25 = .ok (.ifCond .eq 4, 3) := by decide +kernel
theorem d_Mo_into_28 : decode b_Mo_into 28 = .ok (.return_, 1) := by decide +kernel
theorem d_Mo_into_29 : decode b_Mo_into 29 = .ok (.aload_n 0, 1) := by decide +kernel
theorem d_Mo_into_30 : decode b_Mo_into 30 = .ok (.iload_n 2, 1) := by decide +kernel
theorem d_Mo_into_31 : decode b_Mo_into 31 = .ok (.iload_n 1, 1) := by decide +kernel
theorem d_Mo_into_32 : decode b_Mo_into 32 = .ok (.invokevirtual 149, 3) := by decide +kernel
theorem d_Mo_into_35 : decode b_Mo_into 35 = .ok (.ifCond .ne 21, 3) := by decide +kernel
theorem d_Mo_into_38 : decode b_Mo_into 38 = .ok (.aload_n 0, 1) := by decide +kernel
theorem d_Mo_into_39 : decode b_Mo_into 39 = .ok (.getfield 50, 3) := by decide +kernel
theorem d_Mo_into_42 : decode b_Mo_into 42 = .ok (.iload_n 2, 1) := by decide +kernel
theorem d_Mo_into_43 : decode b_Mo_into 43 = .ok (.iaload, 1) := by decide +kernel
theorem d_Mo_into_44 : decode b_Mo_into 44 = .ok (.iconst 1, 1) := by decide +kernel
theorem d_Mo_into_45 : decode b_Mo_into 45 = .ok (.iadd, 1) := by decide +kernel
theorem d_Mo_into_46 : decode b_Mo_into 46 = .ok (.aload_n 0, 1) := by decide +kernel
theorem d_Mo_into_47 : decode b_Mo_into 47 = .ok (.iload_n 1, 1) := by decide +kernel
theorem d_Mo_into_48 : decode b_Mo_into 48 = .ok (.invokevirtual 153, 3) := by decide +kernel
theorem d_Mo_into_51 : decode b_Mo_into 51 = .ok (.iadd, 1) := by decide +kernel
theorem d_Mo_into_52 : decode b_Mo_into 52 = .ok (.iconst 5, 1) := by decide +kernel
theorem d_Mo_into_53 : decode b_Mo_into 53 = .ok (.if_icmp .le 8, 3) := by decide +kernel
theorem d_Mo_into_56 : decode b_Mo_into 56 = .ok (.aload_n 0, 1) := by decide +kernel
theorem d_Mo_into_57 : decode b_Mo_into 57 = .ok (.iconst 2, 1) := by decide +kernel
theorem d_Mo_into_58 : decode b_Mo_into 58 = .ok (.putfield 90, 3) := by decide +kernel
theorem d_Mo_into_61 : decode b_Mo_into 61 = .ok (.aload_n 0, 1) := by decide +kernel
theorem d_Mo_into_62 : decode b_Mo_into 62 = .ok (.getfield 90, 3) := by decide +kernel
theorem d_Mo_into_65 : decode b_Mo_into 65 = .ok (.ifCond .le 4, 3) := by decide +kernel
theorem d_Mo_into_68 : decode b_Mo_into 68 = .ok (.return_, 1) := by decide +kernel
theorem d_Mo_into_69 : decode b_Mo_into 69 = .ok (.aload_n 0, 1) := by decide +kernel
theorem d_Mo_into_70 : decode b_Mo_into 70 = .ok (.iload_n 1, 1) := by decide +kernel
theorem d_Mo_into_71 : decode b_Mo_into 71 = .ok (.invokevirtual 156, 3) := by decide +kernel
theorem d_Mo_into_74 : decode b_Mo_into 74 = .ok (.aload_n 0, 1) := by decide +kernel
theorem d_Mo_into_75 : decode b_Mo_into 75 = .ok (.iload_n 1, 1) := by decide +kernel
theorem d_Mo_into_76 : decode b_Mo_into 76 = .ok (.iload_n 2, 1) := by decide +kernel
theorem d_Mo_into_77 : decode b_Mo_into 77 = .ok (.invokevirtual 112, 3) := by decide +kernel
theorem d_Mo_into_80 : decode b_Mo_into 80 = .ok (.return_, 1) := by decide +kernel

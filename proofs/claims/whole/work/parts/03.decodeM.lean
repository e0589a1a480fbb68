theorem dX5_init_0 : decode cX5_init 0 = .ok (.aload_n 0, 1) := by decide +kernel
theorem dX5_init_1 : decode cX5_init 1 = .ok (.invokespecial 1, 3) := by decide +kernel
theorem dX5_init_4 : decode cX5_init 4 = .ok (.aload_n 0, 1) := by decide +kernel
theorem dX5_init_5 : decode cX5_init 5 = .ok (.bipush 12, 2) := by decide +kernel
theorem dX5_init_7 : decode cX5_init 7 = .ok (.newarray .int, 2) := by decide +kernel
theorem dX5_init_9 : decode cX5_init 9 = .ok (.putfield 7, 3) := by decide +kernel
theorem dX5_init_12 : decode cX5_init 12 = .ok (.aload_n 0, 1) := by decide +kernel
theorem dX5_init_13 : decode cX5_init 13 = .ok (.bipush 96, 2) := by decide +kernel
theorem dX5_init_15 : decode cX5_init 15 = .ok (.newarray .int, 2) := by decide +kernel
theorem dX5_init_17 : decode cX5_init 17 = .ok (.putfield 13, 3) := by decide +kernel
theorem dX5_init_20 : decode cX5_init 20 = .ok (.aload_n 0, 1) := by decide +kernel
theorem dX5_init_21 : decode cX5_init 21 = .ok (.bipush 12, 2) := by decide +kernel
theorem dX5_init_23 : decode cX5_init 23 = .ok (.newarray .int, 2) := by decide +kernel
theorem dX5_init_25 : decode cX5_init 25 = .ok (.putfield 16, 3) := by decide +kernel
theorem dX5_init_28 : decode cX5_init 28 = .ok (.aload_n 0, 1) := by decide +kernel
theorem dX5_init_29 : decode cX5_init 29 = .ok (.bipush 72, 2) := by decide +kernel
theorem dX5_init_31 : decode cX5_init 31 = .ok (.newarray .int, 2) := by decide +kernel
theorem dX5_init_33 : decode cX5_init 33 = .ok (.putfield 19, 3) := by decide +kernel
theorem dX5_init_36 : decode cX5_init 36 = .ok (.aload_n 0, 1) := by decide +kernel
theorem dX5_init_37 : decode cX5_init 37 = .ok (.bipush 12, 2) := by decide +kernel
theorem dX5_init_39 : decode cX5_init 39 = .ok (.newarray .int, 2) := by decide +kernel
theorem dX5_init_41 : decode cX5_init 41 = .ok (.putfield 22, 3) := by decide +kernel
theorem dX5_init_44 : decode cX5_init 44 = .ok (.aload_n 0, 1) := by decide +kernel
theorem dX5_init_45 : decode cX5_init 45 = .ok (.bipush 72, 2) := by decide +kernel
theorem dX5_init_47 : decode cX5_init 47 = .ok (.newarray .int, 2) := by decide +kernel
theorem dX5_init_49 : decode cX5_init 49 = .ok (.putfield 25, 3) := by decide +kernel
theorem dX5_init_52 : decode cX5_init 52 = .ok (.aload_n 0, 1) := by decide +kernel
theorem dX5_init_53 : decode cX5_init 53 = .ok (.bipush 72, 2) := by decide +kernel
theorem dX5_init_55 : decode cX5_init 55 = .ok (.newarray .int, 2) := by decide +kernel
theorem dX5_init_57 : decode cX5_init 57 = .ok (.putfield 28, 3) := by decide +kernel
theorem dX5_init_60 : decode cX5_init 60 = .ok (.aload_n 0, 1) := by decide +kernel
theorem dX5_init_61 : decode cX5_init 61 = .ok (.bipush 40, 2) := by decide +kernel
theorem dX5_init_63 : decode cX5_init 63 = .ok (.newarray .int, 2) := by decide +kernel
theorem dX5_init_65 : decode cX5_init 65 = .ok (.putfield 31, 3) := by decide +kernel
theorem dX5_init_68 : decode cX5_init 68 = .ok (.aload_n 0, 1) := by decide +kernel
theorem dX5_init_69 : decode cX5_init 69 = .ok (.bipush 40, 2) := by decide +kernel
theorem dX5_init_71 : decode cX5_init 71 = .ok (.newarray .int, 2) := by decide +kernel
theorem dX5_init_73 : decode cX5_init 73 = .ok (.putfield 34, 3) := by decide +kernel
theorem dX5_init_76 : decode cX5_init 76 = .ok (.aload_n 0, 1) := by decide +kernel
theorem dX5_init_77 : decode cX5_init 77 = .ok (.bipush 40, 2) := by decide +kernel
theorem dX5_init_79 : decode cX5_init 79 = .ok (.newarray .int, 2) := by decide +kernel
theorem dX5_init_81 : decode cX5_init 81 = .ok (.putfield 37, 3) := by decide +kernel
theorem dX5_init_84 : decode cX5_init 84 = .ok (.aload_n 0, 1) := by decide +kernel
theorem dX5_init_85 : decode cX5_init 85 = .ok (.bipush 40, 2) := by decide +kernel
theorem dX5_init_87 : decode cX5_init 87 = .ok (.newarray .int, 2) := by decide +kernel
theorem dX5_init_89 : decode cX5_init 89 = .ok (.putfield 40, 3) := by decide +kernel
theorem dX5_init_92 : decode cX5_init 92 = .ok (.aload_n 0, 1) := by decide +kernel
theorem dX5_init_93 : decode cX5_init 93 = .ok (.bipush 40, 2) := by decide +kernel
theorem dX5_init_95 : decode cX5_init 95 = .ok (.newarray .int, 2) := by decide +kernel
theorem dX5_init_97 : decode cX5_init 97 = .ok (.putfield 43, 3) := by decide +kernel
theorem dX5_init_100 : decode cX5_init 100 = .ok (.aload_n 0, 1) := by decide +kernel
theorem dX5_init_101 : decode cX5_init 101 = .ok (.bipush 60, 2) := by decide +kernel
theorem dX5_init_103 : decode cX5_init 103 = .ok (.newarray .int, 2) := by decide +kernel
theorem dX5_init_105 : decode cX5_init 105 = .ok (.putfield 46, 3) := by decide +kernel
theorem dX5_init_108 : decode cX5_init 108 = .ok (.aload_n 0, 1) := by decide +kernel
theorem dX5_init_109 : decode cX5_init 109 = .ok (.sipush 480, 3) := by decide +kernel
theorem dX5_init_112 : decode cX5_init 112 = .ok (.newarray .int, 2) := by decide +kernel
theorem dX5_init_114 : decode cX5_init 114 = .ok (.putfield 49, 3) := by decide +kernel
theorem dX5_init_117 : decode cX5_init 117 = .ok (.aload_n 0, 1) := by decide +kernel
theorem dX5_init_118 : decode cX5_init 118 = .ok (.sipush 200, 3) := by decide +kernel
theorem dX5_init_121 : decode cX5_init 121 = .ok (.newarray .int, 2) := by decide +kernel
theorem dX5_init_123 : decode cX5_init 123 = .ok (.putfield 52, 3) := by decide +kernel
theorem dX5_init_126 : decode cX5_init 126 = .ok (.aload_n 0, 1) := by decide +kernel
theorem dX5_init_127 : decode cX5_init 127 = .ok (.sipush 200, 3) := by decide +kernel
theorem dX5_init_130 : decode cX5_init 130 = .ok (.newarray .int, 2) := by decide +kernel
theorem dX5_init_132 : decode cX5_init 132 = .ok (.putfield 55, 3) := by decide +kernel
theorem dX5_init_135 : decode cX5_init 135 = .ok (.aload_n 0, 1) := by decide +kernel
theorem dX5_init_136 : decode cX5_init 136 = .ok (.sipush 200, 3) := by decide +kernel
theorem dX5_init_139 : decode cX5_init 139 = .ok (.newarray .int, 2) := by decide +kernel
theorem dX5_init_141 : decode cX5_init 141 = .ok (.putfield 58, 3) := by decide +kernel
theorem dX5_init_144 : decode cX5_init 144 = .ok (.aload_n 0, 1) := by decide +kernel
theorem dX5_init_145 : decode cX5_init 145 = .ok (.sipush 200, 3) := by decide +kernel
theorem dX5_init_148 : decode cX5_init 148 = .ok (.newarray .int, 2) := by decide +kernel
theorem dX5_init_150 : decode cX5_init 150 = .ok (.putfield 61, 3) := by decide +kernel
theorem dX5_init_153 : decode cX5_init 153 = .ok (.aload_n 0, 1) := by decide +kernel
theorem dX5_init_154 : decode cX5_init 154 = .ok (.sipush 200, 3) := by decide +kernel
theorem dX5_init_157 : decode cX5_init 157 = .ok (.newarray .int, 2) := by decide +kernel
theorem dX5_init_159 : decode cX5_init 159 = .ok (.putfield 64, 3) := by decide +kernel
theorem dX5_init_162 : decode cX5_init 162 = .ok (.aload_n 0, 1) := by decide +kernel
theorem dX5_init_163 : decode cX5_init 163 = .ok (.sipush 400, 3) := by decide +kernel
theorem dX5_init_166 : decode cX5_init 166 = .ok (.newarray .int, 2) := by decide +kernel
theorem dX5_init_168 : decode cX5_init 168 = .ok (.putfield 67, 3) := by decide +kernel
theorem dX5_init_171 : decode cX5_init 171 = .ok (.aload_n 0, 1) := by decide +kernel
theorem dX5_init_172 : decode cX5_init 172 = .ok (.iconst 4, 1) := by decide +kernel
theorem dX5_init_173 : decode cX5_init 173 = .ok (.newarray .int, 2) := by decide +kernel
theorem dX5_init_175 : decode cX5_init 175 = .ok (.putfield 70, 3) := by decide +kernel
theorem dX5_init_178 : decode cX5_init 178 = .ok (.aload_n 0, 1) := by decide +kernel
theorem dX5_init_179 : decode cX5_init 179 = .ok (.sipush 200, 3) := by decide +kernel
theorem dX5_init_182 : decode cX5_init 182 = .ok (.newarray .int, 2) := by decide +kernel
theorem dX5_init_184 : decode cX5_init 184 = .ok (.putfield 73, 3) := by decide +kernel
theorem dX5_init_187 : decode cX5_init 187 = .ok (.aload_n 0, 1) := by decide +kernel
theorem dX5_init_188 : decode cX5_init 188 = .ok (.sipush 200, 3) := by decide +kernel
theorem dX5_init_191 : decode cX5_init 191 = .ok (.newarray .int, 2) := by decide +kernel
theorem dX5_init_193 : decode cX5_init 193 = .ok (.putfield 76, 3) := by decide +kernel
theorem dX5_init_196 : decode cX5_init 196 = .ok (.aload_n 0, 1) := by decide +kernel
theorem dX5_init_197 : decode cX5_init 197 = .ok (.sipush 200, 3) := by decide +kernel
theorem dX5_init_200 : decode cX5_init 200 = .ok (.newarray .int, 2) := by decide +kernel
theorem dX5_init_202 : decode cX5_init 202 = .ok (.putfield 79, 3) := by decide +kernel
theorem dX5_init_205 : decode cX5_init 205 = .ok (.aload_n 0, 1) := by decide +kernel
theorem dX5_init_206 : decode cX5_init 206 = .ok (.sipush 200, 3) := by decide +kernel
theorem dX5_init_209 : decode cX5_init 209 = .ok (.newarray .int, 2) := by decide +kernel
theorem dX5_init_211 : decode cX5_init 211 = .ok (.putfield 82, 3) := by decide +kernel
theorem dX5_init_214 : decode cX5_init 214 = .ok (.aload_n 0, 1) := by decide +kernel
theorem dX5_init_215 : decode cX5_init 215 = .ok (.bipush 40, 2) := by decide +kernel
theorem dX5_init_217 : decode cX5_init 217 = .ok (.newarray .int, 2) := by decide +kernel
theorem dX5_init_219 : decode cX5_init 219 = .ok (.putfield 85, 3) := by decide +kernel
theorem dX5_init_222 : decode cX5_init 222 = .ok (.aload_n 0, 1) := by decide +kernel
theorem dX5_init_223 : decode cX5_init 223 = .ok (.bipush 40, 2) := by decide +kernel
theorem dX5_init_225 : decode cX5_init 225 = .ok (.newarray .int, 2) := by decide +kernel
theorem dX5_init_227 : decode cX5_init 227 = .ok (.putfield 88, 3) := by decide +kernel
theorem dX5_init_230 : decode cX5_init 230 = .ok (.aload_n 0, 1) := by decide +kernel
theorem dX5_init_231 : decode cX5_init 231 = .ok (.bipush 40, 2) := by decide +kernel
theorem dX5_init_233 : decode cX5_init 233 = .ok (.newarray .int, 2) := by decide +kernel
theorem dX5_init_235 : decode cX5_init 235 = .ok (.putfield 91, 3) := by decide +kernel
theorem dX5_init_238 : decode cX5_init 238 = .ok (.return_, 1) := by decide +kernel
theorem dX5_in_0 : decode cX5_in 0 = .ok (.iload_n 0, 1) := by decide +kernel
theorem dX5_in_1 : decode cX5_in 1 = .ok (.iload_n 1, 1) := by decide +kernel
theorem dX5_in_2 : decode cX5_in 2 = .ok (.if_icmp .lt 12, 3) := by decide +kernel
theorem dX5_in_5 : decode cX5_in 5 = .ok (.iload_n 0, 1) := by decide +kernel
theorem dX5_in_6 : decode cX5_in 6 = .ok (.iload_n 2, 1) := by decide +kernel
theorem dX5_in_7 : decode cX5_in 7 = .ok (.if_icmp .gt 7, 3) := by decide +kernel
theorem dX5_in_10 : decode cX5_in 10 = .ok (.iconst 1, 1) := by decide +kernel
theorem dX5_in_11 : decode cX5_in 11 = .ok (.goto 4, 3) := by decide +kernel
theorem dX5_in_14 : decode cX5_in 14 = .ok (.iconst 0, 1) := by decide +kernel
theorem dX5_in_15 : decode cX5_in 15 = .ok (.ireturn, 1) := by decide +kernel
theorem dX5_isModule_0 : decode cX5_isModule 0 = .ok (.iload_n 1, 1) := by decide +kernel
theorem dX5_isModule_1 : decode cX5_isModule 1 = .ok (.iconst 0, 1) := by decide +kernel
theorem dX5_isModule_2 : decode cX5_isModule 2 = .ok (.aload_n 0, 1) := by decide +kernel
theorem dX5_isModule_3 : decode cX5_isModule 3 = .ok (.getfield 94, 3) := by decide +kernel
theorem dX5_isModule_6 : decode cX5_isModule 6 = .ok (.iconst 1, 1) := by decide +kernel
theorem dX5_isModule_7 : decode cX5_isModule 7 = .ok (.isub, 1) := by decide +kernel
theorem dX5_isModule_8 : decode cX5_isModule 8 = .ok (.invokestatic 98, 3) := by decide +kernel
theorem dX5_isModule_11 : decode cX5_isModule 11 = .ok (.ireturn, 1) := by decide +kernel
theorem dX5_isLoader_0 : decode cX5_isLoader 0 = .ok (.iload_n 0, 1) := by decide +kernel
theorem dX5_isLoader_1 : decode cX5_isLoader 1 = .ok (.iconst 0, 1) := by decide +kernel
theorem dX5_isLoader_2 : decode cX5_isLoader 2 = .ok (.iconst 2, 1) := by decide +kernel
theorem dX5_isLoader_3 : decode cX5_isLoader 3 = .ok (.invokestatic 98, 3) := by decide +kernel
theorem dX5_isLoader_6 : decode cX5_isLoader 6 = .ok (.ireturn, 1) := by decide +kernel
theorem dX5_module_0 : decode cX5_module 0 = .ok (.iload_n 1, 1) := by decide +kernel
theorem dX5_module_1 : decode cX5_module 1 = .ok (.iconst 0, 1) := by decide +kernel
theorem dX5_module_2 : decode cX5_module 2 = .ok (.bipush 8, 2) := by decide +kernel
theorem dX5_module_4 : decode cX5_module 4 = .ok (.invokestatic 98, 3) := by decide +kernel
theorem dX5_module_7 : decode cX5_module 7 = .ok (.ifCond .ne 5, 3) := by decide +kernel
theorem dX5_module_10 : decode cX5_module 10 = .ok (.iconst (-1), 1) := by decide +kernel
theorem dX5_module_11 : decode cX5_module 11 = .ok (.ireturn, 1) := by decide +kernel
theorem dX5_module_12 : decode cX5_module 12 = .ok (.aload_n 0, 1) := by decide +kernel
theorem dX5_module_13 : decode cX5_module 13 = .ok (.getfield 94, 3) := by decide +kernel
theorem dX5_module_16 : decode cX5_module 16 = .ok (.bipush 12, 2) := by decide +kernel
theorem dX5_module_18 : decode cX5_module 18 = .ok (.if_icmp .ne 6, 3) := by decide +kernel
theorem dX5_module_21 : decode cX5_module 21 = .ok (.bipush (-2), 2) := by decide +kernel
theorem dX5_module_23 : decode cX5_module 23 = .ok (.ireturn, 1) := by decide +kernel
theorem dX5_module_24 : decode cX5_module 24 = .ok (.aload_n 0, 1) := by decide +kernel
theorem dX5_module_25 : decode cX5_module 25 = .ok (.getfield 7, 3) := by decide +kernel
theorem dX5_module_28 : decode cX5_module 28 = .ok (.aload_n 0, 1) := by decide +kernel
theorem dX5_module_29 : decode cX5_module 29 = .ok (.getfield 94, 3) := by decide +kernel
theorem dX5_module_32 : decode cX5_module 32 = .ok (.iload_n 1, 1) := by decide +kernel
theorem dX5_module_33 : decode cX5_module 33 = .ok (.iastore, 1) := by decide +kernel
theorem dX5_module_34 : decode cX5_module 34 = .ok (.aload_n 0, 1) := by decide +kernel
theorem dX5_module_35 : decode cX5_module 35 = .ok (.dup, 1) := by decide +kernel
theorem dX5_module_36 : decode cX5_module 36 = .ok (.getfield 94, 3) := by decide +kernel
theorem dX5_module_39 : decode cX5_module 39 = .ok (.iconst 1, 1) := by decide +kernel
theorem dX5_module_40 : decode cX5_module 40 = .ok (.iadd, 1) := by decide +kernel
theorem dX5_module_41 : decode cX5_module 41 = .ok (.putfield 94, 3) := by decide +kernel
theorem dX5_module_44 : decode cX5_module 44 = .ok (.aload_n 0, 1) := by decide +kernel
theorem dX5_module_45 : decode cX5_module 45 = .ok (.getfield 94, 3) := by decide +kernel
theorem dX5_module_48 : decode cX5_module 48 = .ok (.iconst 1, 1) := by decide +kernel
theorem dX5_module_49 : decode cX5_module 49 = .ok (.isub, 1) := by decide +kernel
theorem dX5_module_50 : decode cX5_module 50 = .ok (.ireturn, 1) := by decide +kernel
theorem dX5_item_0 : decode cX5_item 0 = .ok (.aload_n 0, 1) := by decide +kernel
theorem dX5_item_1 : decode cX5_item 1 = .ok (.iload_n 1, 1) := by decide +kernel
theorem dX5_item_2 : decode cX5_item 2 = .ok (.invokevirtual 102, 3) := by decide +kernel
theorem dX5_item_5 : decode cX5_item 5 = .ok (.ifCond .eq 19, 3) := by decide +kernel
theorem dX5_item_8 : decode cX5_item 8 = .ok (.iload_n 2, 1) := by decide +kernel
theorem dX5_item_9 : decode cX5_item 9 = .ok (.iconst 0, 1) := by decide +kernel
theorem dX5_item_10 : decode cX5_item 10 = .ok (.aload_n 0, 1) := by decide +kernel
theorem dX5_item_11 : decode cX5_item 11 = .ok (.getfield 7, 3) := by decide +kernel
theorem dX5_item_14 : decode cX5_item 14 = .ok (.iload_n 1, 1) := by decide +kernel
theorem dX5_item_15 : decode cX5_item 15 = .ok (.iaload, 1) := by decide +kernel
theorem dX5_item_16 : decode cX5_item 16 = .ok (.iconst 1, 1) := by decide +kernel
theorem dX5_item_17 : decode cX5_item 17 = .ok (.isub, 1) := by decide +kernel
theorem dX5_item_18 : decode cX5_item 18 = .ok (.invokestatic 98, 3) := by decide +kernel
theorem dX5_item_21 : decode cX5_item 21 = .ok (.ifCond .ne 5, 3) := by decide +kernel
theorem dX5_item_24 : decode cX5_item 24 = .ok (.iconst (-1), 1) := by decide +kernel
theorem dX5_item_25 : decode cX5_item 25 = .ok (.ireturn, 1) := by decide +kernel
theorem dX5_item_26 : decode cX5_item 26 = .ok (.aload_n 0, 1) := by decide +kernel
theorem dX5_item_27 : decode cX5_item 27 = .ok (.getfield 13, 3) := by decide +kernel
theorem dX5_item_30 : decode cX5_item 30 = .ok (.bipush 8, 2) := by decide +kernel
theorem dX5_item_32 : decode cX5_item 32 = .ok (.iload_n 1, 1) := by decide +kernel
theorem dX5_item_33 : decode cX5_item 33 = .ok (.imul, 1) := by decide +kernel
theorem dX5_item_34 : decode cX5_item 34 = .ok (.iload_n 2, 1) := by decide +kernel
theorem dX5_item_35 : decode cX5_item 35 = .ok (.iadd, 1) := by decide +kernel
theorem dX5_item_36 : decode cX5_item 36 = .ok (.iload_n 3, 1) := by decide +kernel
theorem dX5_item_37 : decode cX5_item 37 = .ok (.iastore, 1) := by decide +kernel
theorem dX5_item_38 : decode cX5_item 38 = .ok (.iconst 1, 1) := by decide +kernel
theorem dX5_item_39 : decode cX5_item 39 = .ok (.ireturn, 1) := by decide +kernel
theorem dX5_uses_0 : decode cX5_uses 0 = .ok (.aload_n 0, 1) := by decide +kernel
theorem dX5_uses_1 : decode cX5_uses 1 = .ok (.iload_n 1, 1) := by decide +kernel
theorem dX5_uses_2 : decode cX5_uses 2 = .ok (.invokevirtual 102, 3) := by decide +kernel
theorem dX5_uses_5 : decode cX5_uses 5 = .ok (.ifCond .eq 11, 3) := by decide +kernel
theorem dX5_uses_8 : decode cX5_uses 8 = .ok (.aload_n 0, 1) := by decide +kernel
theorem dX5_uses_9 : decode cX5_uses 9 = .ok (.iload_n 2, 1) := by decide +kernel
theorem dX5_uses_10 : decode cX5_uses 10 = .ok (.invokevirtual 102, 3) := by decide +kernel
theorem dX5_uses_13 : decode cX5_uses 13 = .ok (.ifCond .ne 5, 3) := by decide +kernel
theorem dX5_uses_16 : decode cX5_uses 16 = .ok (.iconst (-1), 1) := by decide +kernel
theorem dX5_uses_17 : decode cX5_uses 17 = .ok (.ireturn, 1) := by decide +kernel
theorem dX5_uses_18 : decode cX5_uses 18 = .ok (.aload_n 0, 1) := by decide +kernel
theorem dX5_uses_19 : decode cX5_uses 19 = .ok (.getfield 16, 3) := by decide +kernel
theorem dX5_uses_22 : decode cX5_uses 22 = .ok (.iload_n 1, 1) := by decide +kernel
theorem dX5_uses_23 : decode cX5_uses 23 = .ok (.iaload, 1) := by decide +kernel
theorem dX5_uses_24 : decode cX5_uses 24 = .ok (.bipush 6, 2) := by decide +kernel
theorem dX5_uses_26 : decode cX5_uses 26 = .ok (.if_icmp .ne 6, 3) := by decide +kernel
theorem dX5_uses_29 : decode cX5_uses 29 = .ok (.bipush (-2), 2) := by decide +kernel
theorem dX5_uses_31 : decode cX5_uses 31 = .ok (.ireturn, 1) := by decide +kernel
theorem dX5_uses_32 : decode cX5_uses 32 = .ok (.aload_n 0, 1) := by decide +kernel
theorem dX5_uses_33 : decode cX5_uses 33 = .ok (.getfield 19, 3) := by decide +kernel
theorem dX5_uses_36 : decode cX5_uses 36 = .ok (.bipush 6, 2) := by decide +kernel
theorem dX5_uses_38 : decode cX5_uses 38 = .ok (.iload_n 1, 1) := by decide +kernel
theorem dX5_uses_39 : decode cX5_uses 39 = .ok (.imul, 1) := by decide +kernel
theorem dX5_uses_40 : decode cX5_uses 40 = .ok (.aload_n 0, 1) := by decide +kernel
theorem dX5_uses_41 : decode cX5_uses 41 = .ok (.getfield 16, 3) := by decide +kernel
theorem dX5_uses_44 : decode cX5_uses 44 = .ok (.iload_n 1, 1) := by decide +kernel
theorem dX5_uses_45 : decode cX5_uses 45 = .ok (.iaload, 1) := by decide +kernel
theorem dX5_uses_46 : decode cX5_uses 46 = .ok (.iadd, 1) := by decide +kernel
theorem dX5_uses_47 : decode cX5_uses 47 = .ok (.iload_n 2, 1) := by decide +kernel
theorem dX5_uses_48 : decode cX5_uses 48 = .ok (.iastore, 1) := by decide +kernel
theorem dX5_uses_49 : decode cX5_uses 49 = .ok (.aload_n 0, 1) := by decide +kernel
theorem dX5_uses_50 : decode cX5_uses 50 = .ok (.getfield 16, 3) := by decide +kernel
theorem dX5_uses_53 : decode cX5_uses 53 = .ok (.iload_n 1, 1) := by decide +kernel
theorem dX5_uses_54 : decode cX5_uses 54 = .ok (.dup2, 1) := by decide +kernel
theorem dX5_uses_55 : decode cX5_uses 55 = .ok (.iaload, 1) := by decide +kernel
theorem dX5_uses_56 : decode cX5_uses 56 = .ok (.iconst 1, 1) := by decide +kernel
theorem dX5_uses_57 : decode cX5_uses 57 = .ok (.iadd, 1) := by decide +kernel
theorem dX5_uses_58 : decode cX5_uses 58 = .ok (.iastore, 1) := by decide +kernel
theorem dX5_uses_59 : decode cX5_uses 59 = .ok (.aload_n 0, 1) := by decide +kernel
theorem dX5_uses_60 : decode cX5_uses 60 = .ok (.getfield 16, 3) := by decide +kernel
theorem dX5_uses_63 : decode cX5_uses 63 = .ok (.iload_n 1, 1) := by decide +kernel
theorem dX5_uses_64 : decode cX5_uses 64 = .ok (.iaload, 1) := by decide +kernel
theorem dX5_uses_65 : decode cX5_uses 65 = .ok (.ireturn, 1) := by decide +kernel
theorem dX5_deed_0 : decode cX5_deed 0 = .ok (.aload_n 0, 1) := by decide +kernel
theorem dX5_deed_1 : decode cX5_deed 1 = .ok (.iload_n 1, 1) := by decide +kernel
theorem dX5_deed_2 : decode cX5_deed 2 = .ok (.invokevirtual 102, 3) := by decide +kernel
theorem dX5_deed_5 : decode cX5_deed 5 = .ok (.ifCond .eq 39, 3) := by decide +kernel
theorem dX5_deed_8 : decode cX5_deed 8 = .ok (.iload_n 2, 1) := by decide +kernel
theorem dX5_deed_9 : decode cX5_deed 9 = .ok (.iconst 0, 1) := by decide +kernel
theorem dX5_deed_10 : decode cX5_deed 10 = .ok (.iconst 2, 1) := by decide +kernel
theorem dX5_deed_11 : decode cX5_deed 11 = .ok (.invokestatic 98, 3) := by decide +kernel
theorem dX5_deed_14 : decode cX5_deed 14 = .ok (.ifCond .eq 30, 3) := by decide +kernel
theorem dX5_deed_17 : decode cX5_deed 17 = .ok (.iload_n 2, 1) := by decide +kernel
theorem dX5_deed_18 : decode cX5_deed 18 = .ok (.ifCond .ne 13, 3) := by decide +kernel
theorem dX5_deed_21 : decode cX5_deed 21 = .ok (.iload_n 3, 1) := by decide +kernel
theorem dX5_deed_22 : decode cX5_deed 22 = .ok (.iconst 0, 1) := by decide +kernel
theorem dX5_deed_23 : decode cX5_deed 23 = .ok (.bipush 39, 2) := by decide +kernel
theorem dX5_deed_25 : decode cX5_deed 25 = .ok (.invokestatic 98, 3) := by decide +kernel
theorem dX5_deed_28 : decode cX5_deed 28 = .ok (.ifCond .eq 16, 3) := by decide +kernel
theorem dX5_deed_31 : decode cX5_deed 31 = .ok (.iload_n 2, 1) := by decide +kernel
theorem dX5_deed_32 : decode cX5_deed 32 = .ok (.iconst 1, 1) := by decide +kernel
theorem dX5_deed_33 : decode cX5_deed 33 = .ok (.if_icmp .ne 13, 3) := by decide +kernel
theorem dX5_deed_36 : decode cX5_deed 36 = .ok (.aload_n 0, 1) := by decide +kernel
theorem dX5_deed_37 : decode cX5_deed 37 = .ok (.iload_n 3, 1) := by decide +kernel
theorem dX5_deed_38 : decode cX5_deed 38 = .ok (.invokevirtual 102, 3) := by decide +kernel
theorem dX5_deed_41 : decode cX5_deed 41 = .ok (.ifCond .ne 5, 3) := by decide +kernel
theorem dX5_deed_44 : decode cX5_deed 44 = .ok (.iconst (-1), 1) := by decide +kernel
theorem dX5_deed_45 : decode cX5_deed 45 = .ok (.ireturn, 1) := by decide +kernel
theorem dX5_deed_46 : decode cX5_deed 46 = .ok (.aload_n 0, 1) := by decide +kernel
theorem dX5_deed_47 : decode cX5_deed 47 = .ok (.getfield 22, 3) := by decide +kernel
theorem dX5_deed_50 : decode cX5_deed 50 = .ok (.iload_n 1, 1) := by decide +kernel
theorem dX5_deed_51 : decode cX5_deed 51 = .ok (.iaload, 1) := by decide +kernel
theorem dX5_deed_52 : decode cX5_deed 52 = .ok (.bipush 6, 2) := by decide +kernel
theorem dX5_deed_54 : decode cX5_deed 54 = .ok (.if_icmp .ne 6, 3) := by decide +kernel
theorem dX5_deed_57 : decode cX5_deed 57 = .ok (.bipush (-2), 2) := by decide +kernel
theorem dX5_deed_59 : decode cX5_deed 59 = .ok (.ireturn, 1) := by decide +kernel
theorem dX5_deed_60 : decode cX5_deed 60 = .ok (.aload_n 0, 1) := by decide +kernel
theorem dX5_deed_61 : decode cX5_deed 61 = .ok (.getfield 25, 3) := by decide +kernel
theorem dX5_deed_64 : decode cX5_deed 64 = .ok (.bipush 6, 2) := by decide +kernel
theorem dX5_deed_66 : decode cX5_deed 66 = .ok (.iload_n 1, 1) := by decide +kernel
theorem dX5_deed_67 : decode cX5_deed 67 = .ok (.imul, 1) := by decide +kernel
theorem dX5_deed_68 : decode cX5_deed 68 = .ok (.aload_n 0, 1) := by decide +kernel
theorem dX5_deed_69 : decode cX5_deed 69 = .ok (.getfield 22, 3) := by decide +kernel
theorem dX5_deed_72 : decode cX5_deed 72 = .ok (.iload_n 1, 1) := by decide +kernel
theorem dX5_deed_73 : decode cX5_deed 73 = .ok (.iaload, 1) := by decide +kernel
theorem dX5_deed_74 : decode cX5_deed 74 = .ok (.iadd, 1) := by decide +kernel
theorem dX5_deed_75 : decode cX5_deed 75 = .ok (.iload_n 2, 1) := by decide +kernel
theorem dX5_deed_76 : decode cX5_deed 76 = .ok (.iastore, 1) := by decide +kernel
theorem dX5_deed_77 : decode cX5_deed 77 = .ok (.aload_n 0, 1) := by decide +kernel
theorem dX5_deed_78 : decode cX5_deed 78 = .ok (.getfield 28, 3) := by decide +kernel
theorem dX5_deed_81 : decode cX5_deed 81 = .ok (.bipush 6, 2) := by decide +kernel
theorem dX5_deed_83 : decode cX5_deed 83 = .ok (.iload_n 1, 1) := by decide +kernel
theorem dX5_deed_84 : decode cX5_deed 84 = .ok (.imul, 1) := by decide +kernel
theorem dX5_deed_85 : decode cX5_deed 85 = .ok (.aload_n 0, 1) := by decide +kernel
theorem dX5_deed_86 : decode cX5_deed 86 = .ok (.getfield 22, 3) := by decide +kernel
theorem dX5_deed_89 : decode cX5_deed 89 = .ok (.iload_n 1, 1) := by decide +kernel
theorem dX5_deed_90 : decode cX5_deed 90 = .ok (.iaload, 1) := by decide +kernel
theorem dX5_deed_91 : decode cX5_deed 91 = .ok (.iadd, 1) := by decide +kernel
theorem dX5_deed_92 : decode cX5_deed 92 = .ok (.iload_n 3, 1) := by decide +kernel
theorem dX5_deed_93 : decode cX5_deed 93 = .ok (.iastore, 1) := by decide +kernel
theorem dX5_deed_94 : decode cX5_deed 94 = .ok (.aload_n 0, 1) := by decide +kernel
theorem dX5_deed_95 : decode cX5_deed 95 = .ok (.getfield 22, 3) := by decide +kernel
theorem dX5_deed_98 : decode cX5_deed 98 = .ok (.iload_n 1, 1) := by decide +kernel
theorem dX5_deed_99 : decode cX5_deed 99 = .ok (.dup2, 1) := by decide +kernel
theorem dX5_deed_100 : decode cX5_deed 100 = .ok (.iaload, 1) := by decide +kernel
theorem dX5_deed_101 : decode cX5_deed 101 = .ok (.iconst 1, 1) := by decide +kernel
theorem dX5_deed_102 : decode cX5_deed 102 = .ok (.iadd, 1) := by decide +kernel
theorem dX5_deed_103 : decode cX5_deed 103 = .ok (.iastore, 1) := by decide +kernel
theorem dX5_deed_104 : decode cX5_deed 104 = .ok (.aload_n 0, 1) := by decide +kernel
theorem dX5_deed_105 : decode cX5_deed 105 = .ok (.getfield 22, 3) := by decide +kernel
theorem dX5_deed_108 : decode cX5_deed 108 = .ok (.iload_n 1, 1) := by decide +kernel
theorem dX5_deed_109 : decode cX5_deed 109 = .ok (.iaload, 1) := by decide +kernel
theorem dX5_deed_110 : decode cX5_deed 110 = .ok (.ireturn, 1) := by decide +kernel
theorem dX5_constant_0 : decode cX5_constant 0 = .ok (.iload_n 2, 1) := by decide +kernel
theorem dX5_constant_1 : decode cX5_constant 1 = .ok (.iconst 1, 1) := by decide +kernel
theorem dX5_constant_2 : decode cX5_constant 2 = .ok (.iconst 5, 1) := by decide +kernel
theorem dX5_constant_3 : decode cX5_constant 3 = .ok (.invokestatic 98, 3) := by decide +kernel
theorem dX5_constant_6 : decode cX5_constant 6 = .ok (.ifCond .ne 15, 3) := by decide +kernel
theorem dX5_constant_9 : decode cX5_constant 9 = .ok (.iload_n 2, 1) := by decide +kernel
theorem dX5_constant_10 : decode cX5_constant 10 = .ok (.bipush 7, 2) := by decide +kernel
theorem dX5_constant_12 : decode cX5_constant 12 = .ok (.if_icmp .eq 9, 3) := by decide +kernel
theorem dX5_constant_15 : decode cX5_constant 15 = .ok (.iload_n 2, 1) := by decide +kernel
theorem dX5_constant_16 : decode cX5_constant 16 = .ok (.bipush 11, 2) := by decide +kernel
theorem dX5_constant_18 : decode cX5_constant 18 = .ok (.if_icmp .ne 7, 3) := by decide +kernel
theorem dX5_constant_21 : decode cX5_constant 21 = .ok (.iconst 1, 1) := by decide +kernel
theorem dX5_constant_22 : decode cX5_constant 22 = .ok (.goto 4, 3) := by decide +kernel
theorem dX5_constant_25 : decode cX5_constant 25 = .ok (.iconst 0, 1) := by decide +kernel
theorem dX5_constant_26 : decode cX5_constant 26 = .ok (.istore 6, 2) := by decide +kernel
theorem dX5_constant_28 : decode cX5_constant 28 = .ok (.iload_n 2, 1) := by decide +kernel
theorem dX5_constant_29 : decode cX5_constant 29 = .ok (.iconst 2, 1) := by decide +kernel
theorem dX5_constant_30 : decode cX5_constant 30 = .ok (.if_icmp .eq 14, 3) := by decide +kernel
theorem dX5_constant_33 : decode cX5_constant 33 = .ok (.iload_n 2, 1) := by decide +kernel
theorem dX5_constant_34 : decode cX5_constant 34 = .ok (.iconst 3, 1) := by decide +kernel
theorem dX5_constant_35 : decode cX5_constant 35 = .ok (.if_icmp .eq 9, 3) := by decide +kernel
theorem dX5_constant_38 : decode cX5_constant 38 = .ok (.iload_n 2, 1) := by decide +kernel
theorem dX5_constant_39 : decode cX5_constant 39 = .ok (.bipush 7, 2) := by decide +kernel
theorem dX5_constant_41 : decode cX5_constant 41 = .ok (.if_icmp .ne 7, 3) := by decide +kernel
theorem dX5_constant_44 : decode cX5_constant 44 = .ok (.iconst 1, 1) := by decide +kernel
theorem dX5_constant_45 : decode cX5_constant 45 = .ok (.goto 4, 3) := by decide +kernel
theorem dX5_constant_48 : decode cX5_constant 48 = .ok (.iconst 0, 1) := by decide +kernel
theorem dX5_constant_49 : decode cX5_constant 49 = .ok (.istore 7, 2) := by decide +kernel
theorem dX5_constant_51 : decode cX5_constant 51 = .ok (.aload_n 0, 1) := by decide +kernel
theorem dX5_constant_52 : decode cX5_constant 52 = .ok (.iload_n 1, 1) := by decide +kernel
theorem dX5_constant_53 : decode cX5_constant 53 = .ok (.invokevirtual 102, 3) := by decide +kernel
theorem dX5_constant_56 : decode cX5_constant 56 = .ok (.ifCond .eq 80, 3) := by decide +kernel
theorem dX5_constant_59 : decode cX5_constant 59 = .ok (.iload_n 2, 1) := by decide +kernel
theorem dX5_constant_60 : decode cX5_constant 60 = .ok (.iconst 0, 1) := by decide +kernel
theorem dX5_constant_61 : decode cX5_constant 61 = .ok (.bipush 11, 2) := by decide +kernel
theorem dX5_constant_63 : decode cX5_constant 63 = .ok (.invokestatic 98, 3) := by decide +kernel
theorem dX5_constant_66 : decode cX5_constant 66 = .ok (.ifCond .eq 70, 3) := by decide +kernel
theorem dX5_constant_69 : decode cX5_constant 69 = .ok (.iload 6, 2) := by decide +kernel
theorem dX5_constant_71 : decode cX5_constant 71 = .ok (.ifCond .eq 13, 3) := by decide +kernel
theorem dX5_constant_74 : decode cX5_constant 74 = .ok (.iload_n 3, 1) := by decide +kernel
theorem dX5_constant_75 : decode cX5_constant 75 = .ok (.iconst 0, 1) := by decide +kernel
theorem dX5_constant_76 : decode cX5_constant 76 = .ok (.bipush 39, 2) := by decide +kernel
theorem dX5_constant_78 : decode cX5_constant 78 = .ok (.invokestatic 98, 3) := by decide +kernel
theorem dX5_constant_81 : decode cX5_constant 81 = .ok (.ifCond .eq 55, 3) := by decide +kernel
theorem dX5_constant_84 : decode cX5_constant 84 = .ok (.iload 7, 2) := by decide +kernel
theorem dX5_constant_86 : decode cX5_constant 86 = .ok (.ifCond .eq 14, 3) := by decide +kernel
theorem dX5_constant_89 : decode cX5_constant 89 = .ok (.iload 4, 2) := by decide +kernel
theorem dX5_constant_91 : decode cX5_constant 91 = .ok (.iconst 0, 1) := by decide +kernel
theorem dX5_constant_92 : decode cX5_constant 92 = .ok (.bipush 39, 2) := by decide +kernel
theorem dX5_constant_94 : decode cX5_constant 94 = .ok (.invokestatic 98, 3) := by decide +kernel
theorem dX5_constant_97 : decode cX5_constant 97 = .ok (.ifCond .eq 39, 3) := by decide +kernel
theorem dX5_constant_100 : decode cX5_constant 100 = .ok (.iload_n 2, 1) := by decide +kernel
theorem dX5_constant_101 : decode cX5_constant 101 = .ok (.bipush 7, 2) := by decide +kernel
theorem dX5_constant_103 : decode cX5_constant 103 = .ok (.if_icmp .ne 14, 3) := by decide +kernel
theorem dX5_constant_106 : decode cX5_constant 106 = .ok (.iload 5, 2) := by decide +kernel
theorem dX5_constant_108 : decode cX5_constant 108 = .ok (.iconst 0, 1) := by decide +kernel
theorem dX5_constant_109 : decode cX5_constant 109 = .ok (.bipush 39, 2) := by decide +kernel
theorem dX5_constant_111 : decode cX5_constant 111 = .ok (.invokestatic 98, 3) := by decide +kernel
theorem dX5_constant_114 : decode cX5_constant 114 = .ok (.ifCond .eq 22, 3) := by decide +kernel
theorem dX5_constant_117 : decode cX5_constant 117 = .ok (.iload_n 2, 1) := by decide +kernel
theorem dX5_constant_118 : decode cX5_constant 118 = .ok (.bipush 8, 2) := by decide +kernel
theorem dX5_constant_120 : decode cX5_constant 120 = .ok (.bipush 10, 2) := by decide +kernel
theorem dX5_constant_122 : decode cX5_constant 122 = .ok (.invokestatic 98, 3) := by decide +kernel
theorem dX5_constant_125 : decode cX5_constant 125 = .ok (.ifCond .eq 13, 3) := by decide +kernel
theorem dX5_constant_128 : decode cX5_constant 128 = .ok (.aload_n 0, 1) := by decide +kernel
theorem dX5_constant_129 : decode cX5_constant 129 = .ok (.iload_n 3, 1) := by decide +kernel
theorem dX5_constant_130 : decode cX5_constant 130 = .ok (.invokevirtual 102, 3) := by decide +kernel
theorem dX5_constant_133 : decode cX5_constant 133 = .ok (.ifCond .ne 5, 3) := by decide +kernel
theorem dX5_constant_136 : decode cX5_constant 136 = .ok (.iconst (-1), 1) := by decide +kernel
theorem dX5_constant_137 : decode cX5_constant 137 = .ok (.ireturn, 1) := by decide +kernel
theorem dX5_constant_138 : decode cX5_constant 138 = .ok (.aload_n 0, 1) := by decide +kernel
theorem dX5_constant_139 : decode cX5_constant 139 = .ok (.getfield 106, 3) := by decide +kernel
theorem dX5_constant_142 : decode cX5_constant 142 = .ok (.bipush 40, 2) := by decide +kernel
theorem dX5_constant_144 : decode cX5_constant 144 = .ok (.if_icmp .ne 6, 3) := by decide +kernel
theorem dX5_constant_147 : decode cX5_constant 147 = .ok (.bipush (-2), 2) := by decide +kernel
theorem dX5_constant_149 : decode cX5_constant 149 = .ok (.ireturn, 1) := by decide +kernel
theorem dX5_constant_150 : decode cX5_constant 150 = .ok (.aload_n 0, 1) := by decide +kernel
theorem dX5_constant_151 : decode cX5_constant 151 = .ok (.getfield 31, 3) := by decide +kernel
theorem dX5_constant_154 : decode cX5_constant 154 = .ok (.aload_n 0, 1) := by decide +kernel
theorem dX5_constant_155 : decode cX5_constant 155 = .ok (.getfield 106, 3) := by decide +kernel
theorem dX5_constant_158 : decode cX5_constant 158 = .ok (.iload_n 1, 1) := by decide +kernel
theorem dX5_constant_159 : decode cX5_constant 159 = .ok (.iastore, 1) := by decide +kernel
theorem dX5_constant_160 : decode cX5_constant 160 = .ok (.aload_n 0, 1) := by decide +kernel
theorem dX5_constant_161 : decode cX5_constant 161 = .ok (.getfield 34, 3) := by decide +kernel
theorem dX5_constant_164 : decode cX5_constant 164 = .ok (.aload_n 0, 1) := by decide +kernel
theorem dX5_constant_165 : decode cX5_constant 165 = .ok (.getfield 106, 3) := by decide +kernel
theorem dX5_constant_168 : decode cX5_constant 168 = .ok (.iload_n 2, 1) := by decide +kernel
theorem dX5_constant_169 : decode cX5_constant 169 = .ok (.iastore, 1) := by decide +kernel
theorem dX5_constant_170 : decode cX5_constant 170 = .ok (.aload_n 0, 1) := by decide +kernel
theorem dX5_constant_171 : decode cX5_constant 171 = .ok (.getfield 37, 3) := by decide +kernel
theorem dX5_constant_174 : decode cX5_constant 174 = .ok (.aload_n 0, 1) := by decide +kernel
theorem dX5_constant_175 : decode cX5_constant 175 = .ok (.getfield 106, 3) := by decide +kernel
theorem dX5_constant_178 : decode cX5_constant 178 = .ok (.iload_n 3, 1) := by decide +kernel
theorem dX5_constant_179 : decode cX5_constant 179 = .ok (.iastore, 1) := by decide +kernel
theorem dX5_constant_180 : decode cX5_constant 180 = .ok (.aload_n 0, 1) := by decide +kernel
theorem dX5_constant_181 : decode cX5_constant 181 = .ok (.getfield 40, 3) := by decide +kernel
theorem dX5_constant_184 : decode cX5_constant 184 = .ok (.aload_n 0, 1) := by decide +kernel
theorem dX5_constant_185 : decode cX5_constant 185 = .ok (.getfield 106, 3) := by decide +kernel
theorem dX5_constant_188 : decode cX5_constant 188 = .ok (.iload 4, 2) := by decide +kernel
theorem dX5_constant_190 : decode cX5_constant 190 = .ok (.iastore, 1) := by decide +kernel
theorem dX5_constant_191 : decode cX5_constant 191 = .ok (.aload_n 0, 1) := by decide +kernel
theorem dX5_constant_192 : decode cX5_constant 192 = .ok (.getfield 43, 3) := by decide +kernel
theorem dX5_constant_195 : decode cX5_constant 195 = .ok (.aload_n 0, 1) := by decide +kernel
theorem dX5_constant_196 : decode cX5_constant 196 = .ok (.getfield 106, 3) := by decide +kernel
theorem dX5_constant_199 : decode cX5_constant 199 = .ok (.iload 5, 2) := by decide +kernel
theorem dX5_constant_201 : decode cX5_constant 201 = .ok (.iastore, 1) := by decide +kernel
theorem dX5_constant_202 : decode cX5_constant 202 = .ok (.aload_n 0, 1) := by decide +kernel
theorem dX5_constant_203 : decode cX5_constant 203 = .ok (.dup, 1) := by decide +kernel
theorem dX5_constant_204 : decode cX5_constant 204 = .ok (.getfield 106, 3) := by decide +kernel
theorem dX5_constant_207 : decode cX5_constant 207 = .ok (.iconst 1, 1) := by decide +kernel
theorem dX5_constant_208 : decode cX5_constant 208 = .ok (.iadd, 1) := by decide +kernel
theorem dX5_constant_209 : decode cX5_constant 209 = .ok (.putfield 106, 3) := by decide +kernel
theorem dX5_constant_212 : decode cX5_constant 212 = .ok (.aload_n 0, 1) := by decide +kernel
theorem dX5_constant_213 : decode cX5_constant 213 = .ok (.getfield 106, 3) := by decide +kernel
theorem dX5_constant_216 : decode cX5_constant 216 = .ok (.iconst 1, 1) := by decide +kernel
theorem dX5_constant_217 : decode cX5_constant 217 = .ok (.isub, 1) := by decide +kernel
theorem dX5_constant_218 : decode cX5_constant 218 = .ok (.ireturn, 1) := by decide +kernel
theorem dX5_push_0 : decode cX5_push 0 = .ok (.aload_n 0, 1) := by decide +kernel
theorem dX5_push_1 : decode cX5_push 1 = .ok (.getfield 73, 3) := by decide +kernel
theorem dX5_push_4 : decode cX5_push 4 = .ok (.aload_n 0, 1) := by decide +kernel
theorem dX5_push_5 : decode cX5_push 5 = .ok (.getfield 109, 3) := by decide +kernel
theorem dX5_push_8 : decode cX5_push 8 = .ok (.iload_n 1, 1) := by decide +kernel
theorem dX5_push_9 : decode cX5_push 9 = .ok (.iastore, 1) := by decide +kernel
theorem dX5_push_10 : decode cX5_push 10 = .ok (.aload_n 0, 1) := by decide +kernel
theorem dX5_push_11 : decode cX5_push 11 = .ok (.getfield 76, 3) := by decide +kernel
theorem dX5_push_14 : decode cX5_push 14 = .ok (.aload_n 0, 1) := by decide +kernel
theorem dX5_push_15 : decode cX5_push 15 = .ok (.getfield 109, 3) := by decide +kernel
theorem dX5_push_18 : decode cX5_push 18 = .ok (.iload_n 2, 1) := by decide +kernel
theorem dX5_push_19 : decode cX5_push 19 = .ok (.iastore, 1) := by decide +kernel
theorem dX5_push_20 : decode cX5_push 20 = .ok (.aload_n 0, 1) := by decide +kernel
theorem dX5_push_21 : decode cX5_push 21 = .ok (.getfield 79, 3) := by decide +kernel
theorem dX5_push_24 : decode cX5_push 24 = .ok (.aload_n 0, 1) := by decide +kernel
theorem dX5_push_25 : decode cX5_push 25 = .ok (.getfield 109, 3) := by decide +kernel
theorem dX5_push_28 : decode cX5_push 28 = .ok (.iconst 0, 1) := by decide +kernel
theorem dX5_push_29 : decode cX5_push 29 = .ok (.iastore, 1) := by decide +kernel
theorem dX5_push_30 : decode cX5_push 30 = .ok (.aload_n 0, 1) := by decide +kernel
theorem dX5_push_31 : decode cX5_push 31 = .ok (.getfield 82, 3) := by decide +kernel
theorem dX5_push_34 : decode cX5_push 34 = .ok (.aload_n 0, 1) := by decide +kernel
theorem dX5_push_35 : decode cX5_push 35 = .ok (.getfield 109, 3) := by decide +kernel
theorem dX5_push_38 : decode cX5_push 38 = .ok (.iconst 0, 1) := by decide +kernel
theorem dX5_push_39 : decode cX5_push 39 = .ok (.iastore, 1) := by decide +kernel
theorem dX5_push_40 : decode cX5_push 40 = .ok (.aload_n 0, 1) := by decide +kernel
theorem dX5_push_41 : decode cX5_push 41 = .ok (.dup, 1) := by decide +kernel
theorem dX5_push_42 : decode cX5_push 42 = .ok (.getfield 109, 3) := by decide +kernel
theorem dX5_push_45 : decode cX5_push 45 = .ok (.iconst 1, 1) := by decide +kernel
theorem dX5_push_46 : decode cX5_push 46 = .ok (.iadd, 1) := by decide +kernel
theorem dX5_push_47 : decode cX5_push 47 = .ok (.putfield 109, 3) := by decide +kernel
theorem dX5_push_50 : decode cX5_push 50 = .ok (.return_, 1) := by decide +kernel
theorem dX5_mark_0 : decode cX5_mark 0 = .ok (.aload_n 0, 1) := by decide +kernel
theorem dX5_mark_1 : decode cX5_mark 1 = .ok (.getfield 112, 3) := by decide +kernel
theorem dX5_mark_4 : decode cX5_mark 4 = .ok (.ifCond .eq 49, 3) := by decide +kernel
theorem dX5_mark_7 : decode cX5_mark 7 = .ok (.aload_n 0, 1) := by decide +kernel
theorem dX5_mark_8 : decode cX5_mark 8 = .ok (.getfield 116, 3) := by decide +kernel
theorem dX5_mark_11 : decode cX5_mark 11 = .ok (.sipush 200, 3) := by decide +kernel
theorem dX5_mark_14 : decode cX5_mark 14 = .ok (.if_icmp .ge 39, 3) := by decide +kernel
theorem dX5_mark_17 : decode cX5_mark 17 = .ok (.aload_n 0, 1) := by decide +kernel
theorem dX5_mark_18 : decode cX5_mark 18 = .ok (.getfield 67, 3) := by decide +kernel
theorem dX5_mark_21 : decode cX5_mark 21 = .ok (.iconst 2, 1) := by decide +kernel
theorem dX5_mark_22 : decode cX5_mark 22 = .ok (.aload_n 0, 1) := by decide +kernel
theorem dX5_mark_23 : decode cX5_mark 23 = .ok (.getfield 116, 3) := by decide +kernel
theorem dX5_mark_26 : decode cX5_mark 26 = .ok (.imul, 1) := by decide +kernel
theorem dX5_mark_27 : decode cX5_mark 27 = .ok (.iload_n 1, 1) := by decide +kernel
theorem dX5_mark_28 : decode cX5_mark 28 = .ok (.iastore, 1) := by decide +kernel
theorem dX5_mark_29 : decode cX5_mark 29 = .ok (.aload_n 0, 1) := by decide +kernel
theorem dX5_mark_30 : decode cX5_mark 30 = .ok (.getfield 67, 3) := by decide +kernel
theorem dX5_mark_33 : decode cX5_mark 33 = .ok (.iconst 2, 1) := by decide +kernel
theorem dX5_mark_34 : decode cX5_mark 34 = .ok (.aload_n 0, 1) := by decide +kernel
theorem dX5_mark_35 : decode cX5_mark 35 = .ok (.getfield 116, 3) := by decide +kernel
theorem dX5_mark_38 : decode cX5_mark 38 = .ok (.imul, 1) := by decide +kernel
theorem dX5_mark_39 : decode cX5_mark 39 = .ok (.iconst 1, 1) := by decide +kernel
theorem dX5_mark_40 : decode cX5_mark 40 = .ok (.iadd, 1) := by decide +kernel
theorem dX5_mark_41 : decode cX5_mark 41 = .ok (.iload_n 2, 1) := by decide +kernel
theorem dX5_mark_42 : decode cX5_mark 42 = .ok (.iastore, 1) := by decide +kernel
theorem dX5_mark_43 : decode cX5_mark 43 = .ok (.aload_n 0, 1) := by decide +kernel
theorem dX5_mark_44 : decode cX5_mark 44 = .ok (.dup, 1) := by decide +kernel
theorem dX5_mark_45 : decode cX5_mark 45 = .ok (.getfield 116, 3) := by decide +kernel
theorem dX5_mark_48 : decode cX5_mark 48 = .ok (.iconst 1, 1) := by decide +kernel
theorem dX5_mark_49 : decode cX5_mark 49 = .ok (.iadd, 1) := by decide +kernel
theorem dX5_mark_50 : decode cX5_mark 50 = .ok (.putfield 116, 3) := by decide +kernel
theorem dX5_mark_53 : decode cX5_mark 53 = .ok (.return_, 1) := by decide +kernel
theorem dX5_fails_0 : decode cX5_fails 0 = .ok (.aload_n 0, 1) := by decide +kernel
theorem dX5_fails_1 : decode cX5_fails 1 = .ok (.iload_n 1, 1) := by decide +kernel
theorem dX5_fails_2 : decode cX5_fails 2 = .ok (.putfield 119, 3) := by decide +kernel
theorem dX5_fails_5 : decode cX5_fails 5 = .ok (.aload_n 0, 1) := by decide +kernel
theorem dX5_fails_6 : decode cX5_fails 6 = .ok (.iload_n 2, 1) := by decide +kernel
theorem dX5_fails_7 : decode cX5_fails 7 = .ok (.putfield 122, 3) := by decide +kernel
theorem dX5_fails_10 : decode cX5_fails 10 = .ok (.aload_n 0, 1) := by decide +kernel
theorem dX5_fails_11 : decode cX5_fails 11 = .ok (.iload_n 1, 1) := by decide +kernel
theorem dX5_fails_12 : decode cX5_fails 12 = .ok (.putfield 125, 3) := by decide +kernel
theorem dX5_fails_15 : decode cX5_fails 15 = .ok (.aload_n 0, 1) := by decide +kernel
theorem dX5_fails_16 : decode cX5_fails 16 = .ok (.iload_n 2, 1) := by decide +kernel
theorem dX5_fails_17 : decode cX5_fails 17 = .ok (.putfield 128, 3) := by decide +kernel
theorem dX5_fails_20 : decode cX5_fails 20 = .ok (.return_, 1) := by decide +kernel
theorem dX5_gives_0 : decode cX5_gives 0 = .ok (.aload_n 0, 1) := by decide +kernel
theorem dX5_gives_1 : decode cX5_gives 1 = .ok (.iconst 0, 1) := by decide +kernel
theorem dX5_gives_2 : decode cX5_gives 2 = .ok (.putfield 119, 3) := by decide +kernel
theorem dX5_gives_5 : decode cX5_gives 5 = .ok (.aload_n 0, 1) := by decide +kernel
theorem dX5_gives_6 : decode cX5_gives 6 = .ok (.iload_n 1, 1) := by decide +kernel
theorem dX5_gives_7 : decode cX5_gives 7 = .ok (.putfield 131, 3) := by decide +kernel
theorem dX5_gives_10 : decode cX5_gives 10 = .ok (.return_, 1) := by decide +kernel
theorem dX5_runs_0 : decode cX5_runs 0 = .ok (.aload_n 0, 1) := by decide +kernel
theorem dX5_runs_1 : decode cX5_runs 1 = .ok (.getfield 109, 3) := by decide +kernel
theorem dX5_runs_4 : decode cX5_runs 4 = .ok (.ifCond .le 37, 3) := by decide +kernel
theorem dX5_runs_7 : decode cX5_runs 7 = .ok (.aload_n 0, 1) := by decide +kernel
theorem dX5_runs_8 : decode cX5_runs 8 = .ok (.getfield 109, 3) := by decide +kernel
theorem dX5_runs_11 : decode cX5_runs 11 = .ok (.iconst 1, 1) := by decide +kernel
theorem dX5_runs_12 : decode cX5_runs 12 = .ok (.isub, 1) := by decide +kernel
theorem dX5_runs_13 : decode cX5_runs 13 = .ok (.istore_n 2, 1) := by decide +kernel
theorem dX5_runs_14 : decode cX5_runs 14 = .ok (.aload_n 0, 1) := by decide +kernel
theorem dX5_runs_15 : decode cX5_runs 15 = .ok (.getfield 73, 3) := by decide +kernel
theorem dX5_runs_18 : decode cX5_runs 18 = .ok (.iload_n 2, 1) := by decide +kernel
theorem dX5_runs_19 : decode cX5_runs 19 = .ok (.iaload, 1) := by decide +kernel
theorem dX5_runs_20 : decode cX5_runs 20 = .ok (.ifCond .ne 12, 3) := by decide +kernel
theorem dX5_runs_23 : decode cX5_runs 23 = .ok (.aload_n 0, 1) := by decide +kernel
theorem dX5_runs_24 : decode cX5_runs 24 = .ok (.iload_n 1, 1) := by decide +kernel
theorem dX5_runs_25 : decode cX5_runs 25 = .ok (.iload_n 2, 1) := by decide +kernel
theorem dX5_runs_26 : decode cX5_runs 26 = .ok (.invokevirtual 134, 3) := by decide +kernel
theorem dX5_runs_29 : decode cX5_runs 29 = .ok (.goto 9, 3) := by decide +kernel
theorem dX5_runs_32 : decode cX5_runs 32 = .ok (.aload_n 0, 1) := by decide +kernel
theorem dX5_runs_33 : decode cX5_runs 33 = .ok (.iload_n 1, 1) := by decide +kernel
theorem dX5_runs_34 : decode cX5_runs 34 = .ok (.iload_n 2, 1) := by decide +kernel
theorem dX5_runs_35 : decode cX5_runs 35 = .ok (.invokevirtual 138, 3) := by decide +kernel
theorem dX5_runs_38 : decode cX5_runs 38 = .ok (.goto (-38), 3) := by decide +kernel
theorem dX5_runs_41 : decode cX5_runs 41 = .ok (.return_, 1) := by decide +kernel
theorem dX5_needs_0 : decode cX5_needs 0 = .ok (.aload_n 0, 1) := by decide +kernel
theorem dX5_needs_1 : decode cX5_needs 1 = .ok (.getfield 76, 3) := by decide +kernel
theorem dX5_needs_4 : decode cX5_needs 4 = .ok (.iload_n 2, 1) := by decide +kernel
theorem dX5_needs_5 : decode cX5_needs 5 = .ok (.iaload, 1) := by decide +kernel
theorem dX5_needs_6 : decode cX5_needs 6 = .ok (.istore_n 3, 1) := by decide +kernel
theorem dX5_needs_7 : decode cX5_needs 7 = .ok (.aload_n 0, 1) := by decide +kernel
theorem dX5_needs_8 : decode cX5_needs 8 = .ok (.getfield 79, 3) := by decide +kernel
theorem dX5_needs_11 : decode cX5_needs 11 = .ok (.iload_n 2, 1) := by decide +kernel
theorem dX5_needs_12 : decode cX5_needs 12 = .ok (.iaload, 1) := by decide +kernel
theorem dX5_needs_13 : decode cX5_needs 13 = .ok (.ifCond .ne 31, 3) := by decide +kernel
theorem dX5_needs_16 : decode cX5_needs 16 = .ok (.iload_n 3, 1) := by decide +kernel
theorem dX5_needs_17 : decode cX5_needs 17 = .ok (.aload_n 0, 1) := by decide +kernel
theorem dX5_needs_18 : decode cX5_needs 18 = .ok (.getfield 106, 3) := by decide +kernel
theorem dX5_needs_21 : decode cX5_needs 21 = .ok (.if_icmp .lt 23, 3) := by decide +kernel
theorem dX5_needs_24 : decode cX5_needs 24 = .ok (.aload_n 0, 1) := by decide +kernel
theorem dX5_needs_25 : decode cX5_needs 25 = .ok (.bipush 8, 2) := by decide +kernel
theorem dX5_needs_27 : decode cX5_needs 27 = .ok (.iload_n 3, 1) := by decide +kernel
theorem dX5_needs_28 : decode cX5_needs 28 = .ok (.invokevirtual 141, 3) := by decide +kernel
theorem dX5_needs_31 : decode cX5_needs 31 = .ok (.aload_n 0, 1) := by decide +kernel
theorem dX5_needs_32 : decode cX5_needs 32 = .ok (.dup, 1) := by decide +kernel
theorem dX5_needs_33 : decode cX5_needs 33 = .ok (.getfield 109, 3) := by decide +kernel
theorem dX5_needs_36 : decode cX5_needs 36 = .ok (.iconst 1, 1) := by decide +kernel
theorem dX5_needs_37 : decode cX5_needs 37 = .ok (.isub, 1) := by decide +kernel
theorem dX5_needs_38 : decode cX5_needs 38 = .ok (.putfield 109, 3) := by decide +kernel
theorem dX5_needs_41 : decode cX5_needs 41 = .ok (.goto 80, 3) := by decide +kernel
theorem dX5_needs_44 : decode cX5_needs 44 = .ok (.aload_n 0, 1) := by decide +kernel
theorem dX5_needs_45 : decode cX5_needs 45 = .ok (.getfield 79, 3) := by decide +kernel
theorem dX5_needs_48 : decode cX5_needs 48 = .ok (.iload_n 2, 1) := by decide +kernel
theorem dX5_needs_49 : decode cX5_needs 49 = .ok (.iaload, 1) := by decide +kernel
theorem dX5_needs_50 : decode cX5_needs 50 = .ok (.ifCond .ne 24, 3) := by decide +kernel
theorem dX5_needs_53 : decode cX5_needs 53 = .ok (.aload_n 0, 1) := by decide +kernel
theorem dX5_needs_54 : decode cX5_needs 54 = .ok (.getfield 79, 3) := by decide +kernel
theorem dX5_needs_57 : decode cX5_needs 57 = .ok (.iload_n 2, 1) := by decide +kernel
theorem dX5_needs_58 : decode cX5_needs 58 = .ok (.iconst 1, 1) := by decide +kernel
theorem dX5_needs_59 : decode cX5_needs 59 = .ok (.iastore, 1) := by decide +kernel
theorem dX5_needs_60 : decode cX5_needs 60 = .ok (.aload_n 0, 1) := by decide +kernel
theorem dX5_needs_61 : decode cX5_needs 61 = .ok (.iconst 1, 1) := by decide +kernel
theorem dX5_needs_62 : decode cX5_needs 62 = .ok (.aload_n 0, 1) := by decide +kernel
theorem dX5_needs_63 : decode cX5_needs 63 = .ok (.getfield 31, 3) := by decide +kernel
theorem dX5_needs_66 : decode cX5_needs 66 = .ok (.iload_n 3, 1) := by decide +kernel
theorem dX5_needs_67 : decode cX5_needs 67 = .ok (.iaload, 1) := by decide +kernel
theorem dX5_needs_68 : decode cX5_needs 68 = .ok (.invokevirtual 144, 3) := by decide +kernel
theorem dX5_needs_71 : decode cX5_needs 71 = .ok (.goto 50, 3) := by decide +kernel
theorem dX5_needs_74 : decode cX5_needs 74 = .ok (.aload_n 0, 1) := by decide +kernel
theorem dX5_needs_75 : decode cX5_needs 75 = .ok (.getfield 79, 3) := by decide +kernel
theorem dX5_needs_78 : decode cX5_needs 78 = .ok (.iload_n 2, 1) := by decide +kernel
theorem dX5_needs_79 : decode cX5_needs 79 = .ok (.iaload, 1) := by decide +kernel
theorem dX5_needs_80 : decode cX5_needs 80 = .ok (.iconst 1, 1) := by decide +kernel
theorem dX5_needs_81 : decode cX5_needs 81 = .ok (.if_icmp .ne 13, 3) := by decide +kernel
theorem dX5_needs_84 : decode cX5_needs 84 = .ok (.aload_n 0, 1) := by decide +kernel
theorem dX5_needs_85 : decode cX5_needs 85 = .ok (.iload_n 1, 1) := by decide +kernel
theorem dX5_needs_86 : decode cX5_needs 86 = .ok (.iload_n 2, 1) := by decide +kernel
theorem dX5_needs_87 : decode cX5_needs 87 = .ok (.iload_n 3, 1) := by decide +kernel
theorem dX5_needs_88 : decode cX5_needs 88 = .ok (.invokevirtual 147, 3) := by decide +kernel
theorem dX5_needs_91 : decode cX5_needs 91 = .ok (.goto 30, 3) := by decide +kernel
theorem dX5_needs_94 : decode cX5_needs 94 = .ok (.aload_n 0, 1) := by decide +kernel
theorem dX5_needs_95 : decode cX5_needs 95 = .ok (.getfield 79, 3) := by decide +kernel
theorem dX5_needs_98 : decode cX5_needs 98 = .ok (.iload_n 2, 1) := by decide +kernel
theorem dX5_needs_99 : decode cX5_needs 99 = .ok (.iaload, 1) := by decide +kernel
theorem dX5_needs_100 : decode cX5_needs 100 = .ok (.iconst 2, 1) := by decide +kernel
theorem dX5_needs_101 : decode cX5_needs 101 = .ok (.if_icmp .ne 13, 3) := by decide +kernel
theorem dX5_needs_104 : decode cX5_needs 104 = .ok (.aload_n 0, 1) := by decide +kernel
theorem dX5_needs_105 : decode cX5_needs 105 = .ok (.iload_n 1, 1) := by decide +kernel
theorem dX5_needs_106 : decode cX5_needs 106 = .ok (.iload_n 2, 1) := by decide +kernel
theorem dX5_needs_107 : decode cX5_needs 107 = .ok (.iload_n 3, 1) := by decide +kernel
theorem dX5_needs_108 : decode cX5_needs 108 = .ok (.invokevirtual 151, 3) := by decide +kernel
theorem dX5_needs_111 : decode cX5_needs 111 = .ok (.goto 10, 3) := by decide +kernel
theorem dX5_needs_114 : decode cX5_needs 114 = .ok (.aload_n 0, 1) := by decide +kernel
theorem dX5_needs_115 : decode cX5_needs 115 = .ok (.iload_n 1, 1) := by decide +kernel
theorem dX5_needs_116 : decode cX5_needs 116 = .ok (.iload_n 2, 1) := by decide +kernel
theorem dX5_needs_117 : decode cX5_needs 117 = .ok (.iload_n 3, 1) := by decide +kernel
theorem dX5_needs_118 : decode cX5_needs 118 = .ok (.invokevirtual 154, 3) := by decide +kernel
theorem dX5_needs_121 : decode cX5_needs 121 = .ok (.return_, 1) := by decide +kernel
theorem dX5_looks_0 : decode cX5_looks 0 = .ok (.bipush 40, 2) := by decide +kernel
theorem dX5_looks_2 : decode cX5_looks 2 = .ok (.iload_n 1, 1) := by decide +kernel
theorem dX5_looks_3 : decode cX5_looks 3 = .ok (.imul, 1) := by decide +kernel
theorem dX5_looks_4 : decode cX5_looks 4 = .ok (.iload_n 3, 1) := by decide +kernel
theorem dX5_looks_5 : decode cX5_looks 5 = .ok (.iadd, 1) := by decide +kernel
theorem dX5_looks_6 : decode cX5_looks 6 = .ok (.istore 4, 2) := by decide +kernel
theorem dX5_looks_8 : decode cX5_looks 8 = .ok (.aload_n 0, 1) := by decide +kernel
theorem dX5_looks_9 : decode cX5_looks 9 = .ok (.getfield 119, 3) := by decide +kernel
theorem dX5_looks_12 : decode cX5_looks 12 = .ok (.ifCond .le 16, 3) := by decide +kernel
theorem dX5_looks_15 : decode cX5_looks 15 = .ok (.aload_n 0, 1) := by decide +kernel
theorem dX5_looks_16 : decode cX5_looks 16 = .ok (.dup, 1) := by decide +kernel
theorem dX5_looks_17 : decode cX5_looks 17 = .ok (.getfield 109, 3) := by decide +kernel
theorem dX5_looks_20 : decode cX5_looks 20 = .ok (.iconst 1, 1) := by decide +kernel
theorem dX5_looks_21 : decode cX5_looks 21 = .ok (.isub, 1) := by decide +kernel
theorem dX5_looks_22 : decode cX5_looks 22 = .ok (.putfield 109, 3) := by decide +kernel
theorem dX5_looks_25 : decode cX5_looks 25 = .ok (.goto 182, 3) := by decide +kernel
theorem dX5_looks_28 : decode cX5_looks 28 = .ok (.aload_n 0, 1) := by decide +kernel
theorem dX5_looks_29 : decode cX5_looks 29 = .ok (.getfield 52, 3) := by decide +kernel
theorem dX5_looks_32 : decode cX5_looks 32 = .ok (.iload 4, 2) := by decide +kernel
theorem dX5_looks_34 : decode cX5_looks 34 = .ok (.iaload, 1) := by decide +kernel
theorem dX5_looks_35 : decode cX5_looks 35 = .ok (.iconst 2, 1) := by decide +kernel
theorem dX5_looks_36 : decode cX5_looks 36 = .ok (.if_icmp .ne 27, 3) := by decide +kernel
theorem dX5_looks_39 : decode cX5_looks 39 = .ok (.aload_n 0, 1) := by decide +kernel
theorem dX5_looks_40 : decode cX5_looks 40 = .ok (.aload_n 0, 1) := by decide +kernel
theorem dX5_looks_41 : decode cX5_looks 41 = .ok (.getfield 55, 3) := by decide +kernel
theorem dX5_looks_44 : decode cX5_looks 44 = .ok (.iload 4, 2) := by decide +kernel
theorem dX5_looks_46 : decode cX5_looks 46 = .ok (.iaload, 1) := by decide +kernel
theorem dX5_looks_47 : decode cX5_looks 47 = .ok (.invokevirtual 157, 3) := by decide +kernel
theorem dX5_looks_50 : decode cX5_looks 50 = .ok (.aload_n 0, 1) := by decide +kernel
theorem dX5_looks_51 : decode cX5_looks 51 = .ok (.dup, 1) := by decide +kernel
theorem dX5_looks_52 : decode cX5_looks 52 = .ok (.getfield 109, 3) := by decide +kernel
theorem dX5_looks_55 : decode cX5_looks 55 = .ok (.iconst 1, 1) := by decide +kernel
theorem dX5_looks_56 : decode cX5_looks 56 = .ok (.isub, 1) := by decide +kernel
theorem dX5_looks_57 : decode cX5_looks 57 = .ok (.putfield 109, 3) := by decide +kernel
theorem dX5_looks_60 : decode cX5_looks 60 = .ok (.goto 147, 3) := by decide +kernel
theorem dX5_looks_63 : decode cX5_looks 63 = .ok (.aload_n 0, 1) := by decide +kernel
theorem dX5_looks_64 : decode cX5_looks 64 = .ok (.getfield 52, 3) := by decide +kernel
theorem dX5_looks_67 : decode cX5_looks 67 = .ok (.iload 4, 2) := by decide +kernel
theorem dX5_looks_69 : decode cX5_looks 69 = .ok (.iaload, 1) := by decide +kernel
theorem dX5_looks_70 : decode cX5_looks 70 = .ok (.iconst 3, 1) := by decide +kernel
theorem dX5_looks_71 : decode cX5_looks 71 = .ok (.if_icmp .ne 60, 3) := by decide +kernel
theorem dX5_looks_74 : decode cX5_looks 74 = .ok (.aload_n 0, 1) := by decide +kernel
theorem dX5_looks_75 : decode cX5_looks 75 = .ok (.aload_n 0, 1) := by decide +kernel
theorem dX5_looks_76 : decode cX5_looks 76 = .ok (.getfield 55, 3) := by decide +kernel
theorem dX5_looks_79 : decode cX5_looks 79 = .ok (.iload 4, 2) := by decide +kernel
theorem dX5_looks_81 : decode cX5_looks 81 = .ok (.iaload, 1) := by decide +kernel
theorem dX5_looks_82 : decode cX5_looks 82 = .ok (.putfield 119, 3) := by decide +kernel
theorem dX5_looks_85 : decode cX5_looks 85 = .ok (.aload_n 0, 1) := by decide +kernel
theorem dX5_looks_86 : decode cX5_looks 86 = .ok (.aload_n 0, 1) := by decide +kernel
theorem dX5_looks_87 : decode cX5_looks 87 = .ok (.getfield 58, 3) := by decide +kernel
theorem dX5_looks_90 : decode cX5_looks 90 = .ok (.iload 4, 2) := by decide +kernel
theorem dX5_looks_92 : decode cX5_looks 92 = .ok (.iaload, 1) := by decide +kernel
theorem dX5_looks_93 : decode cX5_looks 93 = .ok (.putfield 122, 3) := by decide +kernel
theorem dX5_looks_96 : decode cX5_looks 96 = .ok (.aload_n 0, 1) := by decide +kernel
theorem dX5_looks_97 : decode cX5_looks 97 = .ok (.aload_n 0, 1) := by decide +kernel
theorem dX5_looks_98 : decode cX5_looks 98 = .ok (.getfield 61, 3) := by decide +kernel
theorem dX5_looks_101 : decode cX5_looks 101 = .ok (.iload 4, 2) := by decide +kernel
theorem dX5_looks_103 : decode cX5_looks 103 = .ok (.iaload, 1) := by decide +kernel
theorem dX5_looks_104 : decode cX5_looks 104 = .ok (.putfield 125, 3) := by decide +kernel
theorem dX5_looks_107 : decode cX5_looks 107 = .ok (.aload_n 0, 1) := by decide +kernel
theorem dX5_looks_108 : decode cX5_looks 108 = .ok (.aload_n 0, 1) := by decide +kernel
theorem dX5_looks_109 : decode cX5_looks 109 = .ok (.getfield 64, 3) := by decide +kernel
theorem dX5_looks_112 : decode cX5_looks 112 = .ok (.iload 4, 2) := by decide +kernel
theorem dX5_looks_114 : decode cX5_looks 114 = .ok (.iaload, 1) := by decide +kernel
theorem dX5_looks_115 : decode cX5_looks 115 = .ok (.putfield 128, 3) := by decide +kernel
theorem dX5_looks_118 : decode cX5_looks 118 = .ok (.aload_n 0, 1) := by decide +kernel
theorem dX5_looks_119 : decode cX5_looks 119 = .ok (.dup, 1) := by decide +kernel
theorem dX5_looks_120 : decode cX5_looks 120 = .ok (.getfield 109, 3) := by decide +kernel
theorem dX5_looks_123 : decode cX5_looks 123 = .ok (.iconst 1, 1) := by decide +kernel
theorem dX5_looks_124 : decode cX5_looks 124 = .ok (.isub, 1) := by decide +kernel
theorem dX5_looks_125 : decode cX5_looks 125 = .ok (.putfield 109, 3) := by decide +kernel
theorem dX5_looks_128 : decode cX5_looks 128 = .ok (.goto 79, 3) := by decide +kernel
theorem dX5_looks_131 : decode cX5_looks 131 = .ok (.aload_n 0, 1) := by decide +kernel
theorem dX5_looks_132 : decode cX5_looks 132 = .ok (.getfield 52, 3) := by decide +kernel
theorem dX5_looks_135 : decode cX5_looks 135 = .ok (.iload 4, 2) := by decide +kernel
theorem dX5_looks_137 : decode cX5_looks 137 = .ok (.iaload, 1) := by decide +kernel
theorem dX5_looks_138 : decode cX5_looks 138 = .ok (.iconst 1, 1) := by decide +kernel
theorem dX5_looks_139 : decode cX5_looks 139 = .ok (.if_icmp .ne 22, 3) := by decide +kernel
theorem dX5_looks_142 : decode cX5_looks 142 = .ok (.aload_n 0, 1) := by decide +kernel
theorem dX5_looks_143 : decode cX5_looks 143 = .ok (.iconst 4, 1) := by decide +kernel
theorem dX5_looks_144 : decode cX5_looks 144 = .ok (.iload_n 3, 1) := by decide +kernel
theorem dX5_looks_145 : decode cX5_looks 145 = .ok (.invokevirtual 141, 3) := by decide +kernel
theorem dX5_looks_148 : decode cX5_looks 148 = .ok (.aload_n 0, 1) := by decide +kernel
theorem dX5_looks_149 : decode cX5_looks 149 = .ok (.dup, 1) := by decide +kernel
theorem dX5_looks_150 : decode cX5_looks 150 = .ok (.getfield 109, 3) := by decide +kernel
theorem dX5_looks_153 : decode cX5_looks 153 = .ok (.iconst 1, 1) := by decide +kernel
theorem dX5_looks_154 : decode cX5_looks 154 = .ok (.isub, 1) := by decide +kernel
theorem dX5_looks_155 : decode cX5_looks 155 = .ok (.putfield 109, 3) := by decide +kernel
theorem dX5_looks_158 : decode cX5_looks 158 = .ok (.goto 49, 3) := by decide +kernel
theorem dX5_looks_161 : decode cX5_looks 161 = .ok (.aload_n 0, 1) := by decide +kernel
theorem dX5_looks_162 : decode cX5_looks 162 = .ok (.getfield 52, 3) := by decide +kernel
theorem dX5_looks_165 : decode cX5_looks 165 = .ok (.iload 4, 2) := by decide +kernel
theorem dX5_looks_167 : decode cX5_looks 167 = .ok (.iconst 1, 1) := by decide +kernel
theorem dX5_looks_168 : decode cX5_looks 168 = .ok (.iastore, 1) := by decide +kernel
theorem dX5_looks_169 : decode cX5_looks 169 = .ok (.aload_n 0, 1) := by decide +kernel
theorem dX5_looks_170 : decode cX5_looks 170 = .ok (.iconst 3, 1) := by decide +kernel
theorem dX5_looks_171 : decode cX5_looks 171 = .ok (.iload_n 3, 1) := by decide +kernel
theorem dX5_looks_172 : decode cX5_looks 172 = .ok (.invokevirtual 161, 3) := by decide +kernel
theorem dX5_looks_175 : decode cX5_looks 175 = .ok (.aload_n 0, 1) := by decide +kernel
theorem dX5_looks_176 : decode cX5_looks 176 = .ok (.dup, 1) := by decide +kernel
theorem dX5_looks_177 : decode cX5_looks 177 = .ok (.getfield 164, 3) := by decide +kernel
theorem dX5_looks_180 : decode cX5_looks 180 = .ok (.iload_n 1, 1) := by decide +kernel
theorem dX5_looks_181 : decode cX5_looks 181 = .ok (.iconst 3, 1) := by decide +kernel
theorem dX5_looks_182 : decode cX5_looks 182 = .ok (.if_icmp .ge 7, 3) := by decide +kernel
theorem dX5_looks_185 : decode cX5_looks 185 = .ok (.iconst 1, 1) := by decide +kernel
theorem dX5_looks_186 : decode cX5_looks 186 = .ok (.goto 4, 3) := by decide +kernel
theorem dX5_looks_189 : decode cX5_looks 189 = .ok (.iconst 0, 1) := by decide +kernel
theorem dX5_looks_190 : decode cX5_looks 190 = .ok (.iadd, 1) := by decide +kernel
theorem dX5_looks_191 : decode cX5_looks 191 = .ok (.putfield 164, 3) := by decide +kernel
theorem dX5_looks_194 : decode cX5_looks 194 = .ok (.aload_n 0, 1) := by decide +kernel
theorem dX5_looks_195 : decode cX5_looks 195 = .ok (.getfield 79, 3) := by decide +kernel
theorem dX5_looks_198 : decode cX5_looks 198 = .ok (.iload_n 2, 1) := by decide +kernel
theorem dX5_looks_199 : decode cX5_looks 199 = .ok (.iconst 2, 1) := by decide +kernel
theorem dX5_looks_200 : decode cX5_looks 200 = .ok (.iastore, 1) := by decide +kernel
theorem dX5_looks_201 : decode cX5_looks 201 = .ok (.aload_n 0, 1) := by decide +kernel
theorem dX5_looks_202 : decode cX5_looks 202 = .ok (.iload_n 1, 1) := by decide +kernel
theorem dX5_looks_203 : decode cX5_looks 203 = .ok (.iload_n 3, 1) := by decide +kernel
theorem dX5_looks_204 : decode cX5_looks 204 = .ok (.invokevirtual 167, 3) := by decide +kernel
theorem dX5_looks_207 : decode cX5_looks 207 = .ok (.return_, 1) := by decide +kernel
theorem dX5_begins_0 : decode cX5_begins 0 = .ok (.aload_n 0, 1) := by decide +kernel
theorem dX5_begins_1 : decode cX5_begins 1 = .ok (.getfield 37, 3) := by decide +kernel
theorem dX5_begins_4 : decode cX5_begins 4 = .ok (.iload_n 2, 1) := by decide +kernel
theorem dX5_begins_5 : decode cX5_begins 5 = .ok (.iaload, 1) := by decide +kernel
theorem dX5_begins_6 : decode cX5_begins 6 = .ok (.istore_n 3, 1) := by decide +kernel
theorem dX5_begins_7 : decode cX5_begins 7 = .ok (.aload_n 0, 1) := by decide +kernel
theorem dX5_begins_8 : decode cX5_begins 8 = .ok (.getfield 34, 3) := by decide +kernel
theorem dX5_begins_11 : decode cX5_begins 11 = .ok (.iload_n 2, 1) := by decide +kernel
theorem dX5_begins_12 : decode cX5_begins 12 = .ok (.iaload, 1) := by decide +kernel
theorem dX5_begins_13 : decode cX5_begins 13 = .ok (.tableswitch 178 0 10 #[59, 178, 178, 178, 178, 178, 73, 178, 88, 112, 169], 59) := by decide +kernel
theorem dX5_begins_72 : decode cX5_begins 72 = .ok (.aload_n 0, 1) := by decide +kernel
theorem dX5_begins_73 : decode cX5_begins 73 = .ok (.iload_n 3, 1) := by decide +kernel
theorem dX5_begins_74 : decode cX5_begins 74 = .ok (.invokevirtual 157, 3) := by decide +kernel
theorem dX5_begins_77 : decode cX5_begins 77 = .ok (.aload_n 0, 1) := by decide +kernel
theorem dX5_begins_78 : decode cX5_begins 78 = .ok (.iload_n 1, 1) := by decide +kernel
theorem dX5_begins_79 : decode cX5_begins 79 = .ok (.iload_n 2, 1) := by decide +kernel
theorem dX5_begins_80 : decode cX5_begins 80 = .ok (.invokevirtual 170, 3) := by decide +kernel
theorem dX5_begins_83 : decode cX5_begins 83 = .ok (.goto 114, 3) := by decide +kernel
theorem dX5_begins_86 : decode cX5_begins 86 = .ok (.aload_n 0, 1) := by decide +kernel
theorem dX5_begins_87 : decode cX5_begins 87 = .ok (.iconst 3, 1) := by decide +kernel
theorem dX5_begins_88 : decode cX5_begins 88 = .ok (.iload_n 3, 1) := by decide +kernel
theorem dX5_begins_89 : decode cX5_begins 89 = .ok (.invokevirtual 141, 3) := by decide +kernel
theorem dX5_begins_92 : decode cX5_begins 92 = .ok (.aload_n 0, 1) := by decide +kernel
theorem dX5_begins_93 : decode cX5_begins 93 = .ok (.iload_n 1, 1) := by decide +kernel
theorem dX5_begins_94 : decode cX5_begins 94 = .ok (.iload_n 2, 1) := by decide +kernel
theorem dX5_begins_95 : decode cX5_begins 95 = .ok (.invokevirtual 170, 3) := by decide +kernel
theorem dX5_begins_98 : decode cX5_begins 98 = .ok (.goto 99, 3) := by decide +kernel
theorem dX5_begins_101 : decode cX5_begins 101 = .ok (.aload_n 0, 1) := by decide +kernel
theorem dX5_begins_102 : decode cX5_begins 102 = .ok (.aload_n 0, 1) := by decide +kernel
theorem dX5_begins_103 : decode cX5_begins 103 = .ok (.getfield 46, 3) := by decide +kernel
theorem dX5_begins_106 : decode cX5_begins 106 = .ok (.bipush 12, 2) := by decide +kernel
theorem dX5_begins_108 : decode cX5_begins 108 = .ok (.iload_n 1, 1) := by decide +kernel
theorem dX5_begins_109 : decode cX5_begins 109 = .ok (.imul, 1) := by decide +kernel
theorem dX5_begins_110 : decode cX5_begins 110 = .ok (.iload_n 3, 1) := by decide +kernel
theorem dX5_begins_111 : decode cX5_begins 111 = .ok (.iadd, 1) := by decide +kernel
theorem dX5_begins_112 : decode cX5_begins 112 = .ok (.iaload, 1) := by decide +kernel
theorem dX5_begins_113 : decode cX5_begins 113 = .ok (.invokevirtual 157, 3) := by decide +kernel
theorem dX5_begins_116 : decode cX5_begins 116 = .ok (.aload_n 0, 1) := by decide +kernel
theorem dX5_begins_117 : decode cX5_begins 117 = .ok (.iload_n 1, 1) := by decide +kernel
theorem dX5_begins_118 : decode cX5_begins 118 = .ok (.iload_n 2, 1) := by decide +kernel
theorem dX5_begins_119 : decode cX5_begins 119 = .ok (.invokevirtual 170, 3) := by decide +kernel
theorem dX5_begins_122 : decode cX5_begins 122 = .ok (.goto 75, 3) := by decide +kernel
theorem dX5_begins_125 : decode cX5_begins 125 = .ok (.iconst 0, 1) := by decide +kernel
theorem dX5_begins_126 : decode cX5_begins 126 = .ok (.istore 4, 2) := by decide +kernel
theorem dX5_begins_128 : decode cX5_begins 128 = .ok (.iconst 0, 1) := by decide +kernel
theorem dX5_begins_129 : decode cX5_begins 129 = .ok (.istore 5, 2) := by decide +kernel
theorem dX5_begins_131 : decode cX5_begins 131 = .ok (.iload 5, 2) := by decide +kernel
theorem dX5_begins_133 : decode cX5_begins 133 = .ok (.aload_n 0, 1) := by decide +kernel
theorem dX5_begins_134 : decode cX5_begins 134 = .ok (.getfield 106, 3) := by decide +kernel
theorem dX5_begins_137 : decode cX5_begins 137 = .ok (.if_icmp .ge 30, 3) := by decide +kernel
theorem dX5_begins_140 : decode cX5_begins 140 = .ok (.iload 4, 2) := by decide +kernel
theorem dX5_begins_142 : decode cX5_begins 142 = .ok (.aload_n 0, 1) := by decide +kernel
theorem dX5_begins_143 : decode cX5_begins 143 = .ok (.getfield 31, 3) := by decide +kernel
theorem dX5_begins_146 : decode cX5_begins 146 = .ok (.iload 5, 2) := by decide +kernel
theorem dX5_begins_148 : decode cX5_begins 148 = .ok (.iaload, 1) := by decide +kernel
theorem dX5_begins_149 : decode cX5_begins 149 = .ok (.iload_n 3, 1) := by decide +kernel
theorem dX5_begins_150 : decode cX5_begins 150 = .ok (.if_icmp .ne 7, 3) := by decide +kernel
theorem dX5_begins_153 : decode cX5_begins 153 = .ok (.iconst 1, 1) := by decide +kernel
theorem dX5_begins_154 : decode cX5_begins 154 = .ok (.goto 4, 3) := by decide +kernel
theorem dX5_begins_157 : decode cX5_begins 157 = .ok (.iconst 0, 1) := by decide +kernel
theorem dX5_begins_158 : decode cX5_begins 158 = .ok (.iadd, 1) := by decide +kernel
theorem dX5_begins_159 : decode cX5_begins 159 = .ok (.istore 4, 2) := by decide +kernel
theorem dX5_begins_161 : decode cX5_begins 161 = .ok (.iinc 5 1, 3) := by decide +kernel
theorem dX5_begins_164 : decode cX5_begins 164 = .ok (.goto (-33), 3) := by decide +kernel
theorem dX5_begins_167 : decode cX5_begins 167 = .ok (.aload_n 0, 1) := by decide +kernel
theorem dX5_begins_168 : decode cX5_begins 168 = .ok (.iload 4, 2) := by decide +kernel
theorem dX5_begins_170 : decode cX5_begins 170 = .ok (.invokevirtual 157, 3) := by decide +kernel
theorem dX5_begins_173 : decode cX5_begins 173 = .ok (.aload_n 0, 1) := by decide +kernel
theorem dX5_begins_174 : decode cX5_begins 174 = .ok (.iload_n 1, 1) := by decide +kernel
theorem dX5_begins_175 : decode cX5_begins 175 = .ok (.iload_n 2, 1) := by decide +kernel
theorem dX5_begins_176 : decode cX5_begins 176 = .ok (.invokevirtual 170, 3) := by decide +kernel
theorem dX5_begins_179 : decode cX5_begins 179 = .ok (.goto 18, 3) := by decide +kernel
theorem dX5_begins_182 : decode cX5_begins 182 = .ok (.aload_n 0, 1) := by decide +kernel
theorem dX5_begins_183 : decode cX5_begins 183 = .ok (.iconst 1, 1) := by decide +kernel
theorem dX5_begins_184 : decode cX5_begins 184 = .ok (.iload_n 3, 1) := by decide +kernel
theorem dX5_begins_185 : decode cX5_begins 185 = .ok (.invokevirtual 144, 3) := by decide +kernel
theorem dX5_begins_188 : decode cX5_begins 188 = .ok (.goto 9, 3) := by decide +kernel
theorem dX5_begins_191 : decode cX5_begins 191 = .ok (.aload_n 0, 1) := by decide +kernel
theorem dX5_begins_192 : decode cX5_begins 192 = .ok (.iconst 0, 1) := by decide +kernel
theorem dX5_begins_193 : decode cX5_begins 193 = .ok (.iload_n 3, 1) := by decide +kernel
theorem dX5_begins_194 : decode cX5_begins 194 = .ok (.invokevirtual 144, 3) := by decide +kernel
theorem dX5_begins_197 : decode cX5_begins 197 = .ok (.return_, 1) := by decide +kernel
theorem dX5_ends_0 : decode cX5_ends 0 = .ok (.bipush 40, 2) := by decide +kernel
theorem dX5_ends_2 : decode cX5_ends 2 = .ok (.iload_n 1, 1) := by decide +kernel
theorem dX5_ends_3 : decode cX5_ends 3 = .ok (.imul, 1) := by decide +kernel
theorem dX5_ends_4 : decode cX5_ends 4 = .ok (.iload_n 2, 1) := by decide +kernel
theorem dX5_ends_5 : decode cX5_ends 5 = .ok (.iadd, 1) := by decide +kernel
theorem dX5_ends_6 : decode cX5_ends 6 = .ok (.istore_n 3, 1) := by decide +kernel
theorem dX5_ends_7 : decode cX5_ends 7 = .ok (.aload_n 0, 1) := by decide +kernel
theorem dX5_ends_8 : decode cX5_ends 8 = .ok (.getfield 52, 3) := by decide +kernel
theorem dX5_ends_11 : decode cX5_ends 11 = .ok (.iload_n 3, 1) := by decide +kernel
theorem dX5_ends_12 : decode cX5_ends 12 = .ok (.aload_n 0, 1) := by decide +kernel
theorem dX5_ends_13 : decode cX5_ends 13 = .ok (.getfield 119, 3) := by decide +kernel
theorem dX5_ends_16 : decode cX5_ends 16 = .ok (.ifCond .le 7, 3) := by decide +kernel
theorem dX5_ends_19 : decode cX5_ends 19 = .ok (.iconst 3, 1) := by decide +kernel
theorem dX5_ends_20 : decode cX5_ends 20 = .ok (.goto 4, 3) := by decide +kernel
theorem dX5_ends_23 : decode cX5_ends 23 = .ok (.iconst 2, 1) := by decide +kernel
theorem dX5_ends_24 : decode cX5_ends 24 = .ok (.iastore, 1) := by decide +kernel
theorem dX5_ends_25 : decode cX5_ends 25 = .ok (.aload_n 0, 1) := by decide +kernel
theorem dX5_ends_26 : decode cX5_ends 26 = .ok (.getfield 55, 3) := by decide +kernel
theorem dX5_ends_29 : decode cX5_ends 29 = .ok (.iload_n 3, 1) := by decide +kernel
theorem dX5_ends_30 : decode cX5_ends 30 = .ok (.aload_n 0, 1) := by decide +kernel
theorem dX5_ends_31 : decode cX5_ends 31 = .ok (.getfield 119, 3) := by decide +kernel
theorem dX5_ends_34 : decode cX5_ends 34 = .ok (.ifCond .le 10, 3) := by decide +kernel
theorem dX5_ends_37 : decode cX5_ends 37 = .ok (.aload_n 0, 1) := by decide +kernel
theorem dX5_ends_38 : decode cX5_ends 38 = .ok (.getfield 119, 3) := by decide +kernel
theorem dX5_ends_41 : decode cX5_ends 41 = .ok (.goto 7, 3) := by decide +kernel
theorem dX5_ends_44 : decode cX5_ends 44 = .ok (.aload_n 0, 1) := by decide +kernel
theorem dX5_ends_45 : decode cX5_ends 45 = .ok (.getfield 131, 3) := by decide +kernel
theorem dX5_ends_48 : decode cX5_ends 48 = .ok (.iastore, 1) := by decide +kernel
theorem dX5_ends_49 : decode cX5_ends 49 = .ok (.aload_n 0, 1) := by decide +kernel
theorem dX5_ends_50 : decode cX5_ends 50 = .ok (.getfield 58, 3) := by decide +kernel
theorem dX5_ends_53 : decode cX5_ends 53 = .ok (.iload_n 3, 1) := by decide +kernel
theorem dX5_ends_54 : decode cX5_ends 54 = .ok (.aload_n 0, 1) := by decide +kernel
theorem dX5_ends_55 : decode cX5_ends 55 = .ok (.getfield 122, 3) := by decide +kernel
theorem dX5_ends_58 : decode cX5_ends 58 = .ok (.iastore, 1) := by decide +kernel
theorem dX5_ends_59 : decode cX5_ends 59 = .ok (.aload_n 0, 1) := by decide +kernel
theorem dX5_ends_60 : decode cX5_ends 60 = .ok (.getfield 61, 3) := by decide +kernel
theorem dX5_ends_63 : decode cX5_ends 63 = .ok (.iload_n 3, 1) := by decide +kernel
theorem dX5_ends_64 : decode cX5_ends 64 = .ok (.aload_n 0, 1) := by decide +kernel
theorem dX5_ends_65 : decode cX5_ends 65 = .ok (.getfield 125, 3) := by decide +kernel
theorem dX5_ends_68 : decode cX5_ends 68 = .ok (.iastore, 1) := by decide +kernel
theorem dX5_ends_69 : decode cX5_ends 69 = .ok (.aload_n 0, 1) := by decide +kernel
theorem dX5_ends_70 : decode cX5_ends 70 = .ok (.getfield 64, 3) := by decide +kernel
theorem dX5_ends_73 : decode cX5_ends 73 = .ok (.iload_n 3, 1) := by decide +kernel
theorem dX5_ends_74 : decode cX5_ends 74 = .ok (.aload_n 0, 1) := by decide +kernel
theorem dX5_ends_75 : decode cX5_ends 75 = .ok (.getfield 128, 3) := by decide +kernel
theorem dX5_ends_78 : decode cX5_ends 78 = .ok (.iastore, 1) := by decide +kernel
theorem dX5_ends_79 : decode cX5_ends 79 = .ok (.aload_n 0, 1) := by decide +kernel
theorem dX5_ends_80 : decode cX5_ends 80 = .ok (.aload_n 0, 1) := by decide +kernel
theorem dX5_ends_81 : decode cX5_ends 81 = .ok (.getfield 119, 3) := by decide +kernel
theorem dX5_ends_84 : decode cX5_ends 84 = .ok (.ifCond .le 7, 3) := by decide +kernel
theorem dX5_ends_87 : decode cX5_ends 87 = .ok (.iconst 5, 1) := by decide +kernel
theorem dX5_ends_88 : decode cX5_ends 88 = .ok (.goto 4, 3) := by decide +kernel
theorem dX5_ends_91 : decode cX5_ends 91 = .ok (.iconst 4, 1) := by decide +kernel
theorem dX5_ends_92 : decode cX5_ends 92 = .ok (.iload_n 2, 1) := by decide +kernel
theorem dX5_ends_93 : decode cX5_ends 93 = .ok (.invokevirtual 161, 3) := by decide +kernel
theorem dX5_ends_96 : decode cX5_ends 96 = .ok (.aload_n 0, 1) := by decide +kernel
theorem dX5_ends_97 : decode cX5_ends 97 = .ok (.dup, 1) := by decide +kernel
theorem dX5_ends_98 : decode cX5_ends 98 = .ok (.getfield 109, 3) := by decide +kernel
theorem dX5_ends_101 : decode cX5_ends 101 = .ok (.iconst 1, 1) := by decide +kernel
theorem dX5_ends_102 : decode cX5_ends 102 = .ok (.isub, 1) := by decide +kernel
theorem dX5_ends_103 : decode cX5_ends 103 = .ok (.putfield 109, 3) := by decide +kernel
theorem dX5_ends_106 : decode cX5_ends 106 = .ok (.return_, 1) := by decide +kernel
theorem dX5_first_0 : decode cX5_first 0 = .ok (.aload_n 0, 1) := by decide +kernel
theorem dX5_first_1 : decode cX5_first 1 = .ok (.getfield 34, 3) := by decide +kernel
theorem dX5_first_4 : decode cX5_first 4 = .ok (.iload_n 3, 1) := by decide +kernel
theorem dX5_first_5 : decode cX5_first 5 = .ok (.iaload, 1) := by decide +kernel
theorem dX5_first_6 : decode cX5_first 6 = .ok (.istore 4, 2) := by decide +kernel
theorem dX5_first_8 : decode cX5_first 8 = .ok (.aload_n 0, 1) := by decide +kernel
theorem dX5_first_9 : decode cX5_first 9 = .ok (.getfield 119, 3) := by decide +kernel
theorem dX5_first_12 : decode cX5_first 12 = .ok (.ifCond .le 26, 3) := by decide +kernel
theorem dX5_first_15 : decode cX5_first 15 = .ok (.iload 4, 2) := by decide +kernel
theorem dX5_first_17 : decode cX5_first 17 = .ok (.iconst 5, 1) := by decide +kernel
theorem dX5_first_18 : decode cX5_first 18 = .ok (.if_icmp .ne 13, 3) := by decide +kernel
theorem dX5_first_21 : decode cX5_first 21 = .ok (.aload_n 0, 1) := by decide +kernel
theorem dX5_first_22 : decode cX5_first 22 = .ok (.aload_n 0, 1) := by decide +kernel
theorem dX5_first_23 : decode cX5_first 23 = .ok (.getfield 40, 3) := by decide +kernel
theorem dX5_first_26 : decode cX5_first 26 = .ok (.iload_n 3, 1) := by decide +kernel
theorem dX5_first_27 : decode cX5_first 27 = .ok (.iaload, 1) := by decide +kernel
theorem dX5_first_28 : decode cX5_first 28 = .ok (.invokevirtual 157, 3) := by decide +kernel
theorem dX5_first_31 : decode cX5_first 31 = .ok (.aload_n 0, 1) := by decide +kernel
theorem dX5_first_32 : decode cX5_first 32 = .ok (.iload_n 1, 1) := by decide +kernel
theorem dX5_first_33 : decode cX5_first 33 = .ok (.iload_n 3, 1) := by decide +kernel
theorem dX5_first_34 : decode cX5_first 34 = .ok (.invokevirtual 170, 3) := by decide +kernel
theorem dX5_first_37 : decode cX5_first 37 = .ok (.return_, 1) := by decide +kernel
theorem dX5_first_38 : decode cX5_first 38 = .ok (.bipush 96, 2) := by decide +kernel
theorem dX5_first_40 : decode cX5_first 40 = .ok (.iload_n 1, 1) := by decide +kernel
theorem dX5_first_41 : decode cX5_first 41 = .ok (.imul, 1) := by decide +kernel
theorem dX5_first_42 : decode cX5_first 42 = .ok (.bipush 8, 2) := by decide +kernel
theorem dX5_first_44 : decode cX5_first 44 = .ok (.aload_n 0, 1) := by decide +kernel
theorem dX5_first_45 : decode cX5_first 45 = .ok (.getfield 31, 3) := by decide +kernel
theorem dX5_first_48 : decode cX5_first 48 = .ok (.iload_n 3, 1) := by decide +kernel
theorem dX5_first_49 : decode cX5_first 49 = .ok (.iaload, 1) := by decide +kernel
theorem dX5_first_50 : decode cX5_first 50 = .ok (.imul, 1) := by decide +kernel
theorem dX5_first_51 : decode cX5_first 51 = .ok (.iadd, 1) := by decide +kernel
theorem dX5_first_52 : decode cX5_first 52 = .ok (.istore 5, 2) := by decide +kernel
theorem dX5_first_54 : decode cX5_first 54 = .ok (.iload 4, 2) := by decide +kernel
theorem dX5_first_56 : decode cX5_first 56 = .ok (.tableswitch 290 1 11 #[60, 84, 84, 115, 290, 290, 173, 290, 290, 214, 228], 60) := by decide +kernel
theorem dX5_first_116 : decode cX5_first 116 = .ok (.aload_n 0, 1) := by decide +kernel
theorem dX5_first_117 : decode cX5_first 117 = .ok (.aload_n 0, 1) := by decide +kernel
theorem dX5_first_118 : decode cX5_first 118 = .ok (.getfield 131, 3) := by decide +kernel
theorem dX5_first_121 : decode cX5_first 121 = .ok (.aload_n 0, 1) := by decide +kernel
theorem dX5_first_122 : decode cX5_first 122 = .ok (.getfield 40, 3) := by decide +kernel
theorem dX5_first_125 : decode cX5_first 125 = .ok (.iload_n 3, 1) := by decide +kernel
theorem dX5_first_126 : decode cX5_first 126 = .ok (.iaload, 1) := by decide +kernel
theorem dX5_first_127 : decode cX5_first 127 = .ok (.iadd, 1) := by decide +kernel
theorem dX5_first_128 : decode cX5_first 128 = .ok (.invokevirtual 157, 3) := by decide +kernel
theorem dX5_first_131 : decode cX5_first 131 = .ok (.aload_n 0, 1) := by decide +kernel
theorem dX5_first_132 : decode cX5_first 132 = .ok (.iload_n 1, 1) := by decide +kernel
theorem dX5_first_133 : decode cX5_first 133 = .ok (.iload_n 3, 1) := by decide +kernel
theorem dX5_first_134 : decode cX5_first 134 = .ok (.invokevirtual 170, 3) := by decide +kernel
theorem dX5_first_137 : decode cX5_first 137 = .ok (.goto 215, 3) := by decide +kernel
theorem dX5_first_140 : decode cX5_first 140 = .ok (.aload_n 0, 1) := by decide +kernel
theorem dX5_first_141 : decode cX5_first 141 = .ok (.getfield 82, 3) := by decide +kernel
theorem dX5_first_144 : decode cX5_first 144 = .ok (.iload_n 2, 1) := by decide +kernel
theorem dX5_first_145 : decode cX5_first 145 = .ok (.aload_n 0, 1) := by decide +kernel
theorem dX5_first_146 : decode cX5_first 146 = .ok (.getfield 131, 3) := by decide +kernel
theorem dX5_first_149 : decode cX5_first 149 = .ok (.iastore, 1) := by decide +kernel
theorem dX5_first_150 : decode cX5_first 150 = .ok (.aload_n 0, 1) := by decide +kernel
theorem dX5_first_151 : decode cX5_first 151 = .ok (.getfield 79, 3) := by decide +kernel
theorem dX5_first_154 : decode cX5_first 154 = .ok (.iload_n 2, 1) := by decide +kernel
theorem dX5_first_155 : decode cX5_first 155 = .ok (.iconst 3, 1) := by decide +kernel
theorem dX5_first_156 : decode cX5_first 156 = .ok (.iastore, 1) := by decide +kernel
theorem dX5_first_157 : decode cX5_first 157 = .ok (.aload_n 0, 1) := by decide +kernel
theorem dX5_first_158 : decode cX5_first 158 = .ok (.iconst 0, 1) := by decide +kernel
theorem dX5_first_159 : decode cX5_first 159 = .ok (.aload_n 0, 1) := by decide +kernel
theorem dX5_first_160 : decode cX5_first 160 = .ok (.getfield 40, 3) := by decide +kernel
theorem dX5_first_163 : decode cX5_first 163 = .ok (.iload_n 3, 1) := by decide +kernel
theorem dX5_first_164 : decode cX5_first 164 = .ok (.iaload, 1) := by decide +kernel
theorem dX5_first_165 : decode cX5_first 165 = .ok (.invokevirtual 144, 3) := by decide +kernel
theorem dX5_first_168 : decode cX5_first 168 = .ok (.goto 184, 3) := by decide +kernel
theorem dX5_first_171 : decode cX5_first 171 = .ok (.aload_n 0, 1) := by decide +kernel
theorem dX5_first_172 : decode cX5_first 172 = .ok (.getfield 131, 3) := by decide +kernel
theorem dX5_first_175 : decode cX5_first 175 = .ok (.iconst 0, 1) := by decide +kernel
theorem dX5_first_176 : decode cX5_first 176 = .ok (.aload_n 0, 1) := by decide +kernel
theorem dX5_first_177 : decode cX5_first 177 = .ok (.getfield 7, 3) := by decide +kernel
theorem dX5_first_180 : decode cX5_first 180 = .ok (.aload_n 0, 1) := by decide +kernel
theorem dX5_first_181 : decode cX5_first 181 = .ok (.getfield 31, 3) := by decide +kernel
theorem dX5_first_184 : decode cX5_first 184 = .ok (.iload_n 3, 1) := by decide +kernel
theorem dX5_first_185 : decode cX5_first 185 = .ok (.iaload, 1) := by decide +kernel
theorem dX5_first_186 : decode cX5_first 186 = .ok (.iaload, 1) := by decide +kernel
theorem dX5_first_187 : decode cX5_first 187 = .ok (.iconst 1, 1) := by decide +kernel
theorem dX5_first_188 : decode cX5_first 188 = .ok (.isub, 1) := by decide +kernel
theorem dX5_first_189 : decode cX5_first 189 = .ok (.invokestatic 98, 3) := by decide +kernel
theorem dX5_first_192 : decode cX5_first 192 = .ok (.ifCond .eq 22, 3) := by decide +kernel
theorem dX5_first_195 : decode cX5_first 195 = .ok (.aload_n 0, 1) := by decide +kernel
theorem dX5_first_196 : decode cX5_first 196 = .ok (.aload_n 0, 1) := by decide +kernel
theorem dX5_first_197 : decode cX5_first 197 = .ok (.getfield 49, 3) := by decide +kernel
theorem dX5_first_200 : decode cX5_first 200 = .ok (.iload 5, 2) := by decide +kernel
theorem dX5_first_202 : decode cX5_first 202 = .ok (.aload_n 0, 1) := by decide +kernel
theorem dX5_first_203 : decode cX5_first 203 = .ok (.getfield 131, 3) := by decide +kernel
theorem dX5_first_206 : decode cX5_first 206 = .ok (.iadd, 1) := by decide +kernel
theorem dX5_first_207 : decode cX5_first 207 = .ok (.iaload, 1) := by decide +kernel
theorem dX5_first_208 : decode cX5_first 208 = .ok (.invokevirtual 157, 3) := by decide +kernel
theorem dX5_first_211 : decode cX5_first 211 = .ok (.goto 9, 3) := by decide +kernel
theorem dX5_first_214 : decode cX5_first 214 = .ok (.aload_n 0, 1) := by decide +kernel
theorem dX5_first_215 : decode cX5_first 215 = .ok (.iconst 2, 1) := by decide +kernel
theorem dX5_first_216 : decode cX5_first 216 = .ok (.iconst 0, 1) := by decide +kernel
theorem dX5_first_217 : decode cX5_first 217 = .ok (.invokevirtual 141, 3) := by decide +kernel
theorem dX5_first_220 : decode cX5_first 220 = .ok (.aload_n 0, 1) := by decide +kernel
theorem dX5_first_221 : decode cX5_first 221 = .ok (.iload_n 1, 1) := by decide +kernel
theorem dX5_first_222 : decode cX5_first 222 = .ok (.iload_n 3, 1) := by decide +kernel
theorem dX5_first_223 : decode cX5_first 223 = .ok (.invokevirtual 170, 3) := by decide +kernel
theorem dX5_first_226 : decode cX5_first 226 = .ok (.goto 126, 3) := by decide +kernel
theorem dX5_first_229 : decode cX5_first 229 = .ok (.aload_n 0, 1) := by decide +kernel
theorem dX5_first_230 : decode cX5_first 230 = .ok (.getfield 131, 3) := by decide +kernel
theorem dX5_first_233 : decode cX5_first 233 = .ok (.ifCond .eq 12, 3) := by decide +kernel
theorem dX5_first_236 : decode cX5_first 236 = .ok (.aload_n 0, 1) := by decide +kernel
theorem dX5_first_237 : decode cX5_first 237 = .ok (.getfield 40, 3) := by decide +kernel
theorem dX5_first_240 : decode cX5_first 240 = .ok (.iload_n 3, 1) := by decide +kernel
theorem dX5_first_241 : decode cX5_first 241 = .ok (.iaload, 1) := by decide +kernel
theorem dX5_first_242 : decode cX5_first 242 = .ok (.goto 9, 3) := by decide +kernel
theorem dX5_first_245 : decode cX5_first 245 = .ok (.aload_n 0, 1) := by decide +kernel
theorem dX5_first_246 : decode cX5_first 246 = .ok (.getfield 43, 3) := by decide +kernel
theorem dX5_first_249 : decode cX5_first 249 = .ok (.iload_n 3, 1) := by decide +kernel
theorem dX5_first_250 : decode cX5_first 250 = .ok (.iaload, 1) := by decide +kernel
theorem dX5_first_251 : decode cX5_first 251 = .ok (.istore 6, 2) := by decide +kernel
theorem dX5_first_253 : decode cX5_first 253 = .ok (.aload_n 0, 1) := by decide +kernel
theorem dX5_first_254 : decode cX5_first 254 = .ok (.getfield 79, 3) := by decide +kernel
theorem dX5_first_257 : decode cX5_first 257 = .ok (.iload_n 2, 1) := by decide +kernel
theorem dX5_first_258 : decode cX5_first 258 = .ok (.iconst 3, 1) := by decide +kernel
theorem dX5_first_259 : decode cX5_first 259 = .ok (.iastore, 1) := by decide +kernel
theorem dX5_first_260 : decode cX5_first 260 = .ok (.aload_n 0, 1) := by decide +kernel
theorem dX5_first_261 : decode cX5_first 261 = .ok (.iconst 0, 1) := by decide +kernel
theorem dX5_first_262 : decode cX5_first 262 = .ok (.iload 6, 2) := by decide +kernel
theorem dX5_first_264 : decode cX5_first 264 = .ok (.invokevirtual 144, 3) := by decide +kernel
theorem dX5_first_267 : decode cX5_first 267 = .ok (.goto 85, 3) := by decide +kernel
theorem dX5_first_270 : decode cX5_first 270 = .ok (.aload_n 0, 1) := by decide +kernel
theorem dX5_first_271 : decode cX5_first 271 = .ok (.iconst 1, 1) := by decide +kernel
theorem dX5_first_272 : decode cX5_first 272 = .ok (.invokevirtual 157, 3) := by decide +kernel
theorem dX5_first_275 : decode cX5_first 275 = .ok (.aload_n 0, 1) := by decide +kernel
theorem dX5_first_276 : decode cX5_first 276 = .ok (.iload_n 1, 1) := by decide +kernel
theorem dX5_first_277 : decode cX5_first 277 = .ok (.iload_n 3, 1) := by decide +kernel
theorem dX5_first_278 : decode cX5_first 278 = .ok (.invokevirtual 170, 3) := by decide +kernel
theorem dX5_first_281 : decode cX5_first 281 = .ok (.goto 71, 3) := by decide +kernel
theorem dX5_first_284 : decode cX5_first 284 = .ok (.aload_n 0, 1) := by decide +kernel
theorem dX5_first_285 : decode cX5_first 285 = .ok (.getfield 40, 3) := by decide +kernel
theorem dX5_first_288 : decode cX5_first 288 = .ok (.iload_n 3, 1) := by decide +kernel
theorem dX5_first_289 : decode cX5_first 289 = .ok (.iaload, 1) := by decide +kernel
theorem dX5_first_290 : decode cX5_first 290 = .ok (.iconst 0, 1) := by decide +kernel
theorem dX5_first_291 : decode cX5_first 291 = .ok (.aload_n 0, 1) := by decide +kernel
theorem dX5_first_292 : decode cX5_first 292 = .ok (.getfield 7, 3) := by decide +kernel
theorem dX5_first_295 : decode cX5_first 295 = .ok (.aload_n 0, 1) := by decide +kernel
theorem dX5_first_296 : decode cX5_first 296 = .ok (.getfield 31, 3) := by decide +kernel
theorem dX5_first_299 : decode cX5_first 299 = .ok (.iload_n 3, 1) := by decide +kernel
theorem dX5_first_300 : decode cX5_first 300 = .ok (.iaload, 1) := by decide +kernel
theorem dX5_first_301 : decode cX5_first 301 = .ok (.iaload, 1) := by decide +kernel
theorem dX5_first_302 : decode cX5_first 302 = .ok (.iconst 1, 1) := by decide +kernel
theorem dX5_first_303 : decode cX5_first 303 = .ok (.isub, 1) := by decide +kernel
theorem dX5_first_304 : decode cX5_first 304 = .ok (.invokestatic 98, 3) := by decide +kernel
theorem dX5_first_307 : decode cX5_first 307 = .ok (.ifCond .eq 24, 3) := by decide +kernel
theorem dX5_first_310 : decode cX5_first 310 = .ok (.aload_n 0, 1) := by decide +kernel
theorem dX5_first_311 : decode cX5_first 311 = .ok (.getfield 49, 3) := by decide +kernel
theorem dX5_first_314 : decode cX5_first 314 = .ok (.iload 5, 2) := by decide +kernel
theorem dX5_first_316 : decode cX5_first 316 = .ok (.aload_n 0, 1) := by decide +kernel
theorem dX5_first_317 : decode cX5_first 317 = .ok (.getfield 40, 3) := by decide +kernel
theorem dX5_first_320 : decode cX5_first 320 = .ok (.iload_n 3, 1) := by decide +kernel
theorem dX5_first_321 : decode cX5_first 321 = .ok (.iaload, 1) := by decide +kernel
theorem dX5_first_322 : decode cX5_first 322 = .ok (.iadd, 1) := by decide +kernel
theorem dX5_first_323 : decode cX5_first 323 = .ok (.aload_n 0, 1) := by decide +kernel
theorem dX5_first_324 : decode cX5_first 324 = .ok (.getfield 131, 3) := by decide +kernel
theorem dX5_first_327 : decode cX5_first 327 = .ok (.iastore, 1) := by decide +kernel
theorem dX5_first_328 : decode cX5_first 328 = .ok (.goto 9, 3) := by decide +kernel
theorem dX5_first_331 : decode cX5_first 331 = .ok (.aload_n 0, 1) := by decide +kernel
theorem dX5_first_332 : decode cX5_first 332 = .ok (.iconst 2, 1) := by decide +kernel
theorem dX5_first_333 : decode cX5_first 333 = .ok (.iconst 0, 1) := by decide +kernel
theorem dX5_first_334 : decode cX5_first 334 = .ok (.invokevirtual 141, 3) := by decide +kernel
theorem dX5_first_337 : decode cX5_first 337 = .ok (.aload_n 0, 1) := by decide +kernel
theorem dX5_first_338 : decode cX5_first 338 = .ok (.iload_n 1, 1) := by decide +kernel
theorem dX5_first_339 : decode cX5_first 339 = .ok (.iload_n 3, 1) := by decide +kernel
theorem dX5_first_340 : decode cX5_first 340 = .ok (.invokevirtual 170, 3) := by decide +kernel
theorem dX5_first_343 : decode cX5_first 343 = .ok (.goto 9, 3) := by decide +kernel
theorem dX5_first_346 : decode cX5_first 346 = .ok (.aload_n 0, 1) := by decide +kernel
theorem dX5_first_347 : decode cX5_first 347 = .ok (.iload_n 1, 1) := by decide +kernel
theorem dX5_first_348 : decode cX5_first 348 = .ok (.iload_n 3, 1) := by decide +kernel
theorem dX5_first_349 : decode cX5_first 349 = .ok (.invokevirtual 170, 3) := by decide +kernel
theorem dX5_first_352 : decode cX5_first 352 = .ok (.return_, 1) := by decide +kernel
theorem dX5_second_0 : decode cX5_second 0 = .ok (.aload_n 0, 1) := by decide +kernel
theorem dX5_second_1 : decode cX5_second 1 = .ok (.getfield 119, 3) := by decide +kernel
theorem dX5_second_4 : decode cX5_second 4 = .ok (.ifCond .ne 31, 3) := by decide +kernel
theorem dX5_second_7 : decode cX5_second 7 = .ok (.aload_n 0, 1) := by decide +kernel
theorem dX5_second_8 : decode cX5_second 8 = .ok (.getfield 34, 3) := by decide +kernel
theorem dX5_second_11 : decode cX5_second 11 = .ok (.iload_n 3, 1) := by decide +kernel
theorem dX5_second_12 : decode cX5_second 12 = .ok (.iaload, 1) := by decide +kernel
theorem dX5_second_13 : decode cX5_second 13 = .ok (.iconst 2, 1) := by decide +kernel
theorem dX5_second_14 : decode cX5_second 14 = .ok (.if_icmp .ne 21, 3) := by decide +kernel
theorem dX5_second_17 : decode cX5_second 17 = .ok (.aload_n 0, 1) := by decide +kernel
theorem dX5_second_18 : decode cX5_second 18 = .ok (.aload_n 0, 1) := by decide +kernel
theorem dX5_second_19 : decode cX5_second 19 = .ok (.getfield 82, 3) := by decide +kernel
theorem dX5_second_22 : decode cX5_second 22 = .ok (.iload_n 2, 1) := by decide +kernel
theorem dX5_second_23 : decode cX5_second 23 = .ok (.iaload, 1) := by decide +kernel
theorem dX5_second_24 : decode cX5_second 24 = .ok (.aload_n 0, 1) := by decide +kernel
theorem dX5_second_25 : decode cX5_second 25 = .ok (.getfield 131, 3) := by decide +kernel
theorem dX5_second_28 : decode cX5_second 28 = .ok (.imul, 1) := by decide +kernel
theorem dX5_second_29 : decode cX5_second 29 = .ok (.invokevirtual 157, 3) := by decide +kernel
theorem dX5_second_32 : decode cX5_second 32 = .ok (.goto 51, 3) := by decide +kernel
theorem dX5_second_35 : decode cX5_second 35 = .ok (.aload_n 0, 1) := by decide +kernel
theorem dX5_second_36 : decode cX5_second 36 = .ok (.getfield 119, 3) := by decide +kernel
theorem dX5_second_39 : decode cX5_second 39 = .ok (.ifCond .ne 44, 3) := by decide +kernel
theorem dX5_second_42 : decode cX5_second 42 = .ok (.aload_n 0, 1) := by decide +kernel
theorem dX5_second_43 : decode cX5_second 43 = .ok (.getfield 34, 3) := by decide +kernel
theorem dX5_second_46 : decode cX5_second 46 = .ok (.iload_n 3, 1) := by decide +kernel
theorem dX5_second_47 : decode cX5_second 47 = .ok (.iaload, 1) := by decide +kernel
theorem dX5_second_48 : decode cX5_second 48 = .ok (.iconst 3, 1) := by decide +kernel
theorem dX5_second_49 : decode cX5_second 49 = .ok (.if_icmp .ne 34, 3) := by decide +kernel
theorem dX5_second_52 : decode cX5_second 52 = .ok (.aload_n 0, 1) := by decide +kernel
theorem dX5_second_53 : decode cX5_second 53 = .ok (.getfield 131, 3) := by decide +kernel
theorem dX5_second_56 : decode cX5_second 56 = .ok (.ifCond .ne 12, 3) := by decide +kernel
theorem dX5_second_59 : decode cX5_second 59 = .ok (.aload_n 0, 1) := by decide +kernel
theorem dX5_second_60 : decode cX5_second 60 = .ok (.iconst 1, 1) := by decide +kernel
theorem dX5_second_61 : decode cX5_second 61 = .ok (.iconst 0, 1) := by decide +kernel
theorem dX5_second_62 : decode cX5_second 62 = .ok (.invokevirtual 141, 3) := by decide +kernel
theorem dX5_second_65 : decode cX5_second 65 = .ok (.goto 18, 3) := by decide +kernel
theorem dX5_second_68 : decode cX5_second 68 = .ok (.aload_n 0, 1) := by decide +kernel
theorem dX5_second_69 : decode cX5_second 69 = .ok (.aload_n 0, 1) := by decide +kernel
theorem dX5_second_70 : decode cX5_second 70 = .ok (.getfield 82, 3) := by decide +kernel
theorem dX5_second_73 : decode cX5_second 73 = .ok (.iload_n 2, 1) := by decide +kernel
theorem dX5_second_74 : decode cX5_second 74 = .ok (.iaload, 1) := by decide +kernel
theorem dX5_second_75 : decode cX5_second 75 = .ok (.aload_n 0, 1) := by decide +kernel
theorem dX5_second_76 : decode cX5_second 76 = .ok (.getfield 131, 3) := by decide +kernel
theorem dX5_second_79 : decode cX5_second 79 = .ok (.idiv, 1) := by decide +kernel
theorem dX5_second_80 : decode cX5_second 80 = .ok (.invokevirtual 157, 3) := by decide +kernel
theorem dX5_second_83 : decode cX5_second 83 = .ok (.aload_n 0, 1) := by decide +kernel
theorem dX5_second_84 : decode cX5_second 84 = .ok (.iload_n 1, 1) := by decide +kernel
theorem dX5_second_85 : decode cX5_second 85 = .ok (.iload_n 3, 1) := by decide +kernel
theorem dX5_second_86 : decode cX5_second 86 = .ok (.invokevirtual 170, 3) := by decide +kernel
theorem dX5_second_89 : decode cX5_second 89 = .ok (.return_, 1) := by decide +kernel
theorem dX5_starts_0 : decode cX5_starts 0 = .ok (.aload_n 0, 1) := by decide +kernel
theorem dX5_starts_1 : decode cX5_starts 1 = .ok (.getfield 76, 3) := by decide +kernel
theorem dX5_starts_4 : decode cX5_starts 4 = .ok (.iload_n 2, 1) := by decide +kernel
theorem dX5_starts_5 : decode cX5_starts 5 = .ok (.iaload, 1) := by decide +kernel
theorem dX5_starts_6 : decode cX5_starts 6 = .ok (.istore_n 3, 1) := by decide +kernel
theorem dX5_starts_7 : decode cX5_starts 7 = .ok (.bipush 12, 2) := by decide +kernel
theorem dX5_starts_9 : decode cX5_starts 9 = .ok (.iload_n 1, 1) := by decide +kernel
theorem dX5_starts_10 : decode cX5_starts 10 = .ok (.imul, 1) := by decide +kernel
theorem dX5_starts_11 : decode cX5_starts 11 = .ok (.iload_n 3, 1) := by decide +kernel
theorem dX5_starts_12 : decode cX5_starts 12 = .ok (.iadd, 1) := by decide +kernel
theorem dX5_starts_13 : decode cX5_starts 13 = .ok (.istore 4, 2) := by decide +kernel
theorem dX5_starts_15 : decode cX5_starts 15 = .ok (.aload_n 0, 1) := by decide +kernel
theorem dX5_starts_16 : decode cX5_starts 16 = .ok (.getfield 79, 3) := by decide +kernel
theorem dX5_starts_19 : decode cX5_starts 19 = .ok (.iload_n 2, 1) := by decide +kernel
theorem dX5_starts_20 : decode cX5_starts 20 = .ok (.iaload, 1) := by decide +kernel
theorem dX5_starts_21 : decode cX5_starts 21 = .ok (.ifCond .ne 131, 3) := by decide +kernel
theorem dX5_starts_24 : decode cX5_starts 24 = .ok (.aload_n 0, 1) := by decide +kernel
theorem dX5_starts_25 : decode cX5_starts 25 = .ok (.getfield 46, 3) := by decide +kernel
theorem dX5_starts_28 : decode cX5_starts 28 = .ok (.iload 4, 2) := by decide +kernel
theorem dX5_starts_30 : decode cX5_starts 30 = .ok (.iaload, 1) := by decide +kernel
theorem dX5_starts_31 : decode cX5_starts 31 = .ok (.iconst 3, 1) := by decide +kernel
theorem dX5_starts_32 : decode cX5_starts 32 = .ok (.if_icmp .ne 23, 3) := by decide +kernel
theorem dX5_starts_35 : decode cX5_starts 35 = .ok (.aload_n 0, 1) := by decide +kernel
theorem dX5_starts_36 : decode cX5_starts 36 = .ok (.bipush 6, 2) := by decide +kernel
theorem dX5_starts_38 : decode cX5_starts 38 = .ok (.iload_n 3, 1) := by decide +kernel
theorem dX5_starts_39 : decode cX5_starts 39 = .ok (.invokevirtual 141, 3) := by decide +kernel
theorem dX5_starts_42 : decode cX5_starts 42 = .ok (.aload_n 0, 1) := by decide +kernel
theorem dX5_starts_43 : decode cX5_starts 43 = .ok (.dup, 1) := by decide +kernel
theorem dX5_starts_44 : decode cX5_starts 44 = .ok (.getfield 109, 3) := by decide +kernel
theorem dX5_starts_47 : decode cX5_starts 47 = .ok (.iconst 1, 1) := by decide +kernel
theorem dX5_starts_48 : decode cX5_starts 48 = .ok (.isub, 1) := by decide +kernel
theorem dX5_starts_49 : decode cX5_starts 49 = .ok (.putfield 109, 3) := by decide +kernel
theorem dX5_starts_52 : decode cX5_starts 52 = .ok (.goto 232, 3) := by decide +kernel
theorem dX5_starts_55 : decode cX5_starts 55 = .ok (.aload_n 0, 1) := by decide +kernel
theorem dX5_starts_56 : decode cX5_starts 56 = .ok (.getfield 46, 3) := by decide +kernel
theorem dX5_starts_59 : decode cX5_starts 59 = .ok (.iload 4, 2) := by decide +kernel
theorem dX5_starts_61 : decode cX5_starts 61 = .ok (.iaload, 1) := by decide +kernel
theorem dX5_starts_62 : decode cX5_starts 62 = .ok (.ifCond .eq 21, 3) := by decide +kernel
theorem dX5_starts_65 : decode cX5_starts 65 = .ok (.aload_n 0, 1) := by decide +kernel
theorem dX5_starts_66 : decode cX5_starts 66 = .ok (.iconst 0, 1) := by decide +kernel
theorem dX5_starts_67 : decode cX5_starts 67 = .ok (.invokevirtual 157, 3) := by decide +kernel
theorem dX5_starts_70 : decode cX5_starts 70 = .ok (.aload_n 0, 1) := by decide +kernel
theorem dX5_starts_71 : decode cX5_starts 71 = .ok (.dup, 1) := by decide +kernel
theorem dX5_starts_72 : decode cX5_starts 72 = .ok (.getfield 109, 3) := by decide +kernel
theorem dX5_starts_75 : decode cX5_starts 75 = .ok (.iconst 1, 1) := by decide +kernel
theorem dX5_starts_76 : decode cX5_starts 76 = .ok (.isub, 1) := by decide +kernel
theorem dX5_starts_77 : decode cX5_starts 77 = .ok (.putfield 109, 3) := by decide +kernel
theorem dX5_starts_80 : decode cX5_starts 80 = .ok (.goto 204, 3) := by decide +kernel
theorem dX5_starts_83 : decode cX5_starts 83 = .ok (.aload_n 0, 1) := by decide +kernel
theorem dX5_starts_84 : decode cX5_starts 84 = .ok (.getfield 46, 3) := by decide +kernel
theorem dX5_starts_87 : decode cX5_starts 87 = .ok (.iload 4, 2) := by decide +kernel
theorem dX5_starts_89 : decode cX5_starts 89 = .ok (.iconst 2, 1) := by decide +kernel
theorem dX5_starts_90 : decode cX5_starts 90 = .ok (.iastore, 1) := by decide +kernel
theorem dX5_starts_91 : decode cX5_starts 91 = .ok (.iconst 0, 1) := by decide +kernel
theorem dX5_starts_92 : decode cX5_starts 92 = .ok (.istore 5, 2) := by decide +kernel
theorem dX5_starts_94 : decode cX5_starts 94 = .ok (.iload 5, 2) := by decide +kernel
theorem dX5_starts_96 : decode cX5_starts 96 = .ok (.bipush 8, 2) := by decide +kernel
theorem dX5_starts_98 : decode cX5_starts 98 = .ok (.if_icmp .ge 38, 3) := by decide +kernel
theorem dX5_starts_101 : decode cX5_starts 101 = .ok (.aload_n 0, 1) := by decide +kernel
theorem dX5_starts_102 : decode cX5_starts 102 = .ok (.getfield 49, 3) := by decide +kernel
theorem dX5_starts_105 : decode cX5_starts 105 = .ok (.bipush 96, 2) := by decide +kernel
theorem dX5_starts_107 : decode cX5_starts 107 = .ok (.iload_n 1, 1) := by decide +kernel
theorem dX5_starts_108 : decode cX5_starts 108 = .ok (.imul, 1) := by decide +kernel
theorem dX5_starts_109 : decode cX5_starts 109 = .ok (.bipush 8, 2) := by decide +kernel
theorem dX5_starts_111 : decode cX5_starts 111 = .ok (.iload_n 3, 1) := by decide +kernel
theorem dX5_starts_112 : decode cX5_starts 112 = .ok (.imul, 1) := by decide +kernel
theorem dX5_starts_113 : decode cX5_starts 113 = .ok (.iadd, 1) := by decide +kernel
theorem dX5_starts_114 : decode cX5_starts 114 = .ok (.iload 5, 2) := by decide +kernel
theorem dX5_starts_116 : decode cX5_starts 116 = .ok (.iadd, 1) := by decide +kernel
theorem dX5_starts_117 : decode cX5_starts 117 = .ok (.aload_n 0, 1) := by decide +kernel
theorem dX5_starts_118 : decode cX5_starts 118 = .ok (.getfield 13, 3) := by decide +kernel
theorem dX5_starts_121 : decode cX5_starts 121 = .ok (.bipush 8, 2) := by decide +kernel
theorem dX5_starts_123 : decode cX5_starts 123 = .ok (.iload_n 3, 1) := by decide +kernel
theorem dX5_starts_124 : decode cX5_starts 124 = .ok (.imul, 1) := by decide +kernel
theorem dX5_starts_125 : decode cX5_starts 125 = .ok (.iload 5, 2) := by decide +kernel
theorem dX5_starts_127 : decode cX5_starts 127 = .ok (.iadd, 1) := by decide +kernel
theorem dX5_starts_128 : decode cX5_starts 128 = .ok (.iaload, 1) := by decide +kernel
theorem dX5_starts_129 : decode cX5_starts 129 = .ok (.iastore, 1) := by decide +kernel
theorem dX5_starts_130 : decode cX5_starts 130 = .ok (.iinc 5 1, 3) := by decide +kernel
theorem dX5_starts_133 : decode cX5_starts 133 = .ok (.goto (-39), 3) := by decide +kernel
theorem dX5_starts_136 : decode cX5_starts 136 = .ok (.aload_n 0, 1) := by decide +kernel
theorem dX5_starts_137 : decode cX5_starts 137 = .ok (.iconst 0, 1) := by decide +kernel
theorem dX5_starts_138 : decode cX5_starts 138 = .ok (.iload_n 3, 1) := by decide +kernel
theorem dX5_starts_139 : decode cX5_starts 139 = .ok (.invokevirtual 161, 3) := by decide +kernel
theorem dX5_starts_142 : decode cX5_starts 142 = .ok (.aload_n 0, 1) := by decide +kernel
theorem dX5_starts_143 : decode cX5_starts 143 = .ok (.getfield 79, 3) := by decide +kernel
theorem dX5_starts_146 : decode cX5_starts 146 = .ok (.iload_n 2, 1) := by decide +kernel
theorem dX5_starts_147 : decode cX5_starts 147 = .ok (.iconst 1, 1) := by decide +kernel
theorem dX5_starts_148 : decode cX5_starts 148 = .ok (.iastore, 1) := by decide +kernel
theorem dX5_starts_149 : decode cX5_starts 149 = .ok (.goto 135, 3) := by decide +kernel
theorem dX5_starts_152 : decode cX5_starts 152 = .ok (.aload_n 0, 1) := by decide +kernel
theorem dX5_starts_153 : decode cX5_starts 153 = .ok (.getfield 79, 3) := by decide +kernel
theorem dX5_starts_156 : decode cX5_starts 156 = .ok (.iload_n 2, 1) := by decide +kernel
theorem dX5_starts_157 : decode cX5_starts 157 = .ok (.iaload, 1) := by decide +kernel
theorem dX5_starts_158 : decode cX5_starts 158 = .ok (.iconst 2, 1) := by decide +kernel
theorem dX5_starts_159 : decode cX5_starts 159 = .ok (.irem, 1) := by decide +kernel
theorem dX5_starts_160 : decode cX5_starts 160 = .ok (.ifCond .ne 43, 3) := by decide +kernel
theorem dX5_starts_163 : decode cX5_starts 163 = .ok (.aload_n 0, 1) := by decide +kernel
theorem dX5_starts_164 : decode cX5_starts 164 = .ok (.getfield 119, 3) := by decide +kernel
theorem dX5_starts_167 : decode cX5_starts 167 = .ok (.ifCond .le 13, 3) := by decide +kernel
theorem dX5_starts_170 : decode cX5_starts 170 = .ok (.aload_n 0, 1) := by decide +kernel
theorem dX5_starts_171 : decode cX5_starts 171 = .ok (.iload 4, 2) := by decide +kernel
theorem dX5_starts_173 : decode cX5_starts 173 = .ok (.iload_n 3, 1) := by decide +kernel
theorem dX5_starts_174 : decode cX5_starts 174 = .ok (.invokevirtual 173, 3) := by decide +kernel
theorem dX5_starts_177 : decode cX5_starts 177 = .ok (.goto 107, 3) := by decide +kernel
theorem dX5_starts_180 : decode cX5_starts 180 = .ok (.aload_n 0, 1) := by decide +kernel
theorem dX5_starts_181 : decode cX5_starts 181 = .ok (.getfield 82, 3) := by decide +kernel
theorem dX5_starts_184 : decode cX5_starts 184 = .ok (.iload_n 2, 1) := by decide +kernel
theorem dX5_starts_185 : decode cX5_starts 185 = .ok (.dup2, 1) := by decide +kernel
theorem dX5_starts_186 : decode cX5_starts 186 = .ok (.iaload, 1) := by decide +kernel
theorem dX5_starts_187 : decode cX5_starts 187 = .ok (.iconst 1, 1) := by decide +kernel
theorem dX5_starts_188 : decode cX5_starts 188 = .ok (.iadd, 1) := by decide +kernel
theorem dX5_starts_189 : decode cX5_starts 189 = .ok (.iastore, 1) := by decide +kernel
theorem dX5_starts_190 : decode cX5_starts 190 = .ok (.aload_n 0, 1) := by decide +kernel
theorem dX5_starts_191 : decode cX5_starts 191 = .ok (.getfield 79, 3) := by decide +kernel
theorem dX5_starts_194 : decode cX5_starts 194 = .ok (.iload_n 2, 1) := by decide +kernel
theorem dX5_starts_195 : decode cX5_starts 195 = .ok (.dup2, 1) := by decide +kernel
theorem dX5_starts_196 : decode cX5_starts 196 = .ok (.iaload, 1) := by decide +kernel
theorem dX5_starts_197 : decode cX5_starts 197 = .ok (.iconst 1, 1) := by decide +kernel
theorem dX5_starts_198 : decode cX5_starts 198 = .ok (.isub, 1) := by decide +kernel
theorem dX5_starts_199 : decode cX5_starts 199 = .ok (.iastore, 1) := by decide +kernel
theorem dX5_starts_200 : decode cX5_starts 200 = .ok (.goto 84, 3) := by decide +kernel
theorem dX5_starts_203 : decode cX5_starts 203 = .ok (.aload_n 0, 1) := by decide +kernel
theorem dX5_starts_204 : decode cX5_starts 204 = .ok (.getfield 79, 3) := by decide +kernel
theorem dX5_starts_207 : decode cX5_starts 207 = .ok (.iload_n 2, 1) := by decide +kernel
theorem dX5_starts_208 : decode cX5_starts 208 = .ok (.iaload, 1) := by decide +kernel
theorem dX5_starts_209 : decode cX5_starts 209 = .ok (.iconst 1, 1) := by decide +kernel
theorem dX5_starts_210 : decode cX5_starts 210 = .ok (.if_icmp .ne 66, 3) := by decide +kernel
theorem dX5_starts_213 : decode cX5_starts 213 = .ok (.aload_n 0, 1) := by decide +kernel
theorem dX5_starts_214 : decode cX5_starts 214 = .ok (.getfield 82, 3) := by decide +kernel
theorem dX5_starts_217 : decode cX5_starts 217 = .ok (.iload_n 2, 1) := by decide +kernel
theorem dX5_starts_218 : decode cX5_starts 218 = .ok (.iaload, 1) := by decide +kernel
theorem dX5_starts_219 : decode cX5_starts 219 = .ok (.aload_n 0, 1) := by decide +kernel
theorem dX5_starts_220 : decode cX5_starts 220 = .ok (.getfield 16, 3) := by decide +kernel
theorem dX5_starts_223 : decode cX5_starts 223 = .ok (.iload_n 3, 1) := by decide +kernel
theorem dX5_starts_224 : decode cX5_starts 224 = .ok (.iaload, 1) := by decide +kernel
theorem dX5_starts_225 : decode cX5_starts 225 = .ok (.if_icmp .ge 34, 3) := by decide +kernel
theorem dX5_starts_228 : decode cX5_starts 228 = .ok (.aload_n 0, 1) := by decide +kernel
theorem dX5_starts_229 : decode cX5_starts 229 = .ok (.getfield 79, 3) := by decide +kernel
theorem dX5_starts_232 : decode cX5_starts 232 = .ok (.iload_n 2, 1) := by decide +kernel
theorem dX5_starts_233 : decode cX5_starts 233 = .ok (.iconst 2, 1) := by decide +kernel
theorem dX5_starts_234 : decode cX5_starts 234 = .ok (.iastore, 1) := by decide +kernel
theorem dX5_starts_235 : decode cX5_starts 235 = .ok (.aload_n 0, 1) := by decide +kernel
theorem dX5_starts_236 : decode cX5_starts 236 = .ok (.iconst 1, 1) := by decide +kernel
theorem dX5_starts_237 : decode cX5_starts 237 = .ok (.aload_n 0, 1) := by decide +kernel
theorem dX5_starts_238 : decode cX5_starts 238 = .ok (.getfield 19, 3) := by decide +kernel
theorem dX5_starts_241 : decode cX5_starts 241 = .ok (.bipush 6, 2) := by decide +kernel
theorem dX5_starts_243 : decode cX5_starts 243 = .ok (.iload_n 3, 1) := by decide +kernel
theorem dX5_starts_244 : decode cX5_starts 244 = .ok (.imul, 1) := by decide +kernel
theorem dX5_starts_245 : decode cX5_starts 245 = .ok (.aload_n 0, 1) := by decide +kernel
theorem dX5_starts_246 : decode cX5_starts 246 = .ok (.getfield 82, 3) := by decide +kernel
theorem dX5_starts_249 : decode cX5_starts 249 = .ok (.iload_n 2, 1) := by decide +kernel
theorem dX5_starts_250 : decode cX5_starts 250 = .ok (.iaload, 1) := by decide +kernel
theorem dX5_starts_251 : decode cX5_starts 251 = .ok (.iadd, 1) := by decide +kernel
theorem dX5_starts_252 : decode cX5_starts 252 = .ok (.iaload, 1) := by decide +kernel
theorem dX5_starts_253 : decode cX5_starts 253 = .ok (.invokevirtual 144, 3) := by decide +kernel
theorem dX5_starts_256 : decode cX5_starts 256 = .ok (.goto 28, 3) := by decide +kernel
theorem dX5_starts_259 : decode cX5_starts 259 = .ok (.aload_n 0, 1) := by decide +kernel
theorem dX5_starts_260 : decode cX5_starts 260 = .ok (.getfield 82, 3) := by decide +kernel
theorem dX5_starts_263 : decode cX5_starts 263 = .ok (.iload_n 2, 1) := by decide +kernel
theorem dX5_starts_264 : decode cX5_starts 264 = .ok (.iconst 0, 1) := by decide +kernel
theorem dX5_starts_265 : decode cX5_starts 265 = .ok (.iastore, 1) := by decide +kernel
theorem dX5_starts_266 : decode cX5_starts 266 = .ok (.aload_n 0, 1) := by decide +kernel
theorem dX5_starts_267 : decode cX5_starts 267 = .ok (.getfield 79, 3) := by decide +kernel
theorem dX5_starts_270 : decode cX5_starts 270 = .ok (.iload_n 2, 1) := by decide +kernel
theorem dX5_starts_271 : decode cX5_starts 271 = .ok (.iconst 3, 1) := by decide +kernel
theorem dX5_starts_272 : decode cX5_starts 272 = .ok (.iastore, 1) := by decide +kernel
theorem dX5_starts_273 : decode cX5_starts 273 = .ok (.goto 11, 3) := by decide +kernel
theorem dX5_starts_276 : decode cX5_starts 276 = .ok (.aload_n 0, 1) := by decide +kernel
theorem dX5_starts_277 : decode cX5_starts 277 = .ok (.iload_n 2, 1) := by decide +kernel
theorem dX5_starts_278 : decode cX5_starts 278 = .ok (.iload_n 3, 1) := by decide +kernel
theorem dX5_starts_279 : decode cX5_starts 279 = .ok (.iload 4, 2) := by decide +kernel
theorem dX5_starts_281 : decode cX5_starts 281 = .ok (.invokevirtual 176, 3) := by decide +kernel
theorem dX5_starts_284 : decode cX5_starts 284 = .ok (.return_, 1) := by decide +kernel
theorem dX5_deeds_0 : decode cX5_deeds 0 = .ok (.bipush 6, 2) := by decide +kernel
theorem dX5_deeds_2 : decode cX5_deeds 2 = .ok (.iload_n 2, 1) := by decide +kernel
theorem dX5_deeds_3 : decode cX5_deeds 3 = .ok (.imul, 1) := by decide +kernel
theorem dX5_deeds_4 : decode cX5_deeds 4 = .ok (.aload_n 0, 1) := by decide +kernel
theorem dX5_deeds_5 : decode cX5_deeds 5 = .ok (.getfield 82, 3) := by decide +kernel
theorem dX5_deeds_8 : decode cX5_deeds 8 = .ok (.iload_n 1, 1) := by decide +kernel
theorem dX5_deeds_9 : decode cX5_deeds 9 = .ok (.iaload, 1) := by decide +kernel
theorem dX5_deeds_10 : decode cX5_deeds 10 = .ok (.iadd, 1) := by decide +kernel
theorem dX5_deeds_11 : decode cX5_deeds 11 = .ok (.istore 4, 2) := by decide +kernel
theorem dX5_deeds_13 : decode cX5_deeds 13 = .ok (.aload_n 0, 1) := by decide +kernel
theorem dX5_deeds_14 : decode cX5_deeds 14 = .ok (.getfield 82, 3) := by decide +kernel
theorem dX5_deeds_17 : decode cX5_deeds 17 = .ok (.iload_n 1, 1) := by decide +kernel
theorem dX5_deeds_18 : decode cX5_deeds 18 = .ok (.iaload, 1) := by decide +kernel
theorem dX5_deeds_19 : decode cX5_deeds 19 = .ok (.aload_n 0, 1) := by decide +kernel
theorem dX5_deeds_20 : decode cX5_deeds 20 = .ok (.getfield 22, 3) := by decide +kernel
theorem dX5_deeds_23 : decode cX5_deeds 23 = .ok (.iload_n 2, 1) := by decide +kernel
theorem dX5_deeds_24 : decode cX5_deeds 24 = .ok (.iaload, 1) := by decide +kernel
theorem dX5_deeds_25 : decode cX5_deeds 25 = .ok (.if_icmp .ne 34, 3) := by decide +kernel
theorem dX5_deeds_28 : decode cX5_deeds 28 = .ok (.aload_n 0, 1) := by decide +kernel
theorem dX5_deeds_29 : decode cX5_deeds 29 = .ok (.getfield 46, 3) := by decide +kernel
theorem dX5_deeds_32 : decode cX5_deeds 32 = .ok (.iload_n 3, 1) := by decide +kernel
theorem dX5_deeds_33 : decode cX5_deeds 33 = .ok (.iconst 1, 1) := by decide +kernel
theorem dX5_deeds_34 : decode cX5_deeds 34 = .ok (.iastore, 1) := by decide +kernel
theorem dX5_deeds_35 : decode cX5_deeds 35 = .ok (.aload_n 0, 1) := by decide +kernel
theorem dX5_deeds_36 : decode cX5_deeds 36 = .ok (.iconst 1, 1) := by decide +kernel
theorem dX5_deeds_37 : decode cX5_deeds 37 = .ok (.iload_n 2, 1) := by decide +kernel
theorem dX5_deeds_38 : decode cX5_deeds 38 = .ok (.invokevirtual 161, 3) := by decide +kernel
theorem dX5_deeds_41 : decode cX5_deeds 41 = .ok (.aload_n 0, 1) := by decide +kernel
theorem dX5_deeds_42 : decode cX5_deeds 42 = .ok (.iconst 0, 1) := by decide +kernel
theorem dX5_deeds_43 : decode cX5_deeds 43 = .ok (.invokevirtual 157, 3) := by decide +kernel
theorem dX5_deeds_46 : decode cX5_deeds 46 = .ok (.aload_n 0, 1) := by decide +kernel
theorem dX5_deeds_47 : decode cX5_deeds 47 = .ok (.dup, 1) := by decide +kernel
theorem dX5_deeds_48 : decode cX5_deeds 48 = .ok (.getfield 109, 3) := by decide +kernel
theorem dX5_deeds_51 : decode cX5_deeds 51 = .ok (.iconst 1, 1) := by decide +kernel
theorem dX5_deeds_52 : decode cX5_deeds 52 = .ok (.isub, 1) := by decide +kernel
theorem dX5_deeds_53 : decode cX5_deeds 53 = .ok (.putfield 109, 3) := by decide +kernel
theorem dX5_deeds_56 : decode cX5_deeds 56 = .ok (.goto 61, 3) := by decide +kernel
theorem dX5_deeds_59 : decode cX5_deeds 59 = .ok (.aload_n 0, 1) := by decide +kernel
theorem dX5_deeds_60 : decode cX5_deeds 60 = .ok (.getfield 25, 3) := by decide +kernel
theorem dX5_deeds_63 : decode cX5_deeds 63 = .ok (.iload 4, 2) := by decide +kernel
theorem dX5_deeds_65 : decode cX5_deeds 65 = .ok (.iaload, 1) := by decide +kernel
theorem dX5_deeds_66 : decode cX5_deeds 66 = .ok (.iconst 2, 1) := by decide +kernel
theorem dX5_deeds_67 : decode cX5_deeds 67 = .ok (.if_icmp .ne 25, 3) := by decide +kernel
theorem dX5_deeds_70 : decode cX5_deeds 70 = .ok (.aload_n 0, 1) := by decide +kernel
theorem dX5_deeds_71 : decode cX5_deeds 71 = .ok (.bipush 7, 2) := by decide +kernel
theorem dX5_deeds_73 : decode cX5_deeds 73 = .ok (.aload_n 0, 1) := by decide +kernel
theorem dX5_deeds_74 : decode cX5_deeds 74 = .ok (.getfield 28, 3) := by decide +kernel
theorem dX5_deeds_77 : decode cX5_deeds 77 = .ok (.iload 4, 2) := by decide +kernel
theorem dX5_deeds_79 : decode cX5_deeds 79 = .ok (.iaload, 1) := by decide +kernel
theorem dX5_deeds_80 : decode cX5_deeds 80 = .ok (.invokevirtual 141, 3) := by decide +kernel
theorem dX5_deeds_83 : decode cX5_deeds 83 = .ok (.aload_n 0, 1) := by decide +kernel
theorem dX5_deeds_84 : decode cX5_deeds 84 = .ok (.iload_n 3, 1) := by decide +kernel
theorem dX5_deeds_85 : decode cX5_deeds 85 = .ok (.iload_n 2, 1) := by decide +kernel
theorem dX5_deeds_86 : decode cX5_deeds 86 = .ok (.invokevirtual 173, 3) := by decide +kernel
theorem dX5_deeds_89 : decode cX5_deeds 89 = .ok (.goto 28, 3) := by decide +kernel
theorem dX5_deeds_92 : decode cX5_deeds 92 = .ok (.aload_n 0, 1) := by decide +kernel
theorem dX5_deeds_93 : decode cX5_deeds 93 = .ok (.getfield 79, 3) := by decide +kernel
theorem dX5_deeds_96 : decode cX5_deeds 96 = .ok (.iload_n 1, 1) := by decide +kernel
theorem dX5_deeds_97 : decode cX5_deeds 97 = .ok (.iconst 4, 1) := by decide +kernel
theorem dX5_deeds_98 : decode cX5_deeds 98 = .ok (.iastore, 1) := by decide +kernel
theorem dX5_deeds_99 : decode cX5_deeds 99 = .ok (.aload_n 0, 1) := by decide +kernel
theorem dX5_deeds_100 : decode cX5_deeds 100 = .ok (.aload_n 0, 1) := by decide +kernel
theorem dX5_deeds_101 : decode cX5_deeds 101 = .ok (.getfield 25, 3) := by decide +kernel
theorem dX5_deeds_104 : decode cX5_deeds 104 = .ok (.iload 4, 2) := by decide +kernel
theorem dX5_deeds_106 : decode cX5_deeds 106 = .ok (.iaload, 1) := by decide +kernel
theorem dX5_deeds_107 : decode cX5_deeds 107 = .ok (.aload_n 0, 1) := by decide +kernel
theorem dX5_deeds_108 : decode cX5_deeds 108 = .ok (.getfield 28, 3) := by decide +kernel
theorem dX5_deeds_111 : decode cX5_deeds 111 = .ok (.iload 4, 2) := by decide +kernel
theorem dX5_deeds_113 : decode cX5_deeds 113 = .ok (.iaload, 1) := by decide +kernel
theorem dX5_deeds_114 : decode cX5_deeds 114 = .ok (.invokevirtual 144, 3) := by decide +kernel
theorem dX5_deeds_117 : decode cX5_deeds 117 = .ok (.return_, 1) := by decide +kernel
theorem dX5_breaks_0 : decode cX5_breaks 0 = .ok (.aload_n 0, 1) := by decide +kernel
theorem dX5_breaks_1 : decode cX5_breaks 1 = .ok (.getfield 46, 3) := by decide +kernel
theorem dX5_breaks_4 : decode cX5_breaks 4 = .ok (.iload_n 1, 1) := by decide +kernel
theorem dX5_breaks_5 : decode cX5_breaks 5 = .ok (.iconst 3, 1) := by decide +kernel
theorem dX5_breaks_6 : decode cX5_breaks 6 = .ok (.iastore, 1) := by decide +kernel
theorem dX5_breaks_7 : decode cX5_breaks 7 = .ok (.aload_n 0, 1) := by decide +kernel
theorem dX5_breaks_8 : decode cX5_breaks 8 = .ok (.iconst 2, 1) := by decide +kernel
theorem dX5_breaks_9 : decode cX5_breaks 9 = .ok (.iload_n 2, 1) := by decide +kernel
theorem dX5_breaks_10 : decode cX5_breaks 10 = .ok (.invokevirtual 161, 3) := by decide +kernel
theorem dX5_breaks_13 : decode cX5_breaks 13 = .ok (.aload_n 0, 1) := by decide +kernel
theorem dX5_breaks_14 : decode cX5_breaks 14 = .ok (.iconst 5, 1) := by decide +kernel
theorem dX5_breaks_15 : decode cX5_breaks 15 = .ok (.putfield 119, 3) := by decide +kernel
theorem dX5_breaks_18 : decode cX5_breaks 18 = .ok (.aload_n 0, 1) := by decide +kernel
theorem dX5_breaks_19 : decode cX5_breaks 19 = .ok (.iload_n 2, 1) := by decide +kernel
theorem dX5_breaks_20 : decode cX5_breaks 20 = .ok (.putfield 122, 3) := by decide +kernel
theorem dX5_breaks_23 : decode cX5_breaks 23 = .ok (.aload_n 0, 1) := by decide +kernel
theorem dX5_breaks_24 : decode cX5_breaks 24 = .ok (.dup, 1) := by decide +kernel
theorem dX5_breaks_25 : decode cX5_breaks 25 = .ok (.getfield 109, 3) := by decide +kernel
theorem dX5_breaks_28 : decode cX5_breaks 28 = .ok (.iconst 1, 1) := by decide +kernel
theorem dX5_breaks_29 : decode cX5_breaks 29 = .ok (.isub, 1) := by decide +kernel
theorem dX5_breaks_30 : decode cX5_breaks 30 = .ok (.putfield 109, 3) := by decide +kernel
theorem dX5_breaks_33 : decode cX5_breaks 33 = .ok (.return_, 1) := by decide +kernel
theorem dX5_answers_0 : decode cX5_answers 0 = .ok (.aload_n 0, 1) := by decide +kernel
theorem dX5_answers_1 : decode cX5_answers 1 = .ok (.getfield 70, 3) := by decide +kernel
theorem dX5_answers_4 : decode cX5_answers 4 = .ok (.iconst 0, 1) := by decide +kernel
theorem dX5_answers_5 : decode cX5_answers 5 = .ok (.aload_n 0, 1) := by decide +kernel
theorem dX5_answers_6 : decode cX5_answers 6 = .ok (.getfield 119, 3) := by decide +kernel
theorem dX5_answers_9 : decode cX5_answers 9 = .ok (.iastore, 1) := by decide +kernel
theorem dX5_answers_10 : decode cX5_answers 10 = .ok (.aload_n 0, 1) := by decide +kernel
theorem dX5_answers_11 : decode cX5_answers 11 = .ok (.getfield 70, 3) := by decide +kernel
theorem dX5_answers_14 : decode cX5_answers 14 = .ok (.iconst 1, 1) := by decide +kernel
theorem dX5_answers_15 : decode cX5_answers 15 = .ok (.aload_n 0, 1) := by decide +kernel
theorem dX5_answers_16 : decode cX5_answers 16 = .ok (.getfield 119, 3) := by decide +kernel
theorem dX5_answers_19 : decode cX5_answers 19 = .ok (.ifCond .le 10, 3) := by decide +kernel
theorem dX5_answers_22 : decode cX5_answers 22 = .ok (.aload_n 0, 1) := by decide +kernel
theorem dX5_answers_23 : decode cX5_answers 23 = .ok (.getfield 122, 3) := by decide +kernel
theorem dX5_answers_26 : decode cX5_answers 26 = .ok (.goto 4, 3) := by decide +kernel
theorem dX5_answers_29 : decode cX5_answers 29 = .ok (.iconst 0, 1) := by decide +kernel
theorem dX5_answers_30 : decode cX5_answers 30 = .ok (.iastore, 1) := by decide +kernel
theorem dX5_answers_31 : decode cX5_answers 31 = .ok (.aload_n 0, 1) := by decide +kernel
theorem dX5_answers_32 : decode cX5_answers 32 = .ok (.getfield 70, 3) := by decide +kernel
theorem dX5_answers_35 : decode cX5_answers 35 = .ok (.iconst 2, 1) := by decide +kernel
theorem dX5_answers_36 : decode cX5_answers 36 = .ok (.aload_n 0, 1) := by decide +kernel
theorem dX5_answers_37 : decode cX5_answers 37 = .ok (.getfield 119, 3) := by decide +kernel
theorem dX5_answers_40 : decode cX5_answers 40 = .ok (.ifCond .le 10, 3) := by decide +kernel
theorem dX5_answers_43 : decode cX5_answers 43 = .ok (.aload_n 0, 1) := by decide +kernel
theorem dX5_answers_44 : decode cX5_answers 44 = .ok (.getfield 125, 3) := by decide +kernel
theorem dX5_answers_47 : decode cX5_answers 47 = .ok (.goto 4, 3) := by decide +kernel
theorem dX5_answers_50 : decode cX5_answers 50 = .ok (.iconst 0, 1) := by decide +kernel
theorem dX5_answers_51 : decode cX5_answers 51 = .ok (.iastore, 1) := by decide +kernel
theorem dX5_answers_52 : decode cX5_answers 52 = .ok (.aload_n 0, 1) := by decide +kernel
theorem dX5_answers_53 : decode cX5_answers 53 = .ok (.getfield 70, 3) := by decide +kernel
theorem dX5_answers_56 : decode cX5_answers 56 = .ok (.iconst 3, 1) := by decide +kernel
theorem dX5_answers_57 : decode cX5_answers 57 = .ok (.aload_n 0, 1) := by decide +kernel
theorem dX5_answers_58 : decode cX5_answers 58 = .ok (.getfield 119, 3) := by decide +kernel
theorem dX5_answers_61 : decode cX5_answers 61 = .ok (.ifCond .le 10, 3) := by decide +kernel
theorem dX5_answers_64 : decode cX5_answers 64 = .ok (.aload_n 0, 1) := by decide +kernel
theorem dX5_answers_65 : decode cX5_answers 65 = .ok (.getfield 128, 3) := by decide +kernel
theorem dX5_answers_68 : decode cX5_answers 68 = .ok (.goto 4, 3) := by decide +kernel
theorem dX5_answers_71 : decode cX5_answers 71 = .ok (.iconst 0, 1) := by decide +kernel
theorem dX5_answers_72 : decode cX5_answers 72 = .ok (.iastore, 1) := by decide +kernel
theorem dX5_answers_73 : decode cX5_answers 73 = .ok (.aload_n 0, 1) := by decide +kernel
theorem dX5_answers_74 : decode cX5_answers 74 = .ok (.getfield 119, 3) := by decide +kernel
theorem dX5_answers_77 : decode cX5_answers 77 = .ok (.ifCond .le 13, 3) := by decide +kernel
theorem dX5_answers_80 : decode cX5_answers 80 = .ok (.bipush (-10), 2) := by decide +kernel
theorem dX5_answers_82 : decode cX5_answers 82 = .ok (.aload_n 0, 1) := by decide +kernel
theorem dX5_answers_83 : decode cX5_answers 83 = .ok (.getfield 119, 3) := by decide +kernel
theorem dX5_answers_86 : decode cX5_answers 86 = .ok (.isub, 1) := by decide +kernel
theorem dX5_answers_87 : decode cX5_answers 87 = .ok (.goto 4, 3) := by decide +kernel
theorem dX5_answers_90 : decode cX5_answers 90 = .ok (.iconst 1, 1) := by decide +kernel
theorem dX5_answers_91 : decode cX5_answers 91 = .ok (.ireturn, 1) := by decide +kernel
theorem dX5_need_0 : decode cX5_need 0 = .ok (.iload_n 1, 1) := by decide +kernel
theorem dX5_need_1 : decode cX5_need 1 = .ok (.invokestatic 179, 3) := by decide +kernel
theorem dX5_need_4 : decode cX5_need 4 = .ok (.ifCond .eq 17, 3) := by decide +kernel
theorem dX5_need_7 : decode cX5_need 7 = .ok (.iload_n 2, 1) := by decide +kernel
theorem dX5_need_8 : decode cX5_need 8 = .ok (.iconst 0, 1) := by decide +kernel
theorem dX5_need_9 : decode cX5_need 9 = .ok (.aload_n 0, 1) := by decide +kernel
theorem dX5_need_10 : decode cX5_need 10 = .ok (.getfield 106, 3) := by decide +kernel
theorem dX5_need_13 : decode cX5_need 13 = .ok (.iconst 1, 1) := by decide +kernel
theorem dX5_need_14 : decode cX5_need 14 = .ok (.isub, 1) := by decide +kernel
theorem dX5_need_15 : decode cX5_need 15 = .ok (.invokestatic 98, 3) := by decide +kernel
theorem dX5_need_18 : decode cX5_need 18 = .ok (.ifCond .ne 5, 3) := by decide +kernel
theorem dX5_need_21 : decode cX5_need 21 = .ok (.iconst (-1), 1) := by decide +kernel
theorem dX5_need_22 : decode cX5_need 22 = .ok (.ireturn, 1) := by decide +kernel
theorem dX5_need_23 : decode cX5_need 23 = .ok (.aload_n 0, 1) := by decide +kernel
theorem dX5_need_24 : decode cX5_need 24 = .ok (.iconst 0, 1) := by decide +kernel
theorem dX5_need_25 : decode cX5_need 25 = .ok (.putfield 116, 3) := by decide +kernel
theorem dX5_need_28 : decode cX5_need 28 = .ok (.aload_n 0, 1) := by decide +kernel
theorem dX5_need_29 : decode cX5_need 29 = .ok (.iconst 1, 1) := by decide +kernel
theorem dX5_need_30 : decode cX5_need 30 = .ok (.putfield 112, 3) := by decide +kernel
theorem dX5_need_33 : decode cX5_need 33 = .ok (.aload_n 0, 1) := by decide +kernel
theorem dX5_need_34 : decode cX5_need 34 = .ok (.iconst 0, 1) := by decide +kernel
theorem dX5_need_35 : decode cX5_need 35 = .ok (.iload_n 2, 1) := by decide +kernel
theorem dX5_need_36 : decode cX5_need 36 = .ok (.invokevirtual 144, 3) := by decide +kernel
theorem dX5_need_39 : decode cX5_need 39 = .ok (.aload_n 0, 1) := by decide +kernel
theorem dX5_need_40 : decode cX5_need 40 = .ok (.iload_n 1, 1) := by decide +kernel
theorem dX5_need_41 : decode cX5_need 41 = .ok (.invokevirtual 182, 3) := by decide +kernel
theorem dX5_need_44 : decode cX5_need 44 = .ok (.aload_n 0, 1) := by decide +kernel
theorem dX5_need_45 : decode cX5_need 45 = .ok (.aload_n 0, 1) := by decide +kernel
theorem dX5_need_46 : decode cX5_need 46 = .ok (.getfield 119, 3) := by decide +kernel
theorem dX5_need_49 : decode cX5_need 49 = .ok (.ifCond .le 10, 3) := by decide +kernel
theorem dX5_need_52 : decode cX5_need 52 = .ok (.aload_n 0, 1) := by decide +kernel
theorem dX5_need_53 : decode cX5_need 53 = .ok (.getfield 185, 3) := by decide +kernel
theorem dX5_need_56 : decode cX5_need 56 = .ok (.goto 7, 3) := by decide +kernel
theorem dX5_need_59 : decode cX5_need 59 = .ok (.aload_n 0, 1) := by decide +kernel
theorem dX5_need_60 : decode cX5_need 60 = .ok (.getfield 131, 3) := by decide +kernel
theorem dX5_need_63 : decode cX5_need 63 = .ok (.putfield 185, 3) := by decide +kernel
theorem dX5_need_66 : decode cX5_need 66 = .ok (.aload_n 0, 1) := by decide +kernel
theorem dX5_need_67 : decode cX5_need 67 = .ok (.invokevirtual 188, 3) := by decide +kernel
theorem dX5_need_70 : decode cX5_need 70 = .ok (.ireturn, 1) := by decide +kernel
theorem dX5_value_0 : decode cX5_value 0 = .ok (.aload_n 0, 1) := by decide +kernel
theorem dX5_value_1 : decode cX5_value 1 = .ok (.getfield 185, 3) := by decide +kernel
theorem dX5_value_4 : decode cX5_value 4 = .ok (.ireturn, 1) := by decide +kernel
theorem dX5_start_0 : decode cX5_start 0 = .ok (.iload_n 1, 1) := by decide +kernel
theorem dX5_start_1 : decode cX5_start 1 = .ok (.invokestatic 179, 3) := by decide +kernel
theorem dX5_start_4 : decode cX5_start 4 = .ok (.ifCond .eq 11, 3) := by decide +kernel
theorem dX5_start_7 : decode cX5_start 7 = .ok (.aload_n 0, 1) := by decide +kernel
theorem dX5_start_8 : decode cX5_start 8 = .ok (.iload_n 2, 1) := by decide +kernel
theorem dX5_start_9 : decode cX5_start 9 = .ok (.invokevirtual 102, 3) := by decide +kernel
theorem dX5_start_12 : decode cX5_start 12 = .ok (.ifCond .ne 5, 3) := by decide +kernel
theorem dX5_start_15 : decode cX5_start 15 = .ok (.iconst (-1), 1) := by decide +kernel
theorem dX5_start_16 : decode cX5_start 16 = .ok (.ireturn, 1) := by decide +kernel
theorem dX5_start_17 : decode cX5_start 17 = .ok (.aload_n 0, 1) := by decide +kernel
theorem dX5_start_18 : decode cX5_start 18 = .ok (.iconst 0, 1) := by decide +kernel
theorem dX5_start_19 : decode cX5_start 19 = .ok (.putfield 116, 3) := by decide +kernel
theorem dX5_start_22 : decode cX5_start 22 = .ok (.aload_n 0, 1) := by decide +kernel
theorem dX5_start_23 : decode cX5_start 23 = .ok (.iconst 1, 1) := by decide +kernel
theorem dX5_start_24 : decode cX5_start 24 = .ok (.putfield 112, 3) := by decide +kernel
theorem dX5_start_27 : decode cX5_start 27 = .ok (.aload_n 0, 1) := by decide +kernel
theorem dX5_start_28 : decode cX5_start 28 = .ok (.iconst 1, 1) := by decide +kernel
theorem dX5_start_29 : decode cX5_start 29 = .ok (.iload_n 2, 1) := by decide +kernel
theorem dX5_start_30 : decode cX5_start 30 = .ok (.invokevirtual 144, 3) := by decide +kernel
theorem dX5_start_33 : decode cX5_start 33 = .ok (.aload_n 0, 1) := by decide +kernel
theorem dX5_start_34 : decode cX5_start 34 = .ok (.iload_n 1, 1) := by decide +kernel
theorem dX5_start_35 : decode cX5_start 35 = .ok (.invokevirtual 182, 3) := by decide +kernel
theorem dX5_start_38 : decode cX5_start 38 = .ok (.aload_n 0, 1) := by decide +kernel
theorem dX5_start_39 : decode cX5_start 39 = .ok (.invokevirtual 188, 3) := by decide +kernel
theorem dX5_start_42 : decode cX5_start 42 = .ok (.ireturn, 1) := by decide +kernel
theorem dX5_fault_0 : decode cX5_fault 0 = .ok (.iload_n 1, 1) := by decide +kernel
theorem dX5_fault_1 : decode cX5_fault 1 = .ok (.iconst 0, 1) := by decide +kernel
theorem dX5_fault_2 : decode cX5_fault 2 = .ok (.iconst 3, 1) := by decide +kernel
theorem dX5_fault_3 : decode cX5_fault 3 = .ok (.invokestatic 98, 3) := by decide +kernel
theorem dX5_fault_6 : decode cX5_fault 6 = .ok (.ifCond .eq 12, 3) := by decide +kernel
theorem dX5_fault_9 : decode cX5_fault 9 = .ok (.aload_n 0, 1) := by decide +kernel
theorem dX5_fault_10 : decode cX5_fault 10 = .ok (.getfield 70, 3) := by decide +kernel
theorem dX5_fault_13 : decode cX5_fault 13 = .ok (.iload_n 1, 1) := by decide +kernel
theorem dX5_fault_14 : decode cX5_fault 14 = .ok (.iaload, 1) := by decide +kernel
theorem dX5_fault_15 : decode cX5_fault 15 = .ok (.goto 4, 3) := by decide +kernel
theorem dX5_fault_18 : decode cX5_fault 18 = .ok (.iconst (-1), 1) := by decide +kernel
theorem dX5_fault_19 : decode cX5_fault 19 = .ok (.ireturn, 1) := by decide +kernel
theorem dX5_state_0 : decode cX5_state 0 = .ok (.iload_n 1, 1) := by decide +kernel
theorem dX5_state_1 : decode cX5_state 1 = .ok (.invokestatic 179, 3) := by decide +kernel
theorem dX5_state_4 : decode cX5_state 4 = .ok (.ifCond .eq 25, 3) := by decide +kernel
theorem dX5_state_7 : decode cX5_state 7 = .ok (.aload_n 0, 1) := by decide +kernel
theorem dX5_state_8 : decode cX5_state 8 = .ok (.iload_n 2, 1) := by decide +kernel
theorem dX5_state_9 : decode cX5_state 9 = .ok (.invokevirtual 102, 3) := by decide +kernel
theorem dX5_state_12 : decode cX5_state 12 = .ok (.ifCond .eq 17, 3) := by decide +kernel
theorem dX5_state_15 : decode cX5_state 15 = .ok (.aload_n 0, 1) := by decide +kernel
theorem dX5_state_16 : decode cX5_state 16 = .ok (.getfield 46, 3) := by decide +kernel
theorem dX5_state_19 : decode cX5_state 19 = .ok (.bipush 12, 2) := by decide +kernel
theorem dX5_state_21 : decode cX5_state 21 = .ok (.iload_n 1, 1) := by decide +kernel
theorem dX5_state_22 : decode cX5_state 22 = .ok (.imul, 1) := by decide +kernel
theorem dX5_state_23 : decode cX5_state 23 = .ok (.iload_n 2, 1) := by decide +kernel
theorem dX5_state_24 : decode cX5_state 24 = .ok (.iadd, 1) := by decide +kernel
theorem dX5_state_25 : decode cX5_state 25 = .ok (.iaload, 1) := by decide +kernel
theorem dX5_state_26 : decode cX5_state 26 = .ok (.goto 4, 3) := by decide +kernel
theorem dX5_state_29 : decode cX5_state 29 = .ok (.iconst (-1), 1) := by decide +kernel
theorem dX5_state_30 : decode cX5_state 30 = .ok (.ireturn, 1) := by decide +kernel
theorem dX5_kept_0 : decode cX5_kept 0 = .ok (.iload_n 1, 1) := by decide +kernel
theorem dX5_kept_1 : decode cX5_kept 1 = .ok (.invokestatic 179, 3) := by decide +kernel
theorem dX5_kept_4 : decode cX5_kept 4 = .ok (.ifCond .eq 17, 3) := by decide +kernel
theorem dX5_kept_7 : decode cX5_kept 7 = .ok (.iload_n 2, 1) := by decide +kernel
theorem dX5_kept_8 : decode cX5_kept 8 = .ok (.iconst 0, 1) := by decide +kernel
theorem dX5_kept_9 : decode cX5_kept 9 = .ok (.aload_n 0, 1) := by decide +kernel
theorem dX5_kept_10 : decode cX5_kept 10 = .ok (.getfield 106, 3) := by decide +kernel
theorem dX5_kept_13 : decode cX5_kept 13 = .ok (.iconst 1, 1) := by decide +kernel
theorem dX5_kept_14 : decode cX5_kept 14 = .ok (.isub, 1) := by decide +kernel
theorem dX5_kept_15 : decode cX5_kept 15 = .ok (.invokestatic 98, 3) := by decide +kernel
theorem dX5_kept_18 : decode cX5_kept 18 = .ok (.ifCond .ne 5, 3) := by decide +kernel
theorem dX5_kept_21 : decode cX5_kept 21 = .ok (.iconst (-1), 1) := by decide +kernel
theorem dX5_kept_22 : decode cX5_kept 22 = .ok (.ireturn, 1) := by decide +kernel
theorem dX5_kept_23 : decode cX5_kept 23 = .ok (.bipush 40, 2) := by decide +kernel
theorem dX5_kept_25 : decode cX5_kept 25 = .ok (.iload_n 1, 1) := by decide +kernel
theorem dX5_kept_26 : decode cX5_kept 26 = .ok (.imul, 1) := by decide +kernel
theorem dX5_kept_27 : decode cX5_kept 27 = .ok (.iload_n 2, 1) := by decide +kernel
theorem dX5_kept_28 : decode cX5_kept 28 = .ok (.iadd, 1) := by decide +kernel
theorem dX5_kept_29 : decode cX5_kept 29 = .ok (.istore_n 3, 1) := by decide +kernel
theorem dX5_kept_30 : decode cX5_kept 30 = .ok (.aload_n 0, 1) := by decide +kernel
theorem dX5_kept_31 : decode cX5_kept 31 = .ok (.getfield 52, 3) := by decide +kernel
theorem dX5_kept_34 : decode cX5_kept 34 = .ok (.iload_n 3, 1) := by decide +kernel
theorem dX5_kept_35 : decode cX5_kept 35 = .ok (.iaload, 1) := by decide +kernel
theorem dX5_kept_36 : decode cX5_kept 36 = .ok (.iconst 2, 1) := by decide +kernel
theorem dX5_kept_37 : decode cX5_kept 37 = .ok (.if_icmp .ne 7, 3) := by decide +kernel
theorem dX5_kept_40 : decode cX5_kept 40 = .ok (.iconst 1, 1) := by decide +kernel
theorem dX5_kept_41 : decode cX5_kept 41 = .ok (.goto 26, 3) := by decide +kernel
theorem dX5_kept_44 : decode cX5_kept 44 = .ok (.aload_n 0, 1) := by decide +kernel
theorem dX5_kept_45 : decode cX5_kept 45 = .ok (.getfield 52, 3) := by decide +kernel
theorem dX5_kept_48 : decode cX5_kept 48 = .ok (.iload_n 3, 1) := by decide +kernel
theorem dX5_kept_49 : decode cX5_kept 49 = .ok (.iaload, 1) := by decide +kernel
theorem dX5_kept_50 : decode cX5_kept 50 = .ok (.iconst 3, 1) := by decide +kernel
theorem dX5_kept_51 : decode cX5_kept 51 = .ok (.if_icmp .ne 15, 3) := by decide +kernel
theorem dX5_kept_54 : decode cX5_kept 54 = .ok (.bipush 10, 2) := by decide +kernel
theorem dX5_kept_56 : decode cX5_kept 56 = .ok (.aload_n 0, 1) := by decide +kernel
theorem dX5_kept_57 : decode cX5_kept 57 = .ok (.getfield 55, 3) := by decide +kernel
theorem dX5_kept_60 : decode cX5_kept 60 = .ok (.iload_n 3, 1) := by decide +kernel
theorem dX5_kept_61 : decode cX5_kept 61 = .ok (.iaload, 1) := by decide +kernel
theorem dX5_kept_62 : decode cX5_kept 62 = .ok (.iadd, 1) := by decide +kernel
theorem dX5_kept_63 : decode cX5_kept 63 = .ok (.goto 4, 3) := by decide +kernel
theorem dX5_kept_66 : decode cX5_kept 66 = .ok (.iconst 0, 1) := by decide +kernel
theorem dX5_kept_67 : decode cX5_kept 67 = .ok (.ireturn, 1) := by decide +kernel
theorem dX5_row_0 : decode cX5_row 0 = .ok (.iload_n 1, 1) := by decide +kernel
theorem dX5_row_1 : decode cX5_row 1 = .ok (.invokestatic 179, 3) := by decide +kernel
theorem dX5_row_4 : decode cX5_row 4 = .ok (.ifCond .eq 11, 3) := by decide +kernel
theorem dX5_row_7 : decode cX5_row 7 = .ok (.aload_n 0, 1) := by decide +kernel
theorem dX5_row_8 : decode cX5_row 8 = .ok (.iload_n 2, 1) := by decide +kernel
theorem dX5_row_9 : decode cX5_row 9 = .ok (.invokevirtual 102, 3) := by decide +kernel
theorem dX5_row_12 : decode cX5_row 12 = .ok (.ifCond .ne 5, 3) := by decide +kernel
theorem dX5_row_15 : decode cX5_row 15 = .ok (.iconst (-1), 1) := by decide +kernel
theorem dX5_row_16 : decode cX5_row 16 = .ok (.ireturn, 1) := by decide +kernel
theorem dX5_row_17 : decode cX5_row 17 = .ok (.iload_n 3, 1) := by decide +kernel
theorem dX5_row_18 : decode cX5_row 18 = .ok (.iconst 0, 1) := by decide +kernel
theorem dX5_row_19 : decode cX5_row 19 = .ok (.aload_n 0, 1) := by decide +kernel
theorem dX5_row_20 : decode cX5_row 20 = .ok (.getfield 7, 3) := by decide +kernel
theorem dX5_row_23 : decode cX5_row 23 = .ok (.iload_n 2, 1) := by decide +kernel
theorem dX5_row_24 : decode cX5_row 24 = .ok (.iaload, 1) := by decide +kernel
theorem dX5_row_25 : decode cX5_row 25 = .ok (.iconst 1, 1) := by decide +kernel
theorem dX5_row_26 : decode cX5_row 26 = .ok (.isub, 1) := by decide +kernel
theorem dX5_row_27 : decode cX5_row 27 = .ok (.invokestatic 98, 3) := by decide +kernel
theorem dX5_row_30 : decode cX5_row 30 = .ok (.ifCond .ne 6, 3) := by decide +kernel
theorem dX5_row_33 : decode cX5_row 33 = .ok (.bipush (-3), 2) := by decide +kernel
theorem dX5_row_35 : decode cX5_row 35 = .ok (.ireturn, 1) := by decide +kernel
theorem dX5_row_36 : decode cX5_row 36 = .ok (.aload_n 0, 1) := by decide +kernel
theorem dX5_row_37 : decode cX5_row 37 = .ok (.getfield 46, 3) := by decide +kernel
theorem dX5_row_40 : decode cX5_row 40 = .ok (.bipush 12, 2) := by decide +kernel
theorem dX5_row_42 : decode cX5_row 42 = .ok (.iload_n 1, 1) := by decide +kernel
theorem dX5_row_43 : decode cX5_row 43 = .ok (.imul, 1) := by decide +kernel
theorem dX5_row_44 : decode cX5_row 44 = .ok (.iload_n 2, 1) := by decide +kernel
theorem dX5_row_45 : decode cX5_row 45 = .ok (.iadd, 1) := by decide +kernel
theorem dX5_row_46 : decode cX5_row 46 = .ok (.iaload, 1) := by decide +kernel
theorem dX5_row_47 : decode cX5_row 47 = .ok (.ifCond .ne 17, 3) := by decide +kernel
theorem dX5_row_50 : decode cX5_row 50 = .ok (.aload_n 0, 1) := by decide +kernel
theorem dX5_row_51 : decode cX5_row 51 = .ok (.getfield 13, 3) := by decide +kernel
theorem dX5_row_54 : decode cX5_row 54 = .ok (.bipush 8, 2) := by decide +kernel
theorem dX5_row_56 : decode cX5_row 56 = .ok (.iload_n 2, 1) := by decide +kernel
theorem dX5_row_57 : decode cX5_row 57 = .ok (.imul, 1) := by decide +kernel
theorem dX5_row_58 : decode cX5_row 58 = .ok (.iload_n 3, 1) := by decide +kernel
theorem dX5_row_59 : decode cX5_row 59 = .ok (.iadd, 1) := by decide +kernel
theorem dX5_row_60 : decode cX5_row 60 = .ok (.iaload, 1) := by decide +kernel
theorem dX5_row_61 : decode cX5_row 61 = .ok (.goto 19, 3) := by decide +kernel
theorem dX5_row_64 : decode cX5_row 64 = .ok (.aload_n 0, 1) := by decide +kernel
theorem dX5_row_65 : decode cX5_row 65 = .ok (.getfield 49, 3) := by decide +kernel
theorem dX5_row_68 : decode cX5_row 68 = .ok (.bipush 96, 2) := by decide +kernel
theorem dX5_row_70 : decode cX5_row 70 = .ok (.iload_n 1, 1) := by decide +kernel
theorem dX5_row_71 : decode cX5_row 71 = .ok (.imul, 1) := by decide +kernel
theorem dX5_row_72 : decode cX5_row 72 = .ok (.bipush 8, 2) := by decide +kernel
theorem dX5_row_74 : decode cX5_row 74 = .ok (.iload_n 2, 1) := by decide +kernel
theorem dX5_row_75 : decode cX5_row 75 = .ok (.imul, 1) := by decide +kernel
theorem dX5_row_76 : decode cX5_row 76 = .ok (.iadd, 1) := by decide +kernel
theorem dX5_row_77 : decode cX5_row 77 = .ok (.iload_n 3, 1) := by decide +kernel
theorem dX5_row_78 : decode cX5_row 78 = .ok (.iadd, 1) := by decide +kernel
theorem dX5_row_79 : decode cX5_row 79 = .ok (.iaload, 1) := by decide +kernel
theorem dX5_row_80 : decode cX5_row 80 = .ok (.ireturn, 1) := by decide +kernel
theorem dX5_trace_0 : decode cX5_trace 0 = .ok (.iload_n 2, 1) := by decide +kernel
theorem dX5_trace_1 : decode cX5_trace 1 = .ok (.iconst 0, 1) := by decide +kernel
theorem dX5_trace_2 : decode cX5_trace 2 = .ok (.iconst 1, 1) := by decide +kernel
theorem dX5_trace_3 : decode cX5_trace 3 = .ok (.invokestatic 98, 3) := by decide +kernel
theorem dX5_trace_6 : decode cX5_trace 6 = .ok (.ifCond .ne 5, 3) := by decide +kernel
theorem dX5_trace_9 : decode cX5_trace 9 = .ok (.iconst (-1), 1) := by decide +kernel
theorem dX5_trace_10 : decode cX5_trace 10 = .ok (.ireturn, 1) := by decide +kernel
theorem dX5_trace_11 : decode cX5_trace 11 = .ok (.iload_n 1, 1) := by decide +kernel
theorem dX5_trace_12 : decode cX5_trace 12 = .ok (.iconst 0, 1) := by decide +kernel
theorem dX5_trace_13 : decode cX5_trace 13 = .ok (.aload_n 0, 1) := by decide +kernel
theorem dX5_trace_14 : decode cX5_trace 14 = .ok (.getfield 116, 3) := by decide +kernel
theorem dX5_trace_17 : decode cX5_trace 17 = .ok (.iconst 1, 1) := by decide +kernel
theorem dX5_trace_18 : decode cX5_trace 18 = .ok (.isub, 1) := by decide +kernel
theorem dX5_trace_19 : decode cX5_trace 19 = .ok (.invokestatic 98, 3) := by decide +kernel
theorem dX5_trace_22 : decode cX5_trace 22 = .ok (.ifCond .eq 16, 3) := by decide +kernel
theorem dX5_trace_25 : decode cX5_trace 25 = .ok (.aload_n 0, 1) := by decide +kernel
theorem dX5_trace_26 : decode cX5_trace 26 = .ok (.getfield 67, 3) := by decide +kernel
theorem dX5_trace_29 : decode cX5_trace 29 = .ok (.iconst 2, 1) := by decide +kernel
theorem dX5_trace_30 : decode cX5_trace 30 = .ok (.iload_n 1, 1) := by decide +kernel
theorem dX5_trace_31 : decode cX5_trace 31 = .ok (.imul, 1) := by decide +kernel
theorem dX5_trace_32 : decode cX5_trace 32 = .ok (.iload_n 2, 1) := by decide +kernel
theorem dX5_trace_33 : decode cX5_trace 33 = .ok (.iadd, 1) := by decide +kernel
theorem dX5_trace_34 : decode cX5_trace 34 = .ok (.iaload, 1) := by decide +kernel
theorem dX5_trace_35 : decode cX5_trace 35 = .ok (.goto 5, 3) := by decide +kernel
theorem dX5_trace_38 : decode cX5_trace 38 = .ok (.bipush (-3), 2) := by decide +kernel
theorem dX5_trace_40 : decode cX5_trace 40 = .ok (.ireturn, 1) := by decide +kernel
theorem dX5_empties_0 : decode cX5_empties 0 = .ok (.iconst 0, 1) := by decide +kernel
theorem dX5_empties_1 : decode cX5_empties 1 = .ok (.istore_n 2, 1) := by decide +kernel
theorem dX5_empties_2 : decode cX5_empties 2 = .ok (.iconst 0, 1) := by decide +kernel
theorem dX5_empties_3 : decode cX5_empties 3 = .ok (.istore_n 3, 1) := by decide +kernel
theorem dX5_empties_4 : decode cX5_empties 4 = .ok (.iload_n 3, 1) := by decide +kernel
theorem dX5_empties_5 : decode cX5_empties 5 = .ok (.bipush 12, 2) := by decide +kernel
theorem dX5_empties_7 : decode cX5_empties 7 = .ok (.if_icmp .ge 43, 3) := by decide +kernel
theorem dX5_empties_10 : decode cX5_empties 10 = .ok (.iload_n 2, 1) := by decide +kernel
theorem dX5_empties_11 : decode cX5_empties 11 = .ok (.aload_n 0, 1) := by decide +kernel
theorem dX5_empties_12 : decode cX5_empties 12 = .ok (.getfield 46, 3) := by decide +kernel
theorem dX5_empties_15 : decode cX5_empties 15 = .ok (.bipush 12, 2) := by decide +kernel
theorem dX5_empties_17 : decode cX5_empties 17 = .ok (.iload_n 1, 1) := by decide +kernel
theorem dX5_empties_18 : decode cX5_empties 18 = .ok (.imul, 1) := by decide +kernel
theorem dX5_empties_19 : decode cX5_empties 19 = .ok (.iload_n 3, 1) := by decide +kernel
theorem dX5_empties_20 : decode cX5_empties 20 = .ok (.iadd, 1) := by decide +kernel
theorem dX5_empties_21 : decode cX5_empties 21 = .ok (.iaload, 1) := by decide +kernel
theorem dX5_empties_22 : decode cX5_empties 22 = .ok (.ifCond .eq 7, 3) := by decide +kernel
theorem dX5_empties_25 : decode cX5_empties 25 = .ok (.iconst 1, 1) := by decide +kernel
theorem dX5_empties_26 : decode cX5_empties 26 = .ok (.goto 4, 3) := by decide +kernel
theorem dX5_empties_29 : decode cX5_empties 29 = .ok (.iconst 0, 1) := by decide +kernel
theorem dX5_empties_30 : decode cX5_empties 30 = .ok (.iadd, 1) := by decide +kernel
theorem dX5_empties_31 : decode cX5_empties 31 = .ok (.istore_n 2, 1) := by decide +kernel
theorem dX5_empties_32 : decode cX5_empties 32 = .ok (.aload_n 0, 1) := by decide +kernel
theorem dX5_empties_33 : decode cX5_empties 33 = .ok (.getfield 46, 3) := by decide +kernel
theorem dX5_empties_36 : decode cX5_empties 36 = .ok (.bipush 12, 2) := by decide +kernel
theorem dX5_empties_38 : decode cX5_empties 38 = .ok (.iload_n 1, 1) := by decide +kernel
theorem dX5_empties_39 : decode cX5_empties 39 = .ok (.imul, 1) := by decide +kernel
theorem dX5_empties_40 : decode cX5_empties 40 = .ok (.iload_n 3, 1) := by decide +kernel
theorem dX5_empties_41 : decode cX5_empties 41 = .ok (.iadd, 1) := by decide +kernel
theorem dX5_empties_42 : decode cX5_empties 42 = .ok (.iconst 0, 1) := by decide +kernel
theorem dX5_empties_43 : decode cX5_empties 43 = .ok (.iastore, 1) := by decide +kernel
theorem dX5_empties_44 : decode cX5_empties 44 = .ok (.iinc 3 1, 3) := by decide +kernel
theorem dX5_empties_47 : decode cX5_empties 47 = .ok (.goto (-43), 3) := by decide +kernel
theorem dX5_empties_50 : decode cX5_empties 50 = .ok (.iconst 0, 1) := by decide +kernel
theorem dX5_empties_51 : decode cX5_empties 51 = .ok (.istore_n 3, 1) := by decide +kernel
theorem dX5_empties_52 : decode cX5_empties 52 = .ok (.iload_n 3, 1) := by decide +kernel
theorem dX5_empties_53 : decode cX5_empties 53 = .ok (.bipush 40, 2) := by decide +kernel
theorem dX5_empties_55 : decode cX5_empties 55 = .ok (.if_icmp .ge 21, 3) := by decide +kernel
theorem dX5_empties_58 : decode cX5_empties 58 = .ok (.aload_n 0, 1) := by decide +kernel
theorem dX5_empties_59 : decode cX5_empties 59 = .ok (.getfield 52, 3) := by decide +kernel
theorem dX5_empties_62 : decode cX5_empties 62 = .ok (.bipush 40, 2) := by decide +kernel
theorem dX5_empties_64 : decode cX5_empties 64 = .ok (.iload_n 1, 1) := by decide +kernel
theorem dX5_empties_65 : decode cX5_empties 65 = .ok (.imul, 1) := by decide +kernel
theorem dX5_empties_66 : decode cX5_empties 66 = .ok (.iload_n 3, 1) := by decide +kernel
theorem dX5_empties_67 : decode cX5_empties 67 = .ok (.iadd, 1) := by decide +kernel
theorem dX5_empties_68 : decode cX5_empties 68 = .ok (.iconst 0, 1) := by decide +kernel
theorem dX5_empties_69 : decode cX5_empties 69 = .ok (.iastore, 1) := by decide +kernel
theorem dX5_empties_70 : decode cX5_empties 70 = .ok (.iinc 3 1, 3) := by decide +kernel
theorem dX5_empties_73 : decode cX5_empties 73 = .ok (.goto (-21), 3) := by decide +kernel
theorem dX5_empties_76 : decode cX5_empties 76 = .ok (.iload_n 2, 1) := by decide +kernel
theorem dX5_empties_77 : decode cX5_empties 77 = .ok (.ireturn, 1) := by decide +kernel
theorem dX5_forget_0 : decode cX5_forget 0 = .ok (.iload_n 1, 1) := by decide +kernel
theorem dX5_forget_1 : decode cX5_forget 1 = .ok (.invokestatic 179, 3) := by decide +kernel
theorem dX5_forget_4 : decode cX5_forget 4 = .ok (.ifCond .eq 11, 3) := by decide +kernel
theorem dX5_forget_7 : decode cX5_forget 7 = .ok (.aload_n 0, 1) := by decide +kernel
theorem dX5_forget_8 : decode cX5_forget 8 = .ok (.iload_n 1, 1) := by decide +kernel
theorem dX5_forget_9 : decode cX5_forget 9 = .ok (.invokevirtual 192, 3) := by decide +kernel
theorem dX5_forget_12 : decode cX5_forget 12 = .ok (.goto 4, 3) := by decide +kernel
theorem dX5_forget_15 : decode cX5_forget 15 = .ok (.iconst (-1), 1) := by decide +kernel
theorem dX5_forget_16 : decode cX5_forget 16 = .ok (.ireturn, 1) := by decide +kernel
theorem dX5_alike_0 : decode cX5_alike 0 = .ok (.aload_n 0, 1) := by decide +kernel
theorem dX5_alike_1 : decode cX5_alike 1 = .ok (.getfield 196, 3) := by decide +kernel
theorem dX5_alike_4 : decode cX5_alike 4 = .ok (.bipush 40, 2) := by decide +kernel
theorem dX5_alike_6 : decode cX5_alike 6 = .ok (.if_icmp .ne 6, 3) := by decide +kernel
theorem dX5_alike_9 : decode cX5_alike 9 = .ok (.bipush (-2), 2) := by decide +kernel
theorem dX5_alike_11 : decode cX5_alike 11 = .ok (.ireturn, 1) := by decide +kernel
theorem dX5_alike_12 : decode cX5_alike 12 = .ok (.aload_n 0, 1) := by decide +kernel
theorem dX5_alike_13 : decode cX5_alike 13 = .ok (.dup, 1) := by decide +kernel
theorem dX5_alike_14 : decode cX5_alike 14 = .ok (.getfield 196, 3) := by decide +kernel
theorem dX5_alike_17 : decode cX5_alike 17 = .ok (.iconst 1, 1) := by decide +kernel
theorem dX5_alike_18 : decode cX5_alike 18 = .ok (.iadd, 1) := by decide +kernel
theorem dX5_alike_19 : decode cX5_alike 19 = .ok (.putfield 196, 3) := by decide +kernel
theorem dX5_alike_22 : decode cX5_alike 22 = .ok (.aload_n 0, 1) := by decide +kernel
theorem dX5_alike_23 : decode cX5_alike 23 = .ok (.iconst 0, 1) := by decide +kernel
theorem dX5_alike_24 : decode cX5_alike 24 = .ok (.putfield 112, 3) := by decide +kernel
theorem dX5_alike_27 : decode cX5_alike 27 = .ok (.iconst 0, 1) := by decide +kernel
theorem dX5_alike_28 : decode cX5_alike 28 = .ok (.istore_n 2, 1) := by decide +kernel
theorem dX5_alike_29 : decode cX5_alike 29 = .ok (.iload_n 2, 1) := by decide +kernel
theorem dX5_alike_30 : decode cX5_alike 30 = .ok (.aload_n 0, 1) := by decide +kernel
theorem dX5_alike_31 : decode cX5_alike 31 = .ok (.getfield 106, 3) := by decide +kernel
theorem dX5_alike_34 : decode cX5_alike 34 = .ok (.if_icmp .ge 16, 3) := by decide +kernel
theorem dX5_alike_37 : decode cX5_alike 37 = .ok (.aload_n 0, 1) := by decide +kernel
theorem dX5_alike_38 : decode cX5_alike 38 = .ok (.getfield 85, 3) := by decide +kernel
theorem dX5_alike_41 : decode cX5_alike 41 = .ok (.iload_n 2, 1) := by decide +kernel
theorem dX5_alike_42 : decode cX5_alike 42 = .ok (.iload_n 2, 1) := by decide +kernel
theorem dX5_alike_43 : decode cX5_alike 43 = .ok (.iastore, 1) := by decide +kernel
theorem dX5_alike_44 : decode cX5_alike 44 = .ok (.iinc 2 1, 3) := by decide +kernel
theorem dX5_alike_47 : decode cX5_alike 47 = .ok (.goto (-18), 3) := by decide +kernel
theorem dX5_alike_50 : decode cX5_alike 50 = .ok (.iconst 0, 1) := by decide +kernel
theorem dX5_alike_51 : decode cX5_alike 51 = .ok (.istore_n 2, 1) := by decide +kernel
theorem dX5_alike_52 : decode cX5_alike 52 = .ok (.iload_n 1, 1) := by decide +kernel
theorem dX5_alike_53 : decode cX5_alike 53 = .ok (.istore_n 3, 1) := by decide +kernel
theorem dX5_alike_54 : decode cX5_alike 54 = .ok (.iconst 3, 1) := by decide +kernel
theorem dX5_alike_55 : decode cX5_alike 55 = .ok (.istore 4, 2) := by decide +kernel
theorem dX5_alike_57 : decode cX5_alike 57 = .ok (.iload 4, 2) := by decide +kernel
theorem dX5_alike_59 : decode cX5_alike 59 = .ok (.iconst 5, 1) := by decide +kernel
theorem dX5_alike_60 : decode cX5_alike 60 = .ok (.if_icmp .ge 211, 3) := by decide +kernel
theorem dX5_alike_63 : decode cX5_alike 63 = .ok (.aload_n 0, 1) := by decide +kernel
theorem dX5_alike_64 : decode cX5_alike 64 = .ok (.iload 4, 2) := by decide +kernel
theorem dX5_alike_66 : decode cX5_alike 66 = .ok (.invokevirtual 192, 3) := by decide +kernel
theorem dX5_alike_69 : decode cX5_alike 69 = .ok (.istore 5, 2) := by decide +kernel
theorem dX5_alike_71 : decode cX5_alike 71 = .ok (.iconst 0, 1) := by decide +kernel
theorem dX5_alike_72 : decode cX5_alike 72 = .ok (.istore 6, 2) := by decide +kernel
theorem dX5_alike_74 : decode cX5_alike 74 = .ok (.iload 6, 2) := by decide +kernel
theorem dX5_alike_76 : decode cX5_alike 76 = .ok (.aload_n 0, 1) := by decide +kernel
theorem dX5_alike_77 : decode cX5_alike 77 = .ok (.getfield 106, 3) := by decide +kernel
theorem dX5_alike_80 : decode cX5_alike 80 = .ok (.if_icmp .ge 114, 3) := by decide +kernel
theorem dX5_alike_83 : decode cX5_alike 83 = .ok (.aload_n 0, 1) := by decide +kernel
theorem dX5_alike_84 : decode cX5_alike 84 = .ok (.getfield 85, 3) := by decide +kernel
theorem dX5_alike_87 : decode cX5_alike 87 = .ok (.iload 6, 2) := by decide +kernel
theorem dX5_alike_89 : decode cX5_alike 89 = .ok (.iaload, 1) := by decide +kernel
theorem dX5_alike_90 : decode cX5_alike 90 = .ok (.istore 7, 2) := by decide +kernel
theorem dX5_alike_92 : decode cX5_alike 92 = .ok (.aload_n 0, 1) := by decide +kernel
theorem dX5_alike_93 : decode cX5_alike 93 = .ok (.iconst 0, 1) := by decide +kernel
theorem dX5_alike_94 : decode cX5_alike 94 = .ok (.iload 7, 2) := by decide +kernel
theorem dX5_alike_96 : decode cX5_alike 96 = .ok (.invokevirtual 144, 3) := by decide +kernel
theorem dX5_alike_99 : decode cX5_alike 99 = .ok (.aload_n 0, 1) := by decide +kernel
theorem dX5_alike_100 : decode cX5_alike 100 = .ok (.iload 4, 2) := by decide +kernel
theorem dX5_alike_102 : decode cX5_alike 102 = .ok (.invokevirtual 182, 3) := by decide +kernel
theorem dX5_alike_105 : decode cX5_alike 105 = .ok (.aload_n 0, 1) := by decide +kernel
theorem dX5_alike_106 : decode cX5_alike 106 = .ok (.getfield 88, 3) := by decide +kernel
theorem dX5_alike_109 : decode cX5_alike 109 = .ok (.iload 7, 2) := by decide +kernel
theorem dX5_alike_111 : decode cX5_alike 111 = .ok (.iaload, 1) := by decide +kernel
theorem dX5_alike_112 : decode cX5_alike 112 = .ok (.aload_n 0, 1) := by decide +kernel
theorem dX5_alike_113 : decode cX5_alike 113 = .ok (.getfield 119, 3) := by decide +kernel
theorem dX5_alike_116 : decode cX5_alike 116 = .ok (.if_icmp .ne 28, 3) := by decide +kernel
theorem dX5_alike_119 : decode cX5_alike 119 = .ok (.aload_n 0, 1) := by decide +kernel
theorem dX5_alike_120 : decode cX5_alike 120 = .ok (.getfield 119, 3) := by decide +kernel
theorem dX5_alike_123 : decode cX5_alike 123 = .ok (.ifCond .gt 17, 3) := by decide +kernel
theorem dX5_alike_126 : decode cX5_alike 126 = .ok (.aload_n 0, 1) := by decide +kernel
theorem dX5_alike_127 : decode cX5_alike 127 = .ok (.getfield 91, 3) := by decide +kernel
theorem dX5_alike_130 : decode cX5_alike 130 = .ok (.iload 7, 2) := by decide +kernel
theorem dX5_alike_132 : decode cX5_alike 132 = .ok (.iaload, 1) := by decide +kernel
theorem dX5_alike_133 : decode cX5_alike 133 = .ok (.aload_n 0, 1) := by decide +kernel
theorem dX5_alike_134 : decode cX5_alike 134 = .ok (.getfield 131, 3) := by decide +kernel
theorem dX5_alike_137 : decode cX5_alike 137 = .ok (.if_icmp .ne 7, 3) := by decide +kernel
theorem dX5_alike_140 : decode cX5_alike 140 = .ok (.iconst 1, 1) := by decide +kernel
theorem dX5_alike_141 : decode cX5_alike 141 = .ok (.goto 4, 3) := by decide +kernel
theorem dX5_alike_144 : decode cX5_alike 144 = .ok (.iconst 0, 1) := by decide +kernel
theorem dX5_alike_145 : decode cX5_alike 145 = .ok (.istore 8, 2) := by decide +kernel
theorem dX5_alike_147 : decode cX5_alike 147 = .ok (.iload_n 2, 1) := by decide +kernel
theorem dX5_alike_148 : decode cX5_alike 148 = .ok (.iload 4, 2) := by decide +kernel
theorem dX5_alike_150 : decode cX5_alike 150 = .ok (.iconst 4, 1) := by decide +kernel
theorem dX5_alike_151 : decode cX5_alike 151 = .ok (.if_icmp .ne 12, 3) := by decide +kernel
theorem dX5_alike_154 : decode cX5_alike 154 = .ok (.iload 8, 2) := by decide +kernel
theorem dX5_alike_156 : decode cX5_alike 156 = .ok (.ifCond .ne 7, 3) := by decide +kernel
theorem dX5_alike_159 : decode cX5_alike 159 = .ok (.iconst 1, 1) := by decide +kernel
theorem dX5_alike_160 : decode cX5_alike 160 = .ok (.goto 4, 3) := by decide +kernel
theorem dX5_alike_163 : decode cX5_alike 163 = .ok (.iconst 0, 1) := by decide +kernel
theorem dX5_alike_164 : decode cX5_alike 164 = .ok (.iadd, 1) := by decide +kernel
theorem dX5_alike_165 : decode cX5_alike 165 = .ok (.istore_n 2, 1) := by decide +kernel
theorem dX5_alike_166 : decode cX5_alike 166 = .ok (.aload_n 0, 1) := by decide +kernel
theorem dX5_alike_167 : decode cX5_alike 167 = .ok (.getfield 88, 3) := by decide +kernel
theorem dX5_alike_170 : decode cX5_alike 170 = .ok (.iload 7, 2) := by decide +kernel
theorem dX5_alike_172 : decode cX5_alike 172 = .ok (.aload_n 0, 1) := by decide +kernel
theorem dX5_alike_173 : decode cX5_alike 173 = .ok (.getfield 119, 3) := by decide +kernel
theorem dX5_alike_176 : decode cX5_alike 176 = .ok (.iastore, 1) := by decide +kernel
theorem dX5_alike_177 : decode cX5_alike 177 = .ok (.aload_n 0, 1) := by decide +kernel
theorem dX5_alike_178 : decode cX5_alike 178 = .ok (.getfield 91, 3) := by decide +kernel
theorem dX5_alike_181 : decode cX5_alike 181 = .ok (.iload 7, 2) := by decide +kernel
theorem dX5_alike_183 : decode cX5_alike 183 = .ok (.aload_n 0, 1) := by decide +kernel
theorem dX5_alike_184 : decode cX5_alike 184 = .ok (.getfield 131, 3) := by decide +kernel
theorem dX5_alike_187 : decode cX5_alike 187 = .ok (.iastore, 1) := by decide +kernel
theorem dX5_alike_188 : decode cX5_alike 188 = .ok (.iinc 6 1, 3) := by decide +kernel
theorem dX5_alike_191 : decode cX5_alike 191 = .ok (.goto (-117), 3) := by decide +kernel
theorem dX5_alike_194 : decode cX5_alike 194 = .ok (.aload_n 0, 1) := by decide +kernel
theorem dX5_alike_195 : decode cX5_alike 195 = .ok (.getfield 106, 3) := by decide +kernel
theorem dX5_alike_198 : decode cX5_alike 198 = .ok (.iconst 1, 1) := by decide +kernel
theorem dX5_alike_199 : decode cX5_alike 199 = .ok (.isub, 1) := by decide +kernel
theorem dX5_alike_200 : decode cX5_alike 200 = .ok (.istore 6, 2) := by decide +kernel
theorem dX5_alike_202 : decode cX5_alike 202 = .ok (.iload 6, 2) := by decide +kernel
theorem dX5_alike_204 : decode cX5_alike 204 = .ok (.ifCond .le 61, 3) := by decide +kernel
theorem dX5_alike_207 : decode cX5_alike 207 = .ok (.iload_n 3, 1) := by decide +kernel
theorem dX5_alike_208 : decode cX5_alike 208 = .ok (.ldc 199, 2) := by decide +kernel
theorem dX5_alike_210 : decode cX5_alike 210 = .ok (.imul, 1) := by decide +kernel
theorem dX5_alike_211 : decode cX5_alike 211 = .ok (.sipush 12345, 3) := by decide +kernel
theorem dX5_alike_214 : decode cX5_alike 214 = .ok (.iadd, 1) := by decide +kernel
theorem dX5_alike_215 : decode cX5_alike 215 = .ok (.istore_n 3, 1) := by decide +kernel
theorem dX5_alike_216 : decode cX5_alike 216 = .ok (.iload_n 3, 1) := by decide +kernel
theorem dX5_alike_217 : decode cX5_alike 217 = .ok (.bipush 16, 2) := by decide +kernel
theorem dX5_alike_219 : decode cX5_alike 219 = .ok (.iushr, 1) := by decide +kernel
theorem dX5_alike_220 : decode cX5_alike 220 = .ok (.iload 6, 2) := by decide +kernel
theorem dX5_alike_222 : decode cX5_alike 222 = .ok (.iconst 1, 1) := by decide +kernel
theorem dX5_alike_223 : decode cX5_alike 223 = .ok (.iadd, 1) := by decide +kernel
theorem dX5_alike_224 : decode cX5_alike 224 = .ok (.irem, 1) := by decide +kernel
theorem dX5_alike_225 : decode cX5_alike 225 = .ok (.istore 7, 2) := by decide +kernel
theorem dX5_alike_227 : decode cX5_alike 227 = .ok (.aload_n 0, 1) := by decide +kernel
theorem dX5_alike_228 : decode cX5_alike 228 = .ok (.getfield 85, 3) := by decide +kernel
theorem dX5_alike_231 : decode cX5_alike 231 = .ok (.iload 6, 2) := by decide +kernel
theorem dX5_alike_233 : decode cX5_alike 233 = .ok (.iaload, 1) := by decide +kernel
theorem dX5_alike_234 : decode cX5_alike 234 = .ok (.istore 8, 2) := by decide +kernel
theorem dX5_alike_236 : decode cX5_alike 236 = .ok (.aload_n 0, 1) := by decide +kernel
theorem dX5_alike_237 : decode cX5_alike 237 = .ok (.getfield 85, 3) := by decide +kernel
theorem dX5_alike_240 : decode cX5_alike 240 = .ok (.iload 6, 2) := by decide +kernel
theorem dX5_alike_242 : decode cX5_alike 242 = .ok (.aload_n 0, 1) := by decide +kernel
theorem dX5_alike_243 : decode cX5_alike 243 = .ok (.getfield 85, 3) := by decide +kernel
theorem dX5_alike_246 : decode cX5_alike 246 = .ok (.iload 7, 2) := by decide +kernel
theorem dX5_alike_248 : decode cX5_alike 248 = .ok (.iaload, 1) := by decide +kernel
theorem dX5_alike_249 : decode cX5_alike 249 = .ok (.iastore, 1) := by decide +kernel
theorem dX5_alike_250 : decode cX5_alike 250 = .ok (.aload_n 0, 1) := by decide +kernel
theorem dX5_alike_251 : decode cX5_alike 251 = .ok (.getfield 85, 3) := by decide +kernel
theorem dX5_alike_254 : decode cX5_alike 254 = .ok (.iload 7, 2) := by decide +kernel
theorem dX5_alike_256 : decode cX5_alike 256 = .ok (.iload 8, 2) := by decide +kernel
theorem dX5_alike_258 : decode cX5_alike 258 = .ok (.iastore, 1) := by decide +kernel
theorem dX5_alike_259 : decode cX5_alike 259 = .ok (.iinc 6 (-1), 3) := by decide +kernel
theorem dX5_alike_262 : decode cX5_alike 262 = .ok (.goto (-60), 3) := by decide +kernel
theorem dX5_alike_265 : decode cX5_alike 265 = .ok (.iinc 4 1, 3) := by decide +kernel
theorem dX5_alike_268 : decode cX5_alike 268 = .ok (.goto (-211), 3) := by decide +kernel
theorem dX5_alike_271 : decode cX5_alike 271 = .ok (.iload_n 2, 1) := by decide +kernel
theorem dX5_alike_272 : decode cX5_alike 272 = .ok (.ireturn, 1) := by decide +kernel
theorem dX5_told_0 : decode cX5_told 0 = .ok (.iload_n 1, 1) := by decide +kernel
theorem dX5_told_1 : decode cX5_told 1 = .ok (.tableswitch 51 0 3 #[31, 36, 41, 46], 31) := by decide +kernel
theorem dX5_told_32 : decode cX5_told 32 = .ok (.aload_n 0, 1) := by decide +kernel
theorem dX5_told_33 : decode cX5_told 33 = .ok (.getfield 94, 3) := by decide +kernel
theorem dX5_told_36 : decode cX5_told 36 = .ok (.ireturn, 1) := by decide +kernel
theorem dX5_told_37 : decode cX5_told 37 = .ok (.aload_n 0, 1) := by decide +kernel
theorem dX5_told_38 : decode cX5_told 38 = .ok (.getfield 106, 3) := by decide +kernel
theorem dX5_told_41 : decode cX5_told 41 = .ok (.ireturn, 1) := by decide +kernel
theorem dX5_told_42 : decode cX5_told 42 = .ok (.aload_n 0, 1) := by decide +kernel
theorem dX5_told_43 : decode cX5_told 43 = .ok (.getfield 116, 3) := by decide +kernel
theorem dX5_told_46 : decode cX5_told 46 = .ok (.ireturn, 1) := by decide +kernel
theorem dX5_told_47 : decode cX5_told 47 = .ok (.aload_n 0, 1) := by decide +kernel
theorem dX5_told_48 : decode cX5_told 48 = .ok (.getfield 164, 3) := by decide +kernel
theorem dX5_told_51 : decode cX5_told 51 = .ok (.ireturn, 1) := by decide +kernel
theorem dX5_told_52 : decode cX5_told 52 = .ok (.iconst (-1), 1) := by decide +kernel
theorem dX5_told_53 : decode cX5_told 53 = .ok (.ireturn, 1) := by decide +kernel

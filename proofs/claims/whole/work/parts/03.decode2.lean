theorem dX9_rules_131 : decode cX9_rules 131 = .ok (.iload_n 3, 1) := by decide +kernel
theorem dX9_rules_132 : decode cX9_rules 132 = .ok (.iadd, 1) := by decide +kernel
theorem dX9_rules_133 : decode cX9_rules 133 = .ok (.iaload, 1) := by decide +kernel
theorem dX9_rules_134 : decode cX9_rules 134 = .ok (.iastore, 1) := by decide +kernel
theorem dX9_rules_135 : decode cX9_rules 135 = .ok (.aload_n 0, 1) := by decide +kernel
theorem dX9_rules_136 : decode cX9_rules 136 = .ok (.getfield 46, 3) := by decide +kernel
theorem dX9_rules_139 : decode cX9_rules 139 = .ok (.iconst 4, 1) := by decide +kernel
theorem dX9_rules_140 : decode cX9_rules 140 = .ok (.iload_n 2, 1) := by decide +kernel
theorem dX9_rules_141 : decode cX9_rules 141 = .ok (.imul, 1) := by decide +kernel
theorem dX9_rules_142 : decode cX9_rules 142 = .ok (.iload_n 3, 1) := by decide +kernel
theorem dX9_rules_143 : decode cX9_rules 143 = .ok (.iadd, 1) := by decide +kernel
theorem dX9_rules_144 : decode cX9_rules 144 = .ok (.aload_n 0, 1) := by decide +kernel
theorem dX9_rules_145 : decode cX9_rules 145 = .ok (.getfield 46, 3) := by decide +kernel
theorem dX9_rules_148 : decode cX9_rules 148 = .ok (.iconst 4, 1) := by decide +kernel
theorem dX9_rules_149 : decode cX9_rules 149 = .ok (.bipush 8, 2) := by decide +kernel
theorem dX9_rules_151 : decode cX9_rules 151 = .ok (.iload_n 2, 1) := by decide +kernel
theorem dX9_rules_152 : decode cX9_rules 152 = .ok (.iadd, 1) := by decide +kernel
theorem dX9_rules_153 : decode cX9_rules 153 = .ok (.imul, 1) := by decide +kernel
theorem dX9_rules_154 : decode cX9_rules 154 = .ok (.iload_n 3, 1) := by decide +kernel
theorem dX9_rules_155 : decode cX9_rules 155 = .ok (.iadd, 1) := by decide +kernel
theorem dX9_rules_156 : decode cX9_rules 156 = .ok (.iaload, 1) := by decide +kernel
theorem dX9_rules_157 : decode cX9_rules 157 = .ok (.iastore, 1) := by decide +kernel
theorem dX9_rules_158 : decode cX9_rules 158 = .ok (.iinc 3 1, 3) := by decide +kernel
theorem dX9_rules_161 : decode cX9_rules 161 = .ok (.goto (-59), 3) := by decide +kernel
theorem dX9_rules_164 : decode cX9_rules 164 = .ok (.iinc 2 1, 3) := by decide +kernel
theorem dX9_rules_167 : decode cX9_rules 167 = .ok (.goto (-102), 3) := by decide +kernel
theorem dX9_rules_170 : decode cX9_rules 170 = .ok (.iload_n 1, 1) := by decide +kernel
theorem dX9_rules_171 : decode cX9_rules 171 = .ok (.ireturn, 1) := by decide +kernel
theorem dX9_fault_0 : decode cX9_fault 0 = .ok (.aload_n 0, 1) := by decide +kernel
theorem dX9_fault_1 : decode cX9_fault 1 = .ok (.iconst 0, 1) := by decide +kernel
theorem dX9_fault_2 : decode cX9_fault 2 = .ok (.putfield 78, 3) := by decide +kernel
theorem dX9_fault_5 : decode cX9_fault 5 = .ok (.aload_n 0, 1) := by decide +kernel
theorem dX9_fault_6 : decode cX9_fault 6 = .ok (.getfield 53, 3) := by decide +kernel
theorem dX9_fault_9 : decode cX9_fault 9 = .ok (.ireturn, 1) := by decide +kernel
theorem dX9_holds_0 : decode cX9_holds 0 = .ok (.iload_n 2, 1) := by decide +kernel
theorem dX9_holds_1 : decode cX9_holds 1 = .ok (.tableswitch 95 0 2 #[27, 60, 81], 27) := by decide +kernel
theorem dX9_holds_28 : decode cX9_holds 28 = .ok (.aload_n 0, 1) := by decide +kernel
theorem dX9_holds_29 : decode cX9_holds 29 = .ok (.getfield 177, 3) := by decide +kernel
theorem dX9_holds_32 : decode cX9_holds 32 = .ok (.ifCond .lt 27, 3) := by decide +kernel
theorem dX9_holds_35 : decode cX9_holds 35 = .ok (.aload_n 0, 1) := by decide +kernel
theorem dX9_holds_36 : decode cX9_holds 36 = .ok (.getfield 180, 3) := by decide +kernel
theorem dX9_holds_39 : decode cX9_holds 39 = .ok (.ifCond .lt 20, 3) := by decide +kernel
theorem dX9_holds_42 : decode cX9_holds 42 = .ok (.aload_n 0, 1) := by decide +kernel
theorem dX9_holds_43 : decode cX9_holds 43 = .ok (.getfield 177, 3) := by decide +kernel
theorem dX9_holds_46 : decode cX9_holds 46 = .ok (.aload_n 0, 1) := by decide +kernel
theorem dX9_holds_47 : decode cX9_holds 47 = .ok (.getfield 180, 3) := by decide +kernel
theorem dX9_holds_50 : decode cX9_holds 50 = .ok (.isub, 1) := by decide +kernel
theorem dX9_holds_51 : decode cX9_holds 51 = .ok (.iload_n 3, 1) := by decide +kernel
theorem dX9_holds_52 : decode cX9_holds 52 = .ok (.if_icmp .le 7, 3) := by decide +kernel
theorem dX9_holds_55 : decode cX9_holds 55 = .ok (.iconst 1, 1) := by decide +kernel
theorem dX9_holds_56 : decode cX9_holds 56 = .ok (.goto 4, 3) := by decide +kernel
theorem dX9_holds_59 : decode cX9_holds 59 = .ok (.iconst 0, 1) := by decide +kernel
theorem dX9_holds_60 : decode cX9_holds 60 = .ok (.ireturn, 1) := by decide +kernel
theorem dX9_holds_61 : decode cX9_holds 61 = .ok (.aload_n 0, 1) := by decide +kernel
theorem dX9_holds_62 : decode cX9_holds 62 = .ok (.getfield 180, 3) := by decide +kernel
theorem dX9_holds_65 : decode cX9_holds 65 = .ok (.ifCond .lt 15, 3) := by decide +kernel
theorem dX9_holds_68 : decode cX9_holds 68 = .ok (.aload_n 0, 1) := by decide +kernel
theorem dX9_holds_69 : decode cX9_holds 69 = .ok (.getfield 180, 3) := by decide +kernel
theorem dX9_holds_72 : decode cX9_holds 72 = .ok (.iload_n 3, 1) := by decide +kernel
theorem dX9_holds_73 : decode cX9_holds 73 = .ok (.if_icmp .ge 7, 3) := by decide +kernel
theorem dX9_holds_76 : decode cX9_holds 76 = .ok (.iconst 1, 1) := by decide +kernel
theorem dX9_holds_77 : decode cX9_holds 77 = .ok (.goto 4, 3) := by decide +kernel
theorem dX9_holds_80 : decode cX9_holds 80 = .ok (.iconst 0, 1) := by decide +kernel
theorem dX9_holds_81 : decode cX9_holds 81 = .ok (.ireturn, 1) := by decide +kernel
theorem dX9_holds_82 : decode cX9_holds 82 = .ok (.aload_n 0, 1) := by decide +kernel
theorem dX9_holds_83 : decode cX9_holds 83 = .ok (.getfield 183, 3) := by decide +kernel
theorem dX9_holds_86 : decode cX9_holds 86 = .ok (.iload_n 3, 1) := by decide +kernel
theorem dX9_holds_87 : decode cX9_holds 87 = .ok (.if_icmp .le 7, 3) := by decide +kernel
theorem dX9_holds_90 : decode cX9_holds 90 = .ok (.iconst 1, 1) := by decide +kernel
theorem dX9_holds_91 : decode cX9_holds 91 = .ok (.goto 4, 3) := by decide +kernel
theorem dX9_holds_94 : decode cX9_holds 94 = .ok (.iconst 0, 1) := by decide +kernel
theorem dX9_holds_95 : decode cX9_holds 95 = .ok (.ireturn, 1) := by decide +kernel
theorem dX9_holds_96 : decode cX9_holds 96 = .ok (.iload_n 1, 1) := by decide +kernel
theorem dX9_holds_97 : decode cX9_holds 97 = .ok (.iload_n 3, 1) := by decide +kernel
theorem dX9_holds_98 : decode cX9_holds 98 = .ok (.if_icmp .ne 7, 3) := by decide +kernel
theorem dX9_holds_101 : decode cX9_holds 101 = .ok (.iconst 1, 1) := by decide +kernel
theorem dX9_holds_102 : decode cX9_holds 102 = .ok (.goto 4, 3) := by decide +kernel
theorem dX9_holds_105 : decode cX9_holds 105 = .ok (.iconst 0, 1) := by decide +kernel
theorem dX9_holds_106 : decode cX9_holds 106 = .ok (.ireturn, 1) := by decide +kernel
theorem dX9_warns_0 : decode cX9_warns 0 = .ok (.iconst 0, 1) := by decide +kernel
theorem dX9_warns_1 : decode cX9_warns 1 = .ok (.istore_n 3, 1) := by decide +kernel
theorem dX9_warns_2 : decode cX9_warns 2 = .ok (.iconst 0, 1) := by decide +kernel
theorem dX9_warns_3 : decode cX9_warns 3 = .ok (.istore 4, 2) := by decide +kernel
theorem dX9_warns_5 : decode cX9_warns 5 = .ok (.iconst 0, 1) := by decide +kernel
theorem dX9_warns_6 : decode cX9_warns 6 = .ok (.istore 5, 2) := by decide +kernel
theorem dX9_warns_8 : decode cX9_warns 8 = .ok (.aload_n 0, 1) := by decide +kernel
theorem dX9_warns_9 : decode cX9_warns 9 = .ok (.iconst (-1), 1) := by decide +kernel
theorem dX9_warns_10 : decode cX9_warns 10 = .ok (.putfield 183, 3) := by decide +kernel
theorem dX9_warns_13 : decode cX9_warns 13 = .ok (.iconst 0, 1) := by decide +kernel
theorem dX9_warns_14 : decode cX9_warns 14 = .ok (.istore 6, 2) := by decide +kernel
theorem dX9_warns_16 : decode cX9_warns 16 = .ok (.iload 6, 2) := by decide +kernel
theorem dX9_warns_18 : decode cX9_warns 18 = .ok (.aload_n 0, 1) := by decide +kernel
theorem dX9_warns_19 : decode cX9_warns 19 = .ok (.getfield 81, 3) := by decide +kernel
theorem dX9_warns_22 : decode cX9_warns 22 = .ok (.if_icmp .ge 84, 3) := by decide +kernel
theorem dX9_warns_25 : decode cX9_warns 25 = .ok (.aload_n 0, 1) := by decide +kernel
theorem dX9_warns_26 : decode cX9_warns 26 = .ok (.getfield 16, 3) := by decide +kernel
theorem dX9_warns_29 : decode cX9_warns 29 = .ok (.iload 6, 2) := by decide +kernel
theorem dX9_warns_31 : decode cX9_warns 31 = .ok (.iaload, 1) := by decide +kernel
theorem dX9_warns_32 : decode cX9_warns 32 = .ok (.iload_n 1, 1) := by decide +kernel
theorem dX9_warns_33 : decode cX9_warns 33 = .ok (.if_icmp .eq 6, 3) := by decide +kernel
theorem dX9_warns_36 : decode cX9_warns 36 = .ok (.goto 64, 3) := by decide +kernel
theorem dX9_warns_39 : decode cX9_warns 39 = .ok (.iload_n 3, 1) := by decide +kernel
theorem dX9_warns_40 : decode cX9_warns 40 = .ok (.aload_n 0, 1) := by decide +kernel
theorem dX9_warns_41 : decode cX9_warns 41 = .ok (.getfield 9, 3) := by decide +kernel
theorem dX9_warns_44 : decode cX9_warns 44 = .ok (.iload 6, 2) := by decide +kernel
theorem dX9_warns_46 : decode cX9_warns 46 = .ok (.iaload, 1) := by decide +kernel
theorem dX9_warns_47 : decode cX9_warns 47 = .ok (.iadd, 1) := by decide +kernel
theorem dX9_warns_48 : decode cX9_warns 48 = .ok (.istore_n 3, 1) := by decide +kernel
theorem dX9_warns_49 : decode cX9_warns 49 = .ok (.iload 4, 2) := by decide +kernel
theorem dX9_warns_51 : decode cX9_warns 51 = .ok (.aload_n 0, 1) := by decide +kernel
theorem dX9_warns_52 : decode cX9_warns 52 = .ok (.getfield 13, 3) := by decide +kernel
theorem dX9_warns_55 : decode cX9_warns 55 = .ok (.iload 6, 2) := by decide +kernel
theorem dX9_warns_57 : decode cX9_warns 57 = .ok (.iaload, 1) := by decide +kernel
theorem dX9_warns_58 : decode cX9_warns 58 = .ok (.iadd, 1) := by decide +kernel
theorem dX9_warns_59 : decode cX9_warns 59 = .ok (.istore 4, 2) := by decide +kernel
theorem dX9_warns_61 : decode cX9_warns 61 = .ok (.iinc 5 1, 3) := by decide +kernel
theorem dX9_warns_64 : decode cX9_warns 64 = .ok (.aload_n 0, 1) := by decide +kernel
theorem dX9_warns_65 : decode cX9_warns 65 = .ok (.iload 6, 2) := by decide +kernel
theorem dX9_warns_67 : decode cX9_warns 67 = .ok (.iload_n 2, 1) := by decide +kernel
theorem dX9_warns_68 : decode cX9_warns 68 = .ok (.aload_n 0, 1) := by decide +kernel
theorem dX9_warns_69 : decode cX9_warns 69 = .ok (.getfield 92, 3) := by decide +kernel
theorem dX9_warns_72 : decode cX9_warns 72 = .ok (.invokevirtual 102, 3) := by decide +kernel
theorem dX9_warns_75 : decode cX9_warns 75 = .ok (.istore 7, 2) := by decide +kernel
theorem dX9_warns_77 : decode cX9_warns 77 = .ok (.iload 7, 2) := by decide +kernel
theorem dX9_warns_79 : decode cX9_warns 79 = .ok (.ifCond .lt 21, 3) := by decide +kernel
theorem dX9_warns_82 : decode cX9_warns 82 = .ok (.aload_n 0, 1) := by decide +kernel
theorem dX9_warns_83 : decode cX9_warns 83 = .ok (.aload_n 0, 1) := by decide +kernel
theorem dX9_warns_84 : decode cX9_warns 84 = .ok (.getfield 183, 3) := by decide +kernel
theorem dX9_warns_87 : decode cX9_warns 87 = .ok (.aload_n 0, 1) := by decide +kernel
theorem dX9_warns_88 : decode cX9_warns 88 = .ok (.getfield 31, 3) := by decide +kernel
theorem dX9_warns_91 : decode cX9_warns 91 = .ok (.iload 7, 2) := by decide +kernel
theorem dX9_warns_93 : decode cX9_warns 93 = .ok (.iaload, 1) := by decide +kernel
theorem dX9_warns_94 : decode cX9_warns 94 = .ok (.invokestatic 106, 3) := by decide +kernel
theorem dX9_warns_97 : decode cX9_warns 97 = .ok (.putfield 183, 3) := by decide +kernel
theorem dX9_warns_100 : decode cX9_warns 100 = .ok (.iinc 6 1, 3) := by decide +kernel
theorem dX9_warns_103 : decode cX9_warns 103 = .ok (.goto (-87), 3) := by decide +kernel
theorem dX9_warns_106 : decode cX9_warns 106 = .ok (.iload 5, 2) := by decide +kernel
theorem dX9_warns_108 : decode cX9_warns 108 = .ok (.ifCond .ne 4, 3) := by decide +kernel
theorem dX9_warns_111 : decode cX9_warns 111 = .ok (.return_, 1) := by decide +kernel
theorem dX9_warns_112 : decode cX9_warns 112 = .ok (.aload_n 0, 1) := by decide +kernel
theorem dX9_warns_113 : decode cX9_warns 113 = .ok (.aload_n 0, 1) := by decide +kernel
theorem dX9_warns_114 : decode cX9_warns 114 = .ok (.iload_n 3, 1) := by decide +kernel
theorem dX9_warns_115 : decode cX9_warns 115 = .ok (.iload 5, 2) := by decide +kernel
theorem dX9_warns_117 : decode cX9_warns 117 = .ok (.idiv, 1) := by decide +kernel
theorem dX9_warns_118 : decode cX9_warns 118 = .ok (.iload 4, 2) := by decide +kernel
theorem dX9_warns_120 : decode cX9_warns 120 = .ok (.iload 5, 2) := by decide +kernel
theorem dX9_warns_122 : decode cX9_warns 122 = .ok (.idiv, 1) := by decide +kernel
theorem dX9_warns_123 : decode cX9_warns 123 = .ok (.iload_n 2, 1) := by decide +kernel
theorem dX9_warns_124 : decode cX9_warns 124 = .ok (.iconst 1, 1) := by decide +kernel
theorem dX9_warns_125 : decode cX9_warns 125 = .ok (.isub, 1) := by decide +kernel
theorem dX9_warns_126 : decode cX9_warns 126 = .ok (.aload_n 0, 1) := by decide +kernel
theorem dX9_warns_127 : decode cX9_warns 127 = .ok (.getfield 92, 3) := by decide +kernel
theorem dX9_warns_130 : decode cX9_warns 130 = .ok (.invokevirtual 112, 3) := by decide +kernel
theorem dX9_warns_133 : decode cX9_warns 133 = .ok (.putfield 177, 3) := by decide +kernel
theorem dX9_warns_136 : decode cX9_warns 136 = .ok (.aload_n 0, 1) := by decide +kernel
theorem dX9_warns_137 : decode cX9_warns 137 = .ok (.aload_n 0, 1) := by decide +kernel
theorem dX9_warns_138 : decode cX9_warns 138 = .ok (.iload_n 3, 1) := by decide +kernel
theorem dX9_warns_139 : decode cX9_warns 139 = .ok (.iload 5, 2) := by decide +kernel
theorem dX9_warns_141 : decode cX9_warns 141 = .ok (.idiv, 1) := by decide +kernel
theorem dX9_warns_142 : decode cX9_warns 142 = .ok (.iload 4, 2) := by decide +kernel
theorem dX9_warns_144 : decode cX9_warns 144 = .ok (.iload 5, 2) := by decide +kernel
theorem dX9_warns_146 : decode cX9_warns 146 = .ok (.idiv, 1) := by decide +kernel
theorem dX9_warns_147 : decode cX9_warns 147 = .ok (.iload_n 2, 1) := by decide +kernel
theorem dX9_warns_148 : decode cX9_warns 148 = .ok (.aload_n 0, 1) := by decide +kernel
theorem dX9_warns_149 : decode cX9_warns 149 = .ok (.getfield 92, 3) := by decide +kernel
theorem dX9_warns_152 : decode cX9_warns 152 = .ok (.invokevirtual 112, 3) := by decide +kernel
theorem dX9_warns_155 : decode cX9_warns 155 = .ok (.putfield 180, 3) := by decide +kernel
theorem dX9_warns_158 : decode cX9_warns 158 = .ok (.iconst 0, 1) := by decide +kernel
theorem dX9_warns_159 : decode cX9_warns 159 = .ok (.istore 6, 2) := by decide +kernel
theorem dX9_warns_161 : decode cX9_warns 161 = .ok (.iload 6, 2) := by decide +kernel
theorem dX9_warns_163 : decode cX9_warns 163 = .ok (.aload_n 0, 1) := by decide +kernel
theorem dX9_warns_164 : decode cX9_warns 164 = .ok (.getfield 174, 3) := by decide +kernel
theorem dX9_warns_167 : decode cX9_warns 167 = .ok (.if_icmp .ge 174, 3) := by decide +kernel
theorem dX9_warns_170 : decode cX9_warns 170 = .ok (.iconst 1, 1) := by decide +kernel
theorem dX9_warns_171 : decode cX9_warns 171 = .ok (.istore 7, 2) := by decide +kernel
theorem dX9_warns_173 : decode cX9_warns 173 = .ok (.iconst 0, 1) := by decide +kernel
theorem dX9_warns_174 : decode cX9_warns 174 = .ok (.istore 8, 2) := by decide +kernel
theorem dX9_warns_176 : decode cX9_warns 176 = .ok (.iload 8, 2) := by decide +kernel
theorem dX9_warns_178 : decode cX9_warns 178 = .ok (.aload_n 0, 1) := by decide +kernel
theorem dX9_warns_179 : decode cX9_warns 179 = .ok (.getfield 40, 3) := by decide +kernel
theorem dX9_warns_182 : decode cX9_warns 182 = .ok (.iload 6, 2) := by decide +kernel
theorem dX9_warns_184 : decode cX9_warns 184 = .ok (.iaload, 1) := by decide +kernel
theorem dX9_warns_185 : decode cX9_warns 185 = .ok (.if_icmp .ge 53, 3) := by decide +kernel
theorem dX9_warns_188 : decode cX9_warns 188 = .ok (.iload 7, 2) := by decide +kernel
theorem dX9_warns_190 : decode cX9_warns 190 = .ok (.ifCond .eq 39, 3) := by decide +kernel
theorem dX9_warns_193 : decode cX9_warns 193 = .ok (.aload_n 0, 1) := by decide +kernel
theorem dX9_warns_194 : decode cX9_warns 194 = .ok (.iload_n 1, 1) := by decide +kernel
theorem dX9_warns_195 : decode cX9_warns 195 = .ok (.aload_n 0, 1) := by decide +kernel
theorem dX9_warns_196 : decode cX9_warns 196 = .ok (.getfield 43, 3) := by decide +kernel
theorem dX9_warns_199 : decode cX9_warns 199 = .ok (.iconst 4, 1) := by decide +kernel
theorem dX9_warns_200 : decode cX9_warns 200 = .ok (.iload 6, 2) := by decide +kernel
theorem dX9_warns_202 : decode cX9_warns 202 = .ok (.imul, 1) := by decide +kernel
theorem dX9_warns_203 : decode cX9_warns 203 = .ok (.iload 8, 2) := by decide +kernel
theorem dX9_warns_205 : decode cX9_warns 205 = .ok (.iadd, 1) := by decide +kernel
theorem dX9_warns_206 : decode cX9_warns 206 = .ok (.iaload, 1) := by decide +kernel
theorem dX9_warns_207 : decode cX9_warns 207 = .ok (.aload_n 0, 1) := by decide +kernel
theorem dX9_warns_208 : decode cX9_warns 208 = .ok (.getfield 46, 3) := by decide +kernel
theorem dX9_warns_211 : decode cX9_warns 211 = .ok (.iconst 4, 1) := by decide +kernel
theorem dX9_warns_212 : decode cX9_warns 212 = .ok (.iload 6, 2) := by decide +kernel
theorem dX9_warns_214 : decode cX9_warns 214 = .ok (.imul, 1) := by decide +kernel
theorem dX9_warns_215 : decode cX9_warns 215 = .ok (.iload 8, 2) := by decide +kernel
theorem dX9_warns_217 : decode cX9_warns 217 = .ok (.iadd, 1) := by decide +kernel
theorem dX9_warns_218 : decode cX9_warns 218 = .ok (.iaload, 1) := by decide +kernel
theorem dX9_warns_219 : decode cX9_warns 219 = .ok (.invokevirtual 186, 3) := by decide +kernel
theorem dX9_warns_222 : decode cX9_warns 222 = .ok (.ifCond .eq 7, 3) := by decide +kernel
theorem dX9_warns_225 : decode cX9_warns 225 = .ok (.iconst 1, 1) := by decide +kernel
theorem dX9_warns_226 : decode cX9_warns 226 = .ok (.goto 4, 3) := by decide +kernel
theorem dX9_warns_229 : decode cX9_warns 229 = .ok (.iconst 0, 1) := by decide +kernel
theorem dX9_warns_230 : decode cX9_warns 230 = .ok (.istore 7, 2) := by decide +kernel
theorem dX9_warns_232 : decode cX9_warns 232 = .ok (.iinc 8 1, 3) := by decide +kernel
theorem dX9_warns_235 : decode cX9_warns 235 = .ok (.goto (-59), 3) := by decide +kernel
theorem dX9_warns_238 : decode cX9_warns 238 = .ok (.iload 7, 2) := by decide +kernel
theorem dX9_warns_240 : decode cX9_warns 240 = .ok (.ifCond .eq 95, 3) := by decide +kernel
theorem dX9_warns_243 : decode cX9_warns 243 = .ok (.aload_n 0, 1) := by decide +kernel
theorem dX9_warns_244 : decode cX9_warns 244 = .ok (.getfield 189, 3) := by decide +kernel
theorem dX9_warns_247 : decode cX9_warns 247 = .ok (.sipush 200, 3) := by decide +kernel
theorem dX9_warns_250 : decode cX9_warns 250 = .ok (.if_icmp .ne 6, 3) := by decide +kernel
theorem dX9_warns_253 : decode cX9_warns 253 = .ok (.goto 82, 3) := by decide +kernel
theorem dX9_warns_256 : decode cX9_warns 256 = .ok (.iconst 5, 1) := by decide +kernel
theorem dX9_warns_257 : decode cX9_warns 257 = .ok (.aload_n 0, 1) := by decide +kernel
theorem dX9_warns_258 : decode cX9_warns 258 = .ok (.getfield 189, 3) := by decide +kernel
theorem dX9_warns_261 : decode cX9_warns 261 = .ok (.imul, 1) := by decide +kernel
theorem dX9_warns_262 : decode cX9_warns 262 = .ok (.istore 8, 2) := by decide +kernel
theorem dX9_warns_264 : decode cX9_warns 264 = .ok (.aload_n 0, 1) := by decide +kernel
theorem dX9_warns_265 : decode cX9_warns 265 = .ok (.getfield 60, 3) := by decide +kernel
theorem dX9_warns_268 : decode cX9_warns 268 = .ok (.iload 8, 2) := by decide +kernel
theorem dX9_warns_270 : decode cX9_warns 270 = .ok (.aload_n 0, 1) := by decide +kernel
theorem dX9_warns_271 : decode cX9_warns 271 = .ok (.getfield 92, 3) := by decide +kernel
theorem dX9_warns_274 : decode cX9_warns 274 = .ok (.iastore, 1) := by decide +kernel
theorem dX9_warns_275 : decode cX9_warns 275 = .ok (.aload_n 0, 1) := by decide +kernel
theorem dX9_warns_276 : decode cX9_warns 276 = .ok (.getfield 60, 3) := by decide +kernel
theorem dX9_warns_279 : decode cX9_warns 279 = .ok (.iload 8, 2) := by decide +kernel
theorem dX9_warns_281 : decode cX9_warns 281 = .ok (.iconst 1, 1) := by decide +kernel
theorem dX9_warns_282 : decode cX9_warns 282 = .ok (.iadd, 1) := by decide +kernel
theorem dX9_warns_283 : decode cX9_warns 283 = .ok (.iload_n 1, 1) := by decide +kernel
theorem dX9_warns_284 : decode cX9_warns 284 = .ok (.iastore, 1) := by decide +kernel
theorem dX9_warns_285 : decode cX9_warns 285 = .ok (.aload_n 0, 1) := by decide +kernel
theorem dX9_warns_286 : decode cX9_warns 286 = .ok (.getfield 60, 3) := by decide +kernel
theorem dX9_warns_289 : decode cX9_warns 289 = .ok (.iload 8, 2) := by decide +kernel
theorem dX9_warns_291 : decode cX9_warns 291 = .ok (.iconst 2, 1) := by decide +kernel
theorem dX9_warns_292 : decode cX9_warns 292 = .ok (.iadd, 1) := by decide +kernel
theorem dX9_warns_293 : decode cX9_warns 293 = .ok (.aload_n 0, 1) := by decide +kernel
theorem dX9_warns_294 : decode cX9_warns 294 = .ok (.getfield 37, 3) := by decide +kernel
theorem dX9_warns_297 : decode cX9_warns 297 = .ok (.iload 6, 2) := by decide +kernel
theorem dX9_warns_299 : decode cX9_warns 299 = .ok (.iaload, 1) := by decide +kernel
theorem dX9_warns_300 : decode cX9_warns 300 = .ok (.iastore, 1) := by decide +kernel
theorem dX9_warns_301 : decode cX9_warns 301 = .ok (.aload_n 0, 1) := by decide +kernel
theorem dX9_warns_302 : decode cX9_warns 302 = .ok (.getfield 60, 3) := by decide +kernel
theorem dX9_warns_305 : decode cX9_warns 305 = .ok (.iload 8, 2) := by decide +kernel
theorem dX9_warns_307 : decode cX9_warns 307 = .ok (.iconst 3, 1) := by decide +kernel
theorem dX9_warns_308 : decode cX9_warns 308 = .ok (.iadd, 1) := by decide +kernel
theorem dX9_warns_309 : decode cX9_warns 309 = .ok (.iload 6, 2) := by decide +kernel
theorem dX9_warns_311 : decode cX9_warns 311 = .ok (.iastore, 1) := by decide +kernel
theorem dX9_warns_312 : decode cX9_warns 312 = .ok (.aload_n 0, 1) := by decide +kernel
theorem dX9_warns_313 : decode cX9_warns 313 = .ok (.getfield 60, 3) := by decide +kernel
theorem dX9_warns_316 : decode cX9_warns 316 = .ok (.iload 8, 2) := by decide +kernel
theorem dX9_warns_318 : decode cX9_warns 318 = .ok (.iconst 4, 1) := by decide +kernel
theorem dX9_warns_319 : decode cX9_warns 319 = .ok (.iadd, 1) := by decide +kernel
theorem dX9_warns_320 : decode cX9_warns 320 = .ok (.aload_n 0, 1) := by decide +kernel
theorem dX9_warns_321 : decode cX9_warns 321 = .ok (.getfield 81, 3) := by decide +kernel
theorem dX9_warns_324 : decode cX9_warns 324 = .ok (.iastore, 1) := by decide +kernel
theorem dX9_warns_325 : decode cX9_warns 325 = .ok (.aload_n 0, 1) := by decide +kernel
theorem dX9_warns_326 : decode cX9_warns 326 = .ok (.dup, 1) := by decide +kernel
theorem dX9_warns_327 : decode cX9_warns 327 = .ok (.getfield 189, 3) := by decide +kernel
theorem dX9_warns_330 : decode cX9_warns 330 = .ok (.iconst 1, 1) := by decide +kernel
theorem dX9_warns_331 : decode cX9_warns 331 = .ok (.iadd, 1) := by decide +kernel
theorem dX9_warns_332 : decode cX9_warns 332 = .ok (.putfield 189, 3) := by decide +kernel
theorem dX9_warns_335 : decode cX9_warns 335 = .ok (.iinc 6 1, 3) := by decide +kernel
theorem dX9_warns_338 : decode cX9_warns 338 = .ok (.goto (-177), 3) := by decide +kernel
theorem dX9_warns_341 : decode cX9_warns 341 = .ok (.return_, 1) := by decide +kernel
theorem dX9_reaches_0 : decode cX9_reaches 0 = .ok (.aload_n 0, 1) := by decide +kernel
theorem dX9_reaches_1 : decode cX9_reaches 1 = .ok (.getfield 60, 3) := by decide +kernel
theorem dX9_reaches_4 : decode cX9_reaches 4 = .ok (.iconst 5, 1) := by decide +kernel
theorem dX9_reaches_5 : decode cX9_reaches 5 = .ok (.iload_n 1, 1) := by decide +kernel
theorem dX9_reaches_6 : decode cX9_reaches 6 = .ok (.imul, 1) := by decide +kernel
theorem dX9_reaches_7 : decode cX9_reaches 7 = .ok (.iconst 1, 1) := by decide +kernel
theorem dX9_reaches_8 : decode cX9_reaches 8 = .ok (.iadd, 1) := by decide +kernel
theorem dX9_reaches_9 : decode cX9_reaches 9 = .ok (.iaload, 1) := by decide +kernel
theorem dX9_reaches_10 : decode cX9_reaches 10 = .ok (.aload_n 0, 1) := by decide +kernel
theorem dX9_reaches_11 : decode cX9_reaches 11 = .ok (.getfield 16, 3) := by decide +kernel
theorem dX9_reaches_14 : decode cX9_reaches 14 = .ok (.iload_n 2, 1) := by decide +kernel
theorem dX9_reaches_15 : decode cX9_reaches 15 = .ok (.iaload, 1) := by decide +kernel
theorem dX9_reaches_16 : decode cX9_reaches 16 = .ok (.if_icmp .ne 35, 3) := by decide +kernel
theorem dX9_reaches_19 : decode cX9_reaches 19 = .ok (.iload_n 2, 1) := by decide +kernel
theorem dX9_reaches_20 : decode cX9_reaches 20 = .ok (.aload_n 0, 1) := by decide +kernel
theorem dX9_reaches_21 : decode cX9_reaches 21 = .ok (.getfield 60, 3) := by decide +kernel
theorem dX9_reaches_24 : decode cX9_reaches 24 = .ok (.iconst 5, 1) := by decide +kernel
theorem dX9_reaches_25 : decode cX9_reaches 25 = .ok (.iload_n 1, 1) := by decide +kernel
theorem dX9_reaches_26 : decode cX9_reaches 26 = .ok (.imul, 1) := by decide +kernel
theorem dX9_reaches_27 : decode cX9_reaches 27 = .ok (.iconst 4, 1) := by decide +kernel
theorem dX9_reaches_28 : decode cX9_reaches 28 = .ok (.iadd, 1) := by decide +kernel
theorem dX9_reaches_29 : decode cX9_reaches 29 = .ok (.iaload, 1) := by decide +kernel
theorem dX9_reaches_30 : decode cX9_reaches 30 = .ok (.if_icmp .ge 21, 3) := by decide +kernel
theorem dX9_reaches_33 : decode cX9_reaches 33 = .ok (.aload_n 0, 1) := by decide +kernel
theorem dX9_reaches_34 : decode cX9_reaches 34 = .ok (.getfield 60, 3) := by decide +kernel
theorem dX9_reaches_37 : decode cX9_reaches 37 = .ok (.iconst 5, 1) := by decide +kernel
theorem dX9_reaches_38 : decode cX9_reaches 38 = .ok (.iload_n 1, 1) := by decide +kernel
theorem dX9_reaches_39 : decode cX9_reaches 39 = .ok (.imul, 1) := by decide +kernel
theorem dX9_reaches_40 : decode cX9_reaches 40 = .ok (.iaload, 1) := by decide +kernel
theorem dX9_reaches_41 : decode cX9_reaches 41 = .ok (.aload_n 0, 1) := by decide +kernel
theorem dX9_reaches_42 : decode cX9_reaches 42 = .ok (.getfield 19, 3) := by decide +kernel
theorem dX9_reaches_45 : decode cX9_reaches 45 = .ok (.iload_n 2, 1) := by decide +kernel
theorem dX9_reaches_46 : decode cX9_reaches 46 = .ok (.iaload, 1) := by decide +kernel
theorem dX9_reaches_47 : decode cX9_reaches 47 = .ok (.iadd, 1) := by decide +kernel
theorem dX9_reaches_48 : decode cX9_reaches 48 = .ok (.goto 4, 3) := by decide +kernel
theorem dX9_reaches_51 : decode cX9_reaches 51 = .ok (.iconst (-1), 1) := by decide +kernel
theorem dX9_reaches_52 : decode cX9_reaches 52 = .ok (.ireturn, 1) := by decide +kernel
theorem dX9_fliesAt_0 : decode cX9_fliesAt 0 = .ok (.iconst 0, 1) := by decide +kernel
theorem dX9_fliesAt_1 : decode cX9_fliesAt 1 = .ok (.istore_n 3, 1) := by decide +kernel
theorem dX9_fliesAt_2 : decode cX9_fliesAt 2 = .ok (.iconst 0, 1) := by decide +kernel
theorem dX9_fliesAt_3 : decode cX9_fliesAt 3 = .ok (.istore 4, 2) := by decide +kernel
theorem dX9_fliesAt_5 : decode cX9_fliesAt 5 = .ok (.iload 4, 2) := by decide +kernel
theorem dX9_fliesAt_7 : decode cX9_fliesAt 7 = .ok (.aload_n 0, 1) := by decide +kernel
theorem dX9_fliesAt_8 : decode cX9_fliesAt 8 = .ok (.getfield 189, 3) := by decide +kernel
theorem dX9_fliesAt_11 : decode cX9_fliesAt 11 = .ok (.if_icmp .ge 54, 3) := by decide +kernel
theorem dX9_fliesAt_14 : decode cX9_fliesAt 14 = .ok (.aload_n 0, 1) := by decide +kernel
theorem dX9_fliesAt_15 : decode cX9_fliesAt 15 = .ok (.iload 4, 2) := by decide +kernel
theorem dX9_fliesAt_17 : decode cX9_fliesAt 17 = .ok (.iload_n 1, 1) := by decide +kernel
theorem dX9_fliesAt_18 : decode cX9_fliesAt 18 = .ok (.invokevirtual 192, 3) := by decide +kernel
theorem dX9_fliesAt_21 : decode cX9_fliesAt 21 = .ok (.istore 5, 2) := by decide +kernel
theorem dX9_fliesAt_23 : decode cX9_fliesAt 23 = .ok (.iload 5, 2) := by decide +kernel
theorem dX9_fliesAt_25 : decode cX9_fliesAt 25 = .ok (.ifCond .lt 34, 3) := by decide +kernel
theorem dX9_fliesAt_28 : decode cX9_fliesAt 28 = .ok (.iload_n 2, 1) := by decide +kernel
theorem dX9_fliesAt_29 : decode cX9_fliesAt 29 = .ok (.iload 5, 2) := by decide +kernel
theorem dX9_fliesAt_31 : decode cX9_fliesAt 31 = .ok (.if_icmp .lt 28, 3) := by decide +kernel
theorem dX9_fliesAt_34 : decode cX9_fliesAt 34 = .ok (.iload_n 2, 1) := by decide +kernel
theorem dX9_fliesAt_35 : decode cX9_fliesAt 35 = .ok (.iload 5, 2) := by decide +kernel
theorem dX9_fliesAt_37 : decode cX9_fliesAt 37 = .ok (.isub, 1) := by decide +kernel
theorem dX9_fliesAt_38 : decode cX9_fliesAt 38 = .ok (.bipush 24, 2) := by decide +kernel
theorem dX9_fliesAt_40 : decode cX9_fliesAt 40 = .ok (.if_icmp .ge 19, 3) := by decide +kernel
theorem dX9_fliesAt_43 : decode cX9_fliesAt 43 = .ok (.iload_n 3, 1) := by decide +kernel
theorem dX9_fliesAt_44 : decode cX9_fliesAt 44 = .ok (.iconst 1, 1) := by decide +kernel
theorem dX9_fliesAt_45 : decode cX9_fliesAt 45 = .ok (.aload_n 0, 1) := by decide +kernel
theorem dX9_fliesAt_46 : decode cX9_fliesAt 46 = .ok (.getfield 60, 3) := by decide +kernel
theorem dX9_fliesAt_49 : decode cX9_fliesAt 49 = .ok (.iconst 5, 1) := by decide +kernel
theorem dX9_fliesAt_50 : decode cX9_fliesAt 50 = .ok (.iload 4, 2) := by decide +kernel
theorem dX9_fliesAt_52 : decode cX9_fliesAt 52 = .ok (.imul, 1) := by decide +kernel
theorem dX9_fliesAt_53 : decode cX9_fliesAt 53 = .ok (.iconst 2, 1) := by decide +kernel
theorem dX9_fliesAt_54 : decode cX9_fliesAt 54 = .ok (.iadd, 1) := by decide +kernel
theorem dX9_fliesAt_55 : decode cX9_fliesAt 55 = .ok (.iaload, 1) := by decide +kernel
theorem dX9_fliesAt_56 : decode cX9_fliesAt 56 = .ok (.ishl, 1) := by decide +kernel
theorem dX9_fliesAt_57 : decode cX9_fliesAt 57 = .ok (.ior, 1) := by decide +kernel
theorem dX9_fliesAt_58 : decode cX9_fliesAt 58 = .ok (.istore_n 3, 1) := by decide +kernel
theorem dX9_fliesAt_59 : decode cX9_fliesAt 59 = .ok (.iinc 4 1, 3) := by decide +kernel
theorem dX9_fliesAt_62 : decode cX9_fliesAt 62 = .ok (.goto (-57), 3) := by decide +kernel
theorem dX9_fliesAt_65 : decode cX9_fliesAt 65 = .ok (.iload_n 3, 1) := by decide +kernel
theorem dX9_fliesAt_66 : decode cX9_fliesAt 66 = .ok (.ireturn, 1) := by decide +kernel
theorem dX9_gale_0 : decode cX9_gale 0 = .ok (.aload_n 0, 1) := by decide +kernel
theorem dX9_gale_1 : decode cX9_gale 1 = .ok (.iconst 0, 1) := by decide +kernel
theorem dX9_gale_2 : decode cX9_gale 2 = .ok (.putfield 78, 3) := by decide +kernel
theorem dX9_gale_5 : decode cX9_gale 5 = .ok (.aload_n 0, 1) := by decide +kernel
theorem dX9_gale_6 : decode cX9_gale 6 = .ok (.aload_n 0, 1) := by decide +kernel
theorem dX9_gale_7 : decode cX9_gale 7 = .ok (.iload_n 1, 1) := by decide +kernel
theorem dX9_gale_8 : decode cX9_gale 8 = .ok (.invokevirtual 95, 3) := by decide +kernel
theorem dX9_gale_11 : decode cX9_gale 11 = .ok (.iconst 1, 1) := by decide +kernel
theorem dX9_gale_12 : decode cX9_gale 12 = .ok (.invokevirtual 88, 3) := by decide +kernel
theorem dX9_gale_15 : decode cX9_gale 15 = .ok (.ifCond .ne 70, 3) := by decide +kernel
theorem dX9_gale_18 : decode cX9_gale 18 = .ok (.aload_n 0, 1) := by decide +kernel
theorem dX9_gale_19 : decode cX9_gale 19 = .ok (.iload_n 2, 1) := by decide +kernel
theorem dX9_gale_20 : decode cX9_gale 20 = .ok (.aload_n 0, 1) := by decide +kernel
theorem dX9_gale_21 : decode cX9_gale 21 = .ok (.getfield 92, 3) := by decide +kernel
theorem dX9_gale_24 : decode cX9_gale 24 = .ok (.if_icmp .le 27, 3) := by decide +kernel
theorem dX9_gale_27 : decode cX9_gale 27 = .ok (.iload_n 3, 1) := by decide +kernel
theorem dX9_gale_28 : decode cX9_gale 28 = .ok (.iload_n 2, 1) := by decide +kernel
theorem dX9_gale_29 : decode cX9_gale 29 = .ok (.if_icmp .lt 22, 3) := by decide +kernel
theorem dX9_gale_32 : decode cX9_gale 32 = .ok (.iload_n 3, 1) := by decide +kernel
theorem dX9_gale_33 : decode cX9_gale 33 = .ok (.sipush 2000, 3) := by decide +kernel
theorem dX9_gale_36 : decode cX9_gale 36 = .ok (.if_icmp .gt 15, 3) := by decide +kernel
theorem dX9_gale_39 : decode cX9_gale 39 = .ok (.iload 4, 2) := by decide +kernel
theorem dX9_gale_41 : decode cX9_gale 41 = .ok (.bipush 8, 2) := by decide +kernel
theorem dX9_gale_43 : decode cX9_gale 43 = .ok (.bipush 12, 2) := by decide +kernel
theorem dX9_gale_45 : decode cX9_gale 45 = .ok (.invokestatic 84, 3) := by decide +kernel
theorem dX9_gale_48 : decode cX9_gale 48 = .ok (.ifCond .ne 7, 3) := by decide +kernel
theorem dX9_gale_51 : decode cX9_gale 51 = .ok (.iconst 1, 1) := by decide +kernel
theorem dX9_gale_52 : decode cX9_gale 52 = .ok (.goto 4, 3) := by decide +kernel
theorem dX9_gale_55 : decode cX9_gale 55 = .ok (.iconst 0, 1) := by decide +kernel
theorem dX9_gale_56 : decode cX9_gale 56 = .ok (.iconst 2, 1) := by decide +kernel
theorem dX9_gale_57 : decode cX9_gale 57 = .ok (.invokevirtual 88, 3) := by decide +kernel
theorem dX9_gale_60 : decode cX9_gale 60 = .ok (.ifCond .ne 25, 3) := by decide +kernel
theorem dX9_gale_63 : decode cX9_gale 63 = .ok (.aload_n 0, 1) := by decide +kernel
theorem dX9_gale_64 : decode cX9_gale 64 = .ok (.aload_n 0, 1) := by decide +kernel
theorem dX9_gale_65 : decode cX9_gale 65 = .ok (.getfield 195, 3) := by decide +kernel
theorem dX9_gale_68 : decode cX9_gale 68 = .ok (.bipush 30, 2) := by decide +kernel
theorem dX9_gale_70 : decode cX9_gale 70 = .ok (.if_icmp .ne 7, 3) := by decide +kernel
theorem dX9_gale_73 : decode cX9_gale 73 = .ok (.iconst 1, 1) := by decide +kernel
theorem dX9_gale_74 : decode cX9_gale 74 = .ok (.goto 4, 3) := by decide +kernel
theorem dX9_gale_77 : decode cX9_gale 77 = .ok (.iconst 0, 1) := by decide +kernel
theorem dX9_gale_78 : decode cX9_gale 78 = .ok (.iconst 3, 1) := by decide +kernel
theorem dX9_gale_79 : decode cX9_gale 79 = .ok (.invokevirtual 88, 3) := by decide +kernel
theorem dX9_gale_82 : decode cX9_gale 82 = .ok (.ifCond .eq 5, 3) := by decide +kernel
theorem dX9_gale_85 : decode cX9_gale 85 = .ok (.iconst 0, 1) := by decide +kernel
theorem dX9_gale_86 : decode cX9_gale 86 = .ok (.ireturn, 1) := by decide +kernel
theorem dX9_gale_87 : decode cX9_gale 87 = .ok (.aload_n 0, 1) := by decide +kernel
theorem dX9_gale_88 : decode cX9_gale 88 = .ok (.getfield 63, 3) := by decide +kernel
theorem dX9_gale_91 : decode cX9_gale 91 = .ok (.aload_n 0, 1) := by decide +kernel
theorem dX9_gale_92 : decode cX9_gale 92 = .ok (.getfield 195, 3) := by decide +kernel
theorem dX9_gale_95 : decode cX9_gale 95 = .ok (.iload_n 1, 1) := by decide +kernel
theorem dX9_gale_96 : decode cX9_gale 96 = .ok (.iastore, 1) := by decide +kernel
theorem dX9_gale_97 : decode cX9_gale 97 = .ok (.aload_n 0, 1) := by decide +kernel
theorem dX9_gale_98 : decode cX9_gale 98 = .ok (.getfield 66, 3) := by decide +kernel
theorem dX9_gale_101 : decode cX9_gale 101 = .ok (.aload_n 0, 1) := by decide +kernel
theorem dX9_gale_102 : decode cX9_gale 102 = .ok (.getfield 195, 3) := by decide +kernel
theorem dX9_gale_105 : decode cX9_gale 105 = .ok (.iload_n 2, 1) := by decide +kernel
theorem dX9_gale_106 : decode cX9_gale 106 = .ok (.iastore, 1) := by decide +kernel
theorem dX9_gale_107 : decode cX9_gale 107 = .ok (.aload_n 0, 1) := by decide +kernel
theorem dX9_gale_108 : decode cX9_gale 108 = .ok (.getfield 69, 3) := by decide +kernel
theorem dX9_gale_111 : decode cX9_gale 111 = .ok (.aload_n 0, 1) := by decide +kernel
theorem dX9_gale_112 : decode cX9_gale 112 = .ok (.getfield 195, 3) := by decide +kernel
theorem dX9_gale_115 : decode cX9_gale 115 = .ok (.iload_n 3, 1) := by decide +kernel
theorem dX9_gale_116 : decode cX9_gale 116 = .ok (.iastore, 1) := by decide +kernel
theorem dX9_gale_117 : decode cX9_gale 117 = .ok (.aload_n 0, 1) := by decide +kernel
theorem dX9_gale_118 : decode cX9_gale 118 = .ok (.getfield 72, 3) := by decide +kernel
theorem dX9_gale_121 : decode cX9_gale 121 = .ok (.aload_n 0, 1) := by decide +kernel
theorem dX9_gale_122 : decode cX9_gale 122 = .ok (.getfield 195, 3) := by decide +kernel
theorem dX9_gale_125 : decode cX9_gale 125 = .ok (.iload 4, 2) := by decide +kernel
theorem dX9_gale_127 : decode cX9_gale 127 = .ok (.iastore, 1) := by decide +kernel
theorem dX9_gale_128 : decode cX9_gale 128 = .ok (.aload_n 0, 1) := by decide +kernel
theorem dX9_gale_129 : decode cX9_gale 129 = .ok (.dup, 1) := by decide +kernel
theorem dX9_gale_130 : decode cX9_gale 130 = .ok (.getfield 195, 3) := by decide +kernel
theorem dX9_gale_133 : decode cX9_gale 133 = .ok (.iconst 1, 1) := by decide +kernel
theorem dX9_gale_134 : decode cX9_gale 134 = .ok (.iadd, 1) := by decide +kernel
theorem dX9_gale_135 : decode cX9_gale 135 = .ok (.putfield 195, 3) := by decide +kernel
theorem dX9_gale_138 : decode cX9_gale 138 = .ok (.aload_n 0, 1) := by decide +kernel
theorem dX9_gale_139 : decode cX9_gale 139 = .ok (.getfield 195, 3) := by decide +kernel
theorem dX9_gale_142 : decode cX9_gale 142 = .ok (.iconst 1, 1) := by decide +kernel
theorem dX9_gale_143 : decode cX9_gale 143 = .ok (.isub, 1) := by decide +kernel
theorem dX9_gale_144 : decode cX9_gale 144 = .ok (.ireturn, 1) := by decide +kernel
theorem dX9_boat_0 : decode cX9_boat 0 = .ok (.aload_n 0, 1) := by decide +kernel
theorem dX9_boat_1 : decode cX9_boat 1 = .ok (.iconst 0, 1) := by decide +kernel
theorem dX9_boat_2 : decode cX9_boat 2 = .ok (.putfield 78, 3) := by decide +kernel
theorem dX9_boat_5 : decode cX9_boat 5 = .ok (.aload_n 0, 1) := by decide +kernel
theorem dX9_boat_6 : decode cX9_boat 6 = .ok (.aload_n 0, 1) := by decide +kernel
theorem dX9_boat_7 : decode cX9_boat 7 = .ok (.iload_n 1, 1) := by decide +kernel
theorem dX9_boat_8 : decode cX9_boat 8 = .ok (.invokevirtual 95, 3) := by decide +kernel
theorem dX9_boat_11 : decode cX9_boat 11 = .ok (.iconst 1, 1) := by decide +kernel
theorem dX9_boat_12 : decode cX9_boat 12 = .ok (.invokevirtual 88, 3) := by decide +kernel
theorem dX9_boat_15 : decode cX9_boat 15 = .ok (.ifCond .ne 58, 3) := by decide +kernel
theorem dX9_boat_18 : decode cX9_boat 18 = .ok (.aload_n 0, 1) := by decide +kernel
theorem dX9_boat_19 : decode cX9_boat 19 = .ok (.iload_n 2, 1) := by decide +kernel
theorem dX9_boat_20 : decode cX9_boat 20 = .ok (.iconst 0, 1) := by decide +kernel
theorem dX9_boat_21 : decode cX9_boat 21 = .ok (.iconst 2, 1) := by decide +kernel
theorem dX9_boat_22 : decode cX9_boat 22 = .ok (.invokestatic 84, 3) := by decide +kernel
theorem dX9_boat_25 : decode cX9_boat 25 = .ok (.ifCond .eq 14, 3) := by decide +kernel
theorem dX9_boat_28 : decode cX9_boat 28 = .ok (.iload_n 3, 1) := by decide +kernel
theorem dX9_boat_29 : decode cX9_boat 29 = .ok (.bipush 8, 2) := by decide +kernel
theorem dX9_boat_31 : decode cX9_boat 31 = .ok (.bipush 13, 2) := by decide +kernel
theorem dX9_boat_33 : decode cX9_boat 33 = .ok (.invokestatic 84, 3) := by decide +kernel
theorem dX9_boat_36 : decode cX9_boat 36 = .ok (.ifCond .ne 7, 3) := by decide +kernel
theorem dX9_boat_39 : decode cX9_boat 39 = .ok (.iconst 1, 1) := by decide +kernel
theorem dX9_boat_40 : decode cX9_boat 40 = .ok (.goto 4, 3) := by decide +kernel
theorem dX9_boat_43 : decode cX9_boat 43 = .ok (.iconst 0, 1) := by decide +kernel
theorem dX9_boat_44 : decode cX9_boat 44 = .ok (.iconst 2, 1) := by decide +kernel
theorem dX9_boat_45 : decode cX9_boat 45 = .ok (.invokevirtual 88, 3) := by decide +kernel
theorem dX9_boat_48 : decode cX9_boat 48 = .ok (.ifCond .ne 25, 3) := by decide +kernel
theorem dX9_boat_51 : decode cX9_boat 51 = .ok (.aload_n 0, 1) := by decide +kernel
theorem dX9_boat_52 : decode cX9_boat 52 = .ok (.aload_n 0, 1) := by decide +kernel
theorem dX9_boat_53 : decode cX9_boat 53 = .ok (.getfield 198, 3) := by decide +kernel
theorem dX9_boat_56 : decode cX9_boat 56 = .ok (.bipush 12, 2) := by decide +kernel
theorem dX9_boat_58 : decode cX9_boat 58 = .ok (.if_icmp .ne 7, 3) := by decide +kernel
theorem dX9_boat_61 : decode cX9_boat 61 = .ok (.iconst 1, 1) := by decide +kernel
theorem dX9_boat_62 : decode cX9_boat 62 = .ok (.goto 4, 3) := by decide +kernel
theorem dX9_boat_65 : decode cX9_boat 65 = .ok (.iconst 0, 1) := by decide +kernel
theorem dX9_boat_66 : decode cX9_boat 66 = .ok (.iconst 3, 1) := by decide +kernel
theorem dX9_boat_67 : decode cX9_boat 67 = .ok (.invokevirtual 88, 3) := by decide +kernel
theorem dX9_boat_70 : decode cX9_boat 70 = .ok (.ifCond .eq 5, 3) := by decide +kernel
theorem dX9_boat_73 : decode cX9_boat 73 = .ok (.iconst 0, 1) := by decide +kernel
theorem dX9_boat_74 : decode cX9_boat 74 = .ok (.ireturn, 1) := by decide +kernel
theorem dX9_boat_75 : decode cX9_boat 75 = .ok (.aload_n 0, 1) := by decide +kernel
theorem dX9_boat_76 : decode cX9_boat 76 = .ok (.getfield 75, 3) := by decide +kernel
theorem dX9_boat_79 : decode cX9_boat 79 = .ok (.bipush 8, 2) := by decide +kernel
theorem dX9_boat_81 : decode cX9_boat 81 = .ok (.aload_n 0, 1) := by decide +kernel
theorem dX9_boat_82 : decode cX9_boat 82 = .ok (.getfield 198, 3) := by decide +kernel
theorem dX9_boat_85 : decode cX9_boat 85 = .ok (.imul, 1) := by decide +kernel
theorem dX9_boat_86 : decode cX9_boat 86 = .ok (.iload_n 1, 1) := by decide +kernel
theorem dX9_boat_87 : decode cX9_boat 87 = .ok (.iastore, 1) := by decide +kernel
theorem dX9_boat_88 : decode cX9_boat 88 = .ok (.aload_n 0, 1) := by decide +kernel
theorem dX9_boat_89 : decode cX9_boat 89 = .ok (.getfield 75, 3) := by decide +kernel
theorem dX9_boat_92 : decode cX9_boat 92 = .ok (.bipush 8, 2) := by decide +kernel
theorem dX9_boat_94 : decode cX9_boat 94 = .ok (.aload_n 0, 1) := by decide +kernel
theorem dX9_boat_95 : decode cX9_boat 95 = .ok (.getfield 198, 3) := by decide +kernel
theorem dX9_boat_98 : decode cX9_boat 98 = .ok (.imul, 1) := by decide +kernel
theorem dX9_boat_99 : decode cX9_boat 99 = .ok (.iconst 1, 1) := by decide +kernel
theorem dX9_boat_100 : decode cX9_boat 100 = .ok (.iadd, 1) := by decide +kernel
theorem dX9_boat_101 : decode cX9_boat 101 = .ok (.iload_n 2, 1) := by decide +kernel
theorem dX9_boat_102 : decode cX9_boat 102 = .ok (.iastore, 1) := by decide +kernel
theorem dX9_boat_103 : decode cX9_boat 103 = .ok (.aload_n 0, 1) := by decide +kernel
theorem dX9_boat_104 : decode cX9_boat 104 = .ok (.getfield 75, 3) := by decide +kernel
theorem dX9_boat_107 : decode cX9_boat 107 = .ok (.bipush 8, 2) := by decide +kernel
theorem dX9_boat_109 : decode cX9_boat 109 = .ok (.aload_n 0, 1) := by decide +kernel
theorem dX9_boat_110 : decode cX9_boat 110 = .ok (.getfield 198, 3) := by decide +kernel
theorem dX9_boat_113 : decode cX9_boat 113 = .ok (.imul, 1) := by decide +kernel
theorem dX9_boat_114 : decode cX9_boat 114 = .ok (.iconst 2, 1) := by decide +kernel
theorem dX9_boat_115 : decode cX9_boat 115 = .ok (.iadd, 1) := by decide +kernel
theorem dX9_boat_116 : decode cX9_boat 116 = .ok (.iload_n 3, 1) := by decide +kernel
theorem dX9_boat_117 : decode cX9_boat 117 = .ok (.iastore, 1) := by decide +kernel
theorem dX9_boat_118 : decode cX9_boat 118 = .ok (.aload_n 0, 1) := by decide +kernel
theorem dX9_boat_119 : decode cX9_boat 119 = .ok (.dup, 1) := by decide +kernel
theorem dX9_boat_120 : decode cX9_boat 120 = .ok (.getfield 198, 3) := by decide +kernel
theorem dX9_boat_123 : decode cX9_boat 123 = .ok (.iconst 1, 1) := by decide +kernel
theorem dX9_boat_124 : decode cX9_boat 124 = .ok (.iadd, 1) := by decide +kernel
theorem dX9_boat_125 : decode cX9_boat 125 = .ok (.putfield 198, 3) := by decide +kernel
theorem dX9_boat_128 : decode cX9_boat 128 = .ok (.aload_n 0, 1) := by decide +kernel
theorem dX9_boat_129 : decode cX9_boat 129 = .ok (.getfield 198, 3) := by decide +kernel
theorem dX9_boat_132 : decode cX9_boat 132 = .ok (.iconst 1, 1) := by decide +kernel
theorem dX9_boat_133 : decode cX9_boat 133 = .ok (.isub, 1) := by decide +kernel
theorem dX9_boat_134 : decode cX9_boat 134 = .ok (.ireturn, 1) := by decide +kernel
theorem dX9_noBoat_0 : decode cX9_noBoat 0 = .ok (.iload_n 1, 1) := by decide +kernel
theorem dX9_noBoat_1 : decode cX9_noBoat 1 = .ok (.iconst 0, 1) := by decide +kernel
theorem dX9_noBoat_2 : decode cX9_noBoat 2 = .ok (.aload_n 0, 1) := by decide +kernel
theorem dX9_noBoat_3 : decode cX9_noBoat 3 = .ok (.getfield 198, 3) := by decide +kernel
theorem dX9_noBoat_6 : decode cX9_noBoat 6 = .ok (.iconst 1, 1) := by decide +kernel
theorem dX9_noBoat_7 : decode cX9_noBoat 7 = .ok (.isub, 1) := by decide +kernel
theorem dX9_noBoat_8 : decode cX9_noBoat 8 = .ok (.invokestatic 84, 3) := by decide +kernel
theorem dX9_noBoat_11 : decode cX9_noBoat 11 = .ok (.ifCond .ne 7, 3) := by decide +kernel
theorem dX9_noBoat_14 : decode cX9_noBoat 14 = .ok (.iconst 1, 1) := by decide +kernel
theorem dX9_noBoat_15 : decode cX9_noBoat 15 = .ok (.goto 4, 3) := by decide +kernel
theorem dX9_noBoat_18 : decode cX9_noBoat 18 = .ok (.iconst 0, 1) := by decide +kernel
theorem dX9_noBoat_19 : decode cX9_noBoat 19 = .ok (.ireturn, 1) := by decide +kernel
theorem dX9_trip_0 : decode cX9_trip 0 = .ok (.aload_n 0, 1) := by decide +kernel
theorem dX9_trip_1 : decode cX9_trip 1 = .ok (.iconst 0, 1) := by decide +kernel
theorem dX9_trip_2 : decode cX9_trip 2 = .ok (.putfield 78, 3) := by decide +kernel
theorem dX9_trip_5 : decode cX9_trip 5 = .ok (.aload_n 0, 1) := by decide +kernel
theorem dX9_trip_6 : decode cX9_trip 6 = .ok (.aload_n 0, 1) := by decide +kernel
theorem dX9_trip_7 : decode cX9_trip 7 = .ok (.iload_n 1, 1) := by decide +kernel
theorem dX9_trip_8 : decode cX9_trip 8 = .ok (.invokevirtual 201, 3) := by decide +kernel
theorem dX9_trip_11 : decode cX9_trip 11 = .ok (.iconst 1, 1) := by decide +kernel
theorem dX9_trip_12 : decode cX9_trip 12 = .ok (.invokevirtual 88, 3) := by decide +kernel
theorem dX9_trip_15 : decode cX9_trip 15 = .ok (.ifCond .ne 55, 3) := by decide +kernel
theorem dX9_trip_18 : decode cX9_trip 18 = .ok (.aload_n 0, 1) := by decide +kernel
theorem dX9_trip_19 : decode cX9_trip 19 = .ok (.iload_n 2, 1) := by decide +kernel
theorem dX9_trip_20 : decode cX9_trip 20 = .ok (.aload_n 0, 1) := by decide +kernel
theorem dX9_trip_21 : decode cX9_trip 21 = .ok (.getfield 92, 3) := by decide +kernel
theorem dX9_trip_24 : decode cX9_trip 24 = .ok (.if_icmp .le 20, 3) := by decide +kernel
theorem dX9_trip_27 : decode cX9_trip 27 = .ok (.iload_n 2, 1) := by decide +kernel
theorem dX9_trip_28 : decode cX9_trip 28 = .ok (.sipush 2000, 3) := by decide +kernel
theorem dX9_trip_31 : decode cX9_trip 31 = .ok (.if_icmp .gt 13, 3) := by decide +kernel
theorem dX9_trip_34 : decode cX9_trip 34 = .ok (.iload_n 3, 1) := by decide +kernel
theorem dX9_trip_35 : decode cX9_trip 35 = .ok (.iconst 1, 1) := by decide +kernel
theorem dX9_trip_36 : decode cX9_trip 36 = .ok (.bipush 48, 2) := by decide +kernel
theorem dX9_trip_38 : decode cX9_trip 38 = .ok (.invokestatic 84, 3) := by decide +kernel
theorem dX9_trip_41 : decode cX9_trip 41 = .ok (.ifCond .ne 7, 3) := by decide +kernel
theorem dX9_trip_44 : decode cX9_trip 44 = .ok (.iconst 1, 1) := by decide +kernel
theorem dX9_trip_45 : decode cX9_trip 45 = .ok (.goto 4, 3) := by decide +kernel
theorem dX9_trip_48 : decode cX9_trip 48 = .ok (.iconst 0, 1) := by decide +kernel
theorem dX9_trip_49 : decode cX9_trip 49 = .ok (.iconst 2, 1) := by decide +kernel
theorem dX9_trip_50 : decode cX9_trip 50 = .ok (.invokevirtual 88, 3) := by decide +kernel
theorem dX9_trip_53 : decode cX9_trip 53 = .ok (.ifCond .ne 17, 3) := by decide +kernel
theorem dX9_trip_56 : decode cX9_trip 56 = .ok (.aload_n 0, 1) := by decide +kernel
theorem dX9_trip_57 : decode cX9_trip 57 = .ok (.getfield 75, 3) := by decide +kernel
theorem dX9_trip_60 : decode cX9_trip 60 = .ok (.bipush 8, 2) := by decide +kernel
theorem dX9_trip_62 : decode cX9_trip 62 = .ok (.iload_n 1, 1) := by decide +kernel
theorem dX9_trip_63 : decode cX9_trip 63 = .ok (.imul, 1) := by decide +kernel
theorem dX9_trip_64 : decode cX9_trip 64 = .ok (.iconst 3, 1) := by decide +kernel
theorem dX9_trip_65 : decode cX9_trip 65 = .ok (.iadd, 1) := by decide +kernel
theorem dX9_trip_66 : decode cX9_trip 66 = .ok (.iaload, 1) := by decide +kernel
theorem dX9_trip_67 : decode cX9_trip 67 = .ok (.ifCond .eq 5, 3) := by decide +kernel
theorem dX9_trip_70 : decode cX9_trip 70 = .ok (.iconst 0, 1) := by decide +kernel
theorem dX9_trip_71 : decode cX9_trip 71 = .ok (.ireturn, 1) := by decide +kernel
theorem dX9_trip_72 : decode cX9_trip 72 = .ok (.aload_n 0, 1) := by decide +kernel
theorem dX9_trip_73 : decode cX9_trip 73 = .ok (.getfield 75, 3) := by decide +kernel
theorem dX9_trip_76 : decode cX9_trip 76 = .ok (.bipush 8, 2) := by decide +kernel
theorem dX9_trip_78 : decode cX9_trip 78 = .ok (.iload_n 1, 1) := by decide +kernel
theorem dX9_trip_79 : decode cX9_trip 79 = .ok (.imul, 1) := by decide +kernel
theorem dX9_trip_80 : decode cX9_trip 80 = .ok (.iconst 3, 1) := by decide +kernel
theorem dX9_trip_81 : decode cX9_trip 81 = .ok (.iadd, 1) := by decide +kernel
theorem dX9_trip_82 : decode cX9_trip 82 = .ok (.iconst 1, 1) := by decide +kernel
theorem dX9_trip_83 : decode cX9_trip 83 = .ok (.iastore, 1) := by decide +kernel
theorem dX9_trip_84 : decode cX9_trip 84 = .ok (.aload_n 0, 1) := by decide +kernel
theorem dX9_trip_85 : decode cX9_trip 85 = .ok (.getfield 75, 3) := by decide +kernel
theorem dX9_trip_88 : decode cX9_trip 88 = .ok (.bipush 8, 2) := by decide +kernel
theorem dX9_trip_90 : decode cX9_trip 90 = .ok (.iload_n 1, 1) := by decide +kernel
theorem dX9_trip_91 : decode cX9_trip 91 = .ok (.imul, 1) := by decide +kernel
theorem dX9_trip_92 : decode cX9_trip 92 = .ok (.iconst 4, 1) := by decide +kernel
theorem dX9_trip_93 : decode cX9_trip 93 = .ok (.iadd, 1) := by decide +kernel
theorem dX9_trip_94 : decode cX9_trip 94 = .ok (.iload_n 2, 1) := by decide +kernel
theorem dX9_trip_95 : decode cX9_trip 95 = .ok (.iastore, 1) := by decide +kernel
theorem dX9_trip_96 : decode cX9_trip 96 = .ok (.aload_n 0, 1) := by decide +kernel
theorem dX9_trip_97 : decode cX9_trip 97 = .ok (.getfield 75, 3) := by decide +kernel
theorem dX9_trip_100 : decode cX9_trip 100 = .ok (.bipush 8, 2) := by decide +kernel
theorem dX9_trip_102 : decode cX9_trip 102 = .ok (.iload_n 1, 1) := by decide +kernel
theorem dX9_trip_103 : decode cX9_trip 103 = .ok (.imul, 1) := by decide +kernel
theorem dX9_trip_104 : decode cX9_trip 104 = .ok (.iconst 5, 1) := by decide +kernel
theorem dX9_trip_105 : decode cX9_trip 105 = .ok (.iadd, 1) := by decide +kernel
theorem dX9_trip_106 : decode cX9_trip 106 = .ok (.iload_n 3, 1) := by decide +kernel
theorem dX9_trip_107 : decode cX9_trip 107 = .ok (.iastore, 1) := by decide +kernel
theorem dX9_trip_108 : decode cX9_trip 108 = .ok (.iconst 1, 1) := by decide +kernel
theorem dX9_trip_109 : decode cX9_trip 109 = .ok (.ireturn, 1) := by decide +kernel
theorem dX9_meetsGale_0 : decode cX9_meetsGale 0 = .ok (.iconst 0, 1) := by decide +kernel
theorem dX9_meetsGale_1 : decode cX9_meetsGale 1 = .ok (.istore_n 3, 1) := by decide +kernel
theorem dX9_meetsGale_2 : decode cX9_meetsGale 2 = .ok (.iconst 0, 1) := by decide +kernel
theorem dX9_meetsGale_3 : decode cX9_meetsGale 3 = .ok (.istore 4, 2) := by decide +kernel
theorem dX9_meetsGale_5 : decode cX9_meetsGale 5 = .ok (.iload 4, 2) := by decide +kernel
theorem dX9_meetsGale_7 : decode cX9_meetsGale 7 = .ok (.aload_n 0, 1) := by decide +kernel
theorem dX9_meetsGale_8 : decode cX9_meetsGale 8 = .ok (.getfield 195, 3) := by decide +kernel
theorem dX9_meetsGale_11 : decode cX9_meetsGale 11 = .ok (.if_icmp .ge 65, 3) := by decide +kernel
theorem dX9_meetsGale_14 : decode cX9_meetsGale 14 = .ok (.iload_n 3, 1) := by decide +kernel
theorem dX9_meetsGale_15 : decode cX9_meetsGale 15 = .ok (.ifCond .ne 49, 3) := by decide +kernel
theorem dX9_meetsGale_18 : decode cX9_meetsGale 18 = .ok (.aload_n 0, 1) := by decide +kernel
theorem dX9_meetsGale_19 : decode cX9_meetsGale 19 = .ok (.getfield 63, 3) := by decide +kernel
theorem dX9_meetsGale_22 : decode cX9_meetsGale 22 = .ok (.iload 4, 2) := by decide +kernel
theorem dX9_meetsGale_24 : decode cX9_meetsGale 24 = .ok (.iaload, 1) := by decide +kernel
theorem dX9_meetsGale_25 : decode cX9_meetsGale 25 = .ok (.iload_n 1, 1) := by decide +kernel
theorem dX9_meetsGale_26 : decode cX9_meetsGale 26 = .ok (.if_icmp .ne 42, 3) := by decide +kernel
theorem dX9_meetsGale_29 : decode cX9_meetsGale 29 = .ok (.aload_n 0, 1) := by decide +kernel
theorem dX9_meetsGale_30 : decode cX9_meetsGale 30 = .ok (.getfield 92, 3) := by decide +kernel
theorem dX9_meetsGale_33 : decode cX9_meetsGale 33 = .ok (.aload_n 0, 1) := by decide +kernel
theorem dX9_meetsGale_34 : decode cX9_meetsGale 34 = .ok (.getfield 66, 3) := by decide +kernel
theorem dX9_meetsGale_37 : decode cX9_meetsGale 37 = .ok (.iload 4, 2) := by decide +kernel
theorem dX9_meetsGale_39 : decode cX9_meetsGale 39 = .ok (.iaload, 1) := by decide +kernel
theorem dX9_meetsGale_40 : decode cX9_meetsGale 40 = .ok (.aload_n 0, 1) := by decide +kernel
theorem dX9_meetsGale_41 : decode cX9_meetsGale 41 = .ok (.getfield 69, 3) := by decide +kernel
theorem dX9_meetsGale_44 : decode cX9_meetsGale 44 = .ok (.iload 4, 2) := by decide +kernel
theorem dX9_meetsGale_46 : decode cX9_meetsGale 46 = .ok (.iaload, 1) := by decide +kernel
theorem dX9_meetsGale_47 : decode cX9_meetsGale 47 = .ok (.invokestatic 84, 3) := by decide +kernel
theorem dX9_meetsGale_50 : decode cX9_meetsGale 50 = .ok (.ifCond .eq 18, 3) := by decide +kernel
theorem dX9_meetsGale_53 : decode cX9_meetsGale 53 = .ok (.aload_n 0, 1) := by decide +kernel
theorem dX9_meetsGale_54 : decode cX9_meetsGale 54 = .ok (.getfield 72, 3) := by decide +kernel
theorem dX9_meetsGale_57 : decode cX9_meetsGale 57 = .ok (.iload 4, 2) := by decide +kernel
theorem dX9_meetsGale_59 : decode cX9_meetsGale 59 = .ok (.iaload, 1) := by decide +kernel
theorem dX9_meetsGale_60 : decode cX9_meetsGale 60 = .ok (.iload_n 2, 1) := by decide +kernel
theorem dX9_meetsGale_61 : decode cX9_meetsGale 61 = .ok (.if_icmp .lt 7, 3) := by decide +kernel
theorem dX9_meetsGale_64 : decode cX9_meetsGale 64 = .ok (.iconst 1, 1) := by decide +kernel
theorem dX9_meetsGale_65 : decode cX9_meetsGale 65 = .ok (.goto 4, 3) := by decide +kernel
theorem dX9_meetsGale_68 : decode cX9_meetsGale 68 = .ok (.iconst 0, 1) := by decide +kernel
theorem dX9_meetsGale_69 : decode cX9_meetsGale 69 = .ok (.istore_n 3, 1) := by decide +kernel
theorem dX9_meetsGale_70 : decode cX9_meetsGale 70 = .ok (.iinc 4 1, 3) := by decide +kernel
theorem dX9_meetsGale_73 : decode cX9_meetsGale 73 = .ok (.goto (-68), 3) := by decide +kernel
theorem dX9_meetsGale_76 : decode cX9_meetsGale 76 = .ok (.iload_n 3, 1) := by decide +kernel
theorem dX9_meetsGale_77 : decode cX9_meetsGale 77 = .ok (.ireturn, 1) := by decide +kernel
theorem dX9_goes_0 : decode cX9_goes 0 = .ok (.bipush 8, 2) := by decide +kernel
theorem dX9_goes_2 : decode cX9_goes 2 = .ok (.iload_n 1, 1) := by decide +kernel
theorem dX9_goes_3 : decode cX9_goes 3 = .ok (.imul, 1) := by decide +kernel
theorem dX9_goes_4 : decode cX9_goes 4 = .ok (.istore_n 2, 1) := by decide +kernel
theorem dX9_goes_5 : decode cX9_goes 5 = .ok (.aload_n 0, 1) := by decide +kernel
theorem dX9_goes_6 : decode cX9_goes 6 = .ok (.getfield 75, 3) := by decide +kernel
theorem dX9_goes_9 : decode cX9_goes 9 = .ok (.iload_n 2, 1) := by decide +kernel
theorem dX9_goes_10 : decode cX9_goes 10 = .ok (.iconst 3, 1) := by decide +kernel
theorem dX9_goes_11 : decode cX9_goes 11 = .ok (.iadd, 1) := by decide +kernel
theorem dX9_goes_12 : decode cX9_goes 12 = .ok (.iaload, 1) := by decide +kernel
theorem dX9_goes_13 : decode cX9_goes 13 = .ok (.iconst 2, 1) := by decide +kernel
theorem dX9_goes_14 : decode cX9_goes 14 = .ok (.if_icmp .ne 36, 3) := by decide +kernel
theorem dX9_goes_17 : decode cX9_goes 17 = .ok (.aload_n 0, 1) := by decide +kernel
theorem dX9_goes_18 : decode cX9_goes 18 = .ok (.getfield 92, 3) := by decide +kernel
theorem dX9_goes_21 : decode cX9_goes 21 = .ok (.aload_n 0, 1) := by decide +kernel
theorem dX9_goes_22 : decode cX9_goes 22 = .ok (.getfield 75, 3) := by decide +kernel
theorem dX9_goes_25 : decode cX9_goes 25 = .ok (.iload_n 2, 1) := by decide +kernel
theorem dX9_goes_26 : decode cX9_goes 26 = .ok (.iconst 4, 1) := by decide +kernel
theorem dX9_goes_27 : decode cX9_goes 27 = .ok (.iadd, 1) := by decide +kernel
theorem dX9_goes_28 : decode cX9_goes 28 = .ok (.iaload, 1) := by decide +kernel
theorem dX9_goes_29 : decode cX9_goes 29 = .ok (.aload_n 0, 1) := by decide +kernel
theorem dX9_goes_30 : decode cX9_goes 30 = .ok (.getfield 75, 3) := by decide +kernel
theorem dX9_goes_33 : decode cX9_goes 33 = .ok (.iload_n 2, 1) := by decide +kernel
theorem dX9_goes_34 : decode cX9_goes 34 = .ok (.iconst 5, 1) := by decide +kernel
theorem dX9_goes_35 : decode cX9_goes 35 = .ok (.iadd, 1) := by decide +kernel
theorem dX9_goes_36 : decode cX9_goes 36 = .ok (.iaload, 1) := by decide +kernel
theorem dX9_goes_37 : decode cX9_goes 37 = .ok (.iadd, 1) := by decide +kernel
theorem dX9_goes_38 : decode cX9_goes 38 = .ok (.if_icmp .lt 12, 3) := by decide +kernel
theorem dX9_goes_41 : decode cX9_goes 41 = .ok (.aload_n 0, 1) := by decide +kernel
theorem dX9_goes_42 : decode cX9_goes 42 = .ok (.getfield 75, 3) := by decide +kernel
theorem dX9_goes_45 : decode cX9_goes 45 = .ok (.iload_n 2, 1) := by decide +kernel
theorem dX9_goes_46 : decode cX9_goes 46 = .ok (.iconst 3, 1) := by decide +kernel
theorem dX9_goes_47 : decode cX9_goes 47 = .ok (.iadd, 1) := by decide +kernel
theorem dX9_goes_48 : decode cX9_goes 48 = .ok (.iconst 0, 1) := by decide +kernel
theorem dX9_goes_49 : decode cX9_goes 49 = .ok (.iastore, 1) := by decide +kernel
theorem dX9_goes_50 : decode cX9_goes 50 = .ok (.aload_n 0, 1) := by decide +kernel
theorem dX9_goes_51 : decode cX9_goes 51 = .ok (.getfield 75, 3) := by decide +kernel
theorem dX9_goes_54 : decode cX9_goes 54 = .ok (.iload_n 2, 1) := by decide +kernel
theorem dX9_goes_55 : decode cX9_goes 55 = .ok (.iconst 3, 1) := by decide +kernel
theorem dX9_goes_56 : decode cX9_goes 56 = .ok (.iadd, 1) := by decide +kernel
theorem dX9_goes_57 : decode cX9_goes 57 = .ok (.iaload, 1) := by decide +kernel
theorem dX9_goes_58 : decode cX9_goes 58 = .ok (.iconst 1, 1) := by decide +kernel
theorem dX9_goes_59 : decode cX9_goes 59 = .ok (.if_icmp .ne 116, 3) := by decide +kernel
theorem dX9_goes_62 : decode cX9_goes 62 = .ok (.aload_n 0, 1) := by decide +kernel
theorem dX9_goes_63 : decode cX9_goes 63 = .ok (.getfield 75, 3) := by decide +kernel
theorem dX9_goes_66 : decode cX9_goes 66 = .ok (.iload_n 2, 1) := by decide +kernel
theorem dX9_goes_67 : decode cX9_goes 67 = .ok (.iconst 4, 1) := by decide +kernel
theorem dX9_goes_68 : decode cX9_goes 68 = .ok (.iadd, 1) := by decide +kernel
theorem dX9_goes_69 : decode cX9_goes 69 = .ok (.iaload, 1) := by decide +kernel
theorem dX9_goes_70 : decode cX9_goes 70 = .ok (.aload_n 0, 1) := by decide +kernel
theorem dX9_goes_71 : decode cX9_goes 71 = .ok (.getfield 92, 3) := by decide +kernel
theorem dX9_goes_74 : decode cX9_goes 74 = .ok (.if_icmp .ne 101, 3) := by decide +kernel
theorem dX9_goes_77 : decode cX9_goes 77 = .ok (.aload_n 0, 1) := by decide +kernel
theorem dX9_goes_78 : decode cX9_goes 78 = .ok (.aload_n 0, 1) := by decide +kernel
theorem dX9_goes_79 : decode cX9_goes 79 = .ok (.getfield 75, 3) := by decide +kernel
theorem dX9_goes_82 : decode cX9_goes 82 = .ok (.iload_n 2, 1) := by decide +kernel
theorem dX9_goes_83 : decode cX9_goes 83 = .ok (.iaload, 1) := by decide +kernel
theorem dX9_goes_84 : decode cX9_goes 84 = .ok (.aload_n 0, 1) := by decide +kernel
theorem dX9_goes_85 : decode cX9_goes 85 = .ok (.getfield 92, 3) := by decide +kernel
theorem dX9_goes_88 : decode cX9_goes 88 = .ok (.invokevirtual 204, 3) := by decide +kernel
theorem dX9_goes_91 : decode cX9_goes 91 = .ok (.istore_n 3, 1) := by decide +kernel
theorem dX9_goes_92 : decode cX9_goes 92 = .ok (.iload_n 3, 1) := by decide +kernel
theorem dX9_goes_93 : decode cX9_goes 93 = .ok (.iconst 2, 1) := by decide +kernel
theorem dX9_goes_94 : decode cX9_goes 94 = .ok (.iand, 1) := by decide +kernel
theorem dX9_goes_95 : decode cX9_goes 95 = .ok (.ifCond .eq 15, 3) := by decide +kernel
theorem dX9_goes_98 : decode cX9_goes 98 = .ok (.aload_n 0, 1) := by decide +kernel
theorem dX9_goes_99 : decode cX9_goes 99 = .ok (.getfield 75, 3) := by decide +kernel
theorem dX9_goes_102 : decode cX9_goes 102 = .ok (.iload_n 2, 1) := by decide +kernel
theorem dX9_goes_103 : decode cX9_goes 103 = .ok (.iconst 1, 1) := by decide +kernel
theorem dX9_goes_104 : decode cX9_goes 104 = .ok (.iadd, 1) := by decide +kernel
theorem dX9_goes_105 : decode cX9_goes 105 = .ok (.iaload, 1) := by decide +kernel
theorem dX9_goes_106 : decode cX9_goes 106 = .ok (.iconst 2, 1) := by decide +kernel
theorem dX9_goes_107 : decode cX9_goes 107 = .ok (.if_icmp .lt 20, 3) := by decide +kernel
theorem dX9_goes_110 : decode cX9_goes 110 = .ok (.iload_n 3, 1) := by decide +kernel
theorem dX9_goes_111 : decode cX9_goes 111 = .ok (.iconst 1, 1) := by decide +kernel
theorem dX9_goes_112 : decode cX9_goes 112 = .ok (.iand, 1) := by decide +kernel
theorem dX9_goes_113 : decode cX9_goes 113 = .ok (.ifCond .eq 18, 3) := by decide +kernel
theorem dX9_goes_116 : decode cX9_goes 116 = .ok (.aload_n 0, 1) := by decide +kernel
theorem dX9_goes_117 : decode cX9_goes 117 = .ok (.getfield 75, 3) := by decide +kernel
theorem dX9_goes_120 : decode cX9_goes 120 = .ok (.iload_n 2, 1) := by decide +kernel
theorem dX9_goes_121 : decode cX9_goes 121 = .ok (.iconst 1, 1) := by decide +kernel
theorem dX9_goes_122 : decode cX9_goes 122 = .ok (.iadd, 1) := by decide +kernel
theorem dX9_goes_123 : decode cX9_goes 123 = .ok (.iaload, 1) := by decide +kernel
theorem dX9_goes_124 : decode cX9_goes 124 = .ok (.ifCond .ne 7, 3) := by decide +kernel
theorem dX9_goes_127 : decode cX9_goes 127 = .ok (.iconst 1, 1) := by decide +kernel
theorem dX9_goes_128 : decode cX9_goes 128 = .ok (.goto 4, 3) := by decide +kernel
theorem dX9_goes_131 : decode cX9_goes 131 = .ok (.iconst 0, 1) := by decide +kernel
theorem dX9_goes_132 : decode cX9_goes 132 = .ok (.istore 4, 2) := by decide +kernel
theorem dX9_goes_134 : decode cX9_goes 134 = .ok (.aload_n 0, 1) := by decide +kernel
theorem dX9_goes_135 : decode cX9_goes 135 = .ok (.getfield 75, 3) := by decide +kernel
theorem dX9_goes_138 : decode cX9_goes 138 = .ok (.iload_n 2, 1) := by decide +kernel
theorem dX9_goes_139 : decode cX9_goes 139 = .ok (.iconst 3, 1) := by decide +kernel
theorem dX9_goes_140 : decode cX9_goes 140 = .ok (.iadd, 1) := by decide +kernel
theorem dX9_goes_141 : decode cX9_goes 141 = .ok (.iload 4, 2) := by decide +kernel
theorem dX9_goes_143 : decode cX9_goes 143 = .ok (.ifCond .eq 7, 3) := by decide +kernel
theorem dX9_goes_146 : decode cX9_goes 146 = .ok (.iconst 0, 1) := by decide +kernel
theorem dX9_goes_147 : decode cX9_goes 147 = .ok (.goto 4, 3) := by decide +kernel
theorem dX9_goes_150 : decode cX9_goes 150 = .ok (.iconst 2, 1) := by decide +kernel
theorem dX9_goes_151 : decode cX9_goes 151 = .ok (.iastore, 1) := by decide +kernel
theorem dX9_goes_152 : decode cX9_goes 152 = .ok (.aload_n 0, 1) := by decide +kernel
theorem dX9_goes_153 : decode cX9_goes 153 = .ok (.getfield 75, 3) := by decide +kernel
theorem dX9_goes_156 : decode cX9_goes 156 = .ok (.iload_n 2, 1) := by decide +kernel
theorem dX9_goes_157 : decode cX9_goes 157 = .ok (.iload 4, 2) := by decide +kernel
theorem dX9_goes_159 : decode cX9_goes 159 = .ok (.ifCond .eq 8, 3) := by decide +kernel
theorem dX9_goes_162 : decode cX9_goes 162 = .ok (.bipush 7, 2) := by decide +kernel
theorem dX9_goes_164 : decode cX9_goes 164 = .ok (.goto 5, 3) := by decide +kernel
theorem dX9_goes_167 : decode cX9_goes 167 = .ok (.bipush 6, 2) := by decide +kernel
theorem dX9_goes_169 : decode cX9_goes 169 = .ok (.iadd, 1) := by decide +kernel
theorem dX9_goes_170 : decode cX9_goes 170 = .ok (.dup2, 1) := by decide +kernel
theorem dX9_goes_171 : decode cX9_goes 171 = .ok (.iaload, 1) := by decide +kernel
theorem dX9_goes_172 : decode cX9_goes 172 = .ok (.iconst 1, 1) := by decide +kernel
theorem dX9_goes_173 : decode cX9_goes 173 = .ok (.iadd, 1) := by decide +kernel
theorem dX9_goes_174 : decode cX9_goes 174 = .ok (.iastore, 1) := by decide +kernel
theorem dX9_goes_175 : decode cX9_goes 175 = .ok (.aload_n 0, 1) := by decide +kernel
theorem dX9_goes_176 : decode cX9_goes 176 = .ok (.getfield 75, 3) := by decide +kernel
theorem dX9_goes_179 : decode cX9_goes 179 = .ok (.iload_n 2, 1) := by decide +kernel
theorem dX9_goes_180 : decode cX9_goes 180 = .ok (.iconst 3, 1) := by decide +kernel
theorem dX9_goes_181 : decode cX9_goes 181 = .ok (.iadd, 1) := by decide +kernel
theorem dX9_goes_182 : decode cX9_goes 182 = .ok (.iaload, 1) := by decide +kernel
theorem dX9_goes_183 : decode cX9_goes 183 = .ok (.iconst 2, 1) := by decide +kernel
theorem dX9_goes_184 : decode cX9_goes 184 = .ok (.if_icmp .ne 45, 3) := by decide +kernel
theorem dX9_goes_187 : decode cX9_goes 187 = .ok (.aload_n 0, 1) := by decide +kernel
theorem dX9_goes_188 : decode cX9_goes 188 = .ok (.aload_n 0, 1) := by decide +kernel
theorem dX9_goes_189 : decode cX9_goes 189 = .ok (.getfield 75, 3) := by decide +kernel
theorem dX9_goes_192 : decode cX9_goes 192 = .ok (.iload_n 2, 1) := by decide +kernel
theorem dX9_goes_193 : decode cX9_goes 193 = .ok (.iaload, 1) := by decide +kernel
theorem dX9_goes_194 : decode cX9_goes 194 = .ok (.aload_n 0, 1) := by decide +kernel
theorem dX9_goes_195 : decode cX9_goes 195 = .ok (.getfield 75, 3) := by decide +kernel
theorem dX9_goes_198 : decode cX9_goes 198 = .ok (.iload_n 2, 1) := by decide +kernel
theorem dX9_goes_199 : decode cX9_goes 199 = .ok (.iconst 2, 1) := by decide +kernel
theorem dX9_goes_200 : decode cX9_goes 200 = .ok (.iadd, 1) := by decide +kernel
theorem dX9_goes_201 : decode cX9_goes 201 = .ok (.iaload, 1) := by decide +kernel
theorem dX9_goes_202 : decode cX9_goes 202 = .ok (.invokevirtual 207, 3) := by decide +kernel
theorem dX9_goes_205 : decode cX9_goes 205 = .ok (.ifCond .eq 24, 3) := by decide +kernel
theorem dX9_goes_208 : decode cX9_goes 208 = .ok (.aload_n 0, 1) := by decide +kernel
theorem dX9_goes_209 : decode cX9_goes 209 = .ok (.getfield 75, 3) := by decide +kernel
theorem dX9_goes_212 : decode cX9_goes 212 = .ok (.iload_n 2, 1) := by decide +kernel
theorem dX9_goes_213 : decode cX9_goes 213 = .ok (.iconst 3, 1) := by decide +kernel
theorem dX9_goes_214 : decode cX9_goes 214 = .ok (.iadd, 1) := by decide +kernel
theorem dX9_goes_215 : decode cX9_goes 215 = .ok (.iconst 3, 1) := by decide +kernel
theorem dX9_goes_216 : decode cX9_goes 216 = .ok (.iastore, 1) := by decide +kernel
theorem dX9_goes_217 : decode cX9_goes 217 = .ok (.aload_n 0, 1) := by decide +kernel
theorem dX9_goes_218 : decode cX9_goes 218 = .ok (.getfield 75, 3) := by decide +kernel
theorem dX9_goes_221 : decode cX9_goes 221 = .ok (.iload_n 2, 1) := by decide +kernel
theorem dX9_goes_222 : decode cX9_goes 222 = .ok (.iconst 4, 1) := by decide +kernel
theorem dX9_goes_223 : decode cX9_goes 223 = .ok (.iadd, 1) := by decide +kernel
theorem dX9_goes_224 : decode cX9_goes 224 = .ok (.aload_n 0, 1) := by decide +kernel
theorem dX9_goes_225 : decode cX9_goes 225 = .ok (.getfield 92, 3) := by decide +kernel
theorem dX9_goes_228 : decode cX9_goes 228 = .ok (.iastore, 1) := by decide +kernel
theorem dX9_goes_229 : decode cX9_goes 229 = .ok (.return_, 1) := by decide +kernel
theorem dX9_hours_0 : decode cX9_hours 0 = .ok (.aload_n 0, 1) := by decide +kernel
theorem dX9_hours_1 : decode cX9_hours 1 = .ok (.iconst 0, 1) := by decide +kernel
theorem dX9_hours_2 : decode cX9_hours 2 = .ok (.putfield 78, 3) := by decide +kernel
theorem dX9_hours_5 : decode cX9_hours 5 = .ok (.aload_n 0, 1) := by decide +kernel
theorem dX9_hours_6 : decode cX9_hours 6 = .ok (.iload_n 1, 1) := by decide +kernel
theorem dX9_hours_7 : decode cX9_hours 7 = .ok (.iconst 0, 1) := by decide +kernel
theorem dX9_hours_8 : decode cX9_hours 8 = .ok (.sipush 200, 3) := by decide +kernel
theorem dX9_hours_11 : decode cX9_hours 11 = .ok (.invokestatic 84, 3) := by decide +kernel
theorem dX9_hours_14 : decode cX9_hours 14 = .ok (.ifCond .ne 7, 3) := by decide +kernel
theorem dX9_hours_17 : decode cX9_hours 17 = .ok (.iconst 1, 1) := by decide +kernel
theorem dX9_hours_18 : decode cX9_hours 18 = .ok (.goto 4, 3) := by decide +kernel
theorem dX9_hours_21 : decode cX9_hours 21 = .ok (.iconst 0, 1) := by decide +kernel
theorem dX9_hours_22 : decode cX9_hours 22 = .ok (.iconst 1, 1) := by decide +kernel
theorem dX9_hours_23 : decode cX9_hours 23 = .ok (.invokevirtual 88, 3) := by decide +kernel
theorem dX9_hours_26 : decode cX9_hours 26 = .ok (.ifCond .eq 5, 3) := by decide +kernel
theorem dX9_hours_29 : decode cX9_hours 29 = .ok (.iconst 0, 1) := by decide +kernel
theorem dX9_hours_30 : decode cX9_hours 30 = .ok (.ireturn, 1) := by decide +kernel
theorem dX9_hours_31 : decode cX9_hours 31 = .ok (.iconst 0, 1) := by decide +kernel
theorem dX9_hours_32 : decode cX9_hours 32 = .ok (.istore_n 2, 1) := by decide +kernel
theorem dX9_hours_33 : decode cX9_hours 33 = .ok (.iload_n 2, 1) := by decide +kernel
theorem dX9_hours_34 : decode cX9_hours 34 = .ok (.iload_n 1, 1) := by decide +kernel
theorem dX9_hours_35 : decode cX9_hours 35 = .ok (.if_icmp .ge 94, 3) := by decide +kernel
theorem dX9_hours_38 : decode cX9_hours 38 = .ok (.aload_n 0, 1) := by decide +kernel
theorem dX9_hours_39 : decode cX9_hours 39 = .ok (.getfield 92, 3) := by decide +kernel
theorem dX9_hours_42 : decode cX9_hours 42 = .ok (.sipush 2000, 3) := by decide +kernel
theorem dX9_hours_45 : decode cX9_hours 45 = .ok (.if_icmp .ge 84, 3) := by decide +kernel
theorem dX9_hours_48 : decode cX9_hours 48 = .ok (.aload_n 0, 1) := by decide +kernel
theorem dX9_hours_49 : decode cX9_hours 49 = .ok (.dup, 1) := by decide +kernel
theorem dX9_hours_50 : decode cX9_hours 50 = .ok (.getfield 92, 3) := by decide +kernel
theorem dX9_hours_53 : decode cX9_hours 53 = .ok (.iconst 1, 1) := by decide +kernel
theorem dX9_hours_54 : decode cX9_hours 54 = .ok (.iadd, 1) := by decide +kernel
theorem dX9_hours_55 : decode cX9_hours 55 = .ok (.putfield 92, 3) := by decide +kernel
theorem dX9_hours_58 : decode cX9_hours 58 = .ok (.aload_n 0, 1) := by decide +kernel
theorem dX9_hours_59 : decode cX9_hours 59 = .ok (.getfield 92, 3) := by decide +kernel
theorem dX9_hours_62 : decode cX9_hours 62 = .ok (.bipush 8, 2) := by decide +kernel
theorem dX9_hours_64 : decode cX9_hours 64 = .ok (.irem, 1) := by decide +kernel
theorem dX9_hours_65 : decode cX9_hours 65 = .ok (.iconst 2, 1) := by decide +kernel
theorem dX9_hours_66 : decode cX9_hours 66 = .ok (.if_icmp .ne 36, 3) := by decide +kernel
theorem dX9_hours_69 : decode cX9_hours 69 = .ok (.aload_n 0, 1) := by decide +kernel
theorem dX9_hours_70 : decode cX9_hours 70 = .ok (.getfield 92, 3) := by decide +kernel
theorem dX9_hours_73 : decode cX9_hours 73 = .ok (.iconst 2, 1) := by decide +kernel
theorem dX9_hours_74 : decode cX9_hours 74 = .ok (.if_icmp .le 28, 3) := by decide +kernel
theorem dX9_hours_77 : decode cX9_hours 77 = .ok (.iconst 0, 1) := by decide +kernel
theorem dX9_hours_78 : decode cX9_hours 78 = .ok (.istore_n 3, 1) := by decide +kernel
theorem dX9_hours_79 : decode cX9_hours 79 = .ok (.iload_n 3, 1) := by decide +kernel
theorem dX9_hours_80 : decode cX9_hours 80 = .ok (.iconst 4, 1) := by decide +kernel
theorem dX9_hours_81 : decode cX9_hours 81 = .ok (.if_icmp .ge 21, 3) := by decide +kernel
theorem dX9_hours_84 : decode cX9_hours 84 = .ok (.aload_n 0, 1) := by decide +kernel
theorem dX9_hours_85 : decode cX9_hours 85 = .ok (.iload_n 3, 1) := by decide +kernel
theorem dX9_hours_86 : decode cX9_hours 86 = .ok (.aload_n 0, 1) := by decide +kernel
theorem dX9_hours_87 : decode cX9_hours 87 = .ok (.getfield 92, 3) := by decide +kernel
theorem dX9_hours_90 : decode cX9_hours 90 = .ok (.bipush 8, 2) := by decide +kernel
theorem dX9_hours_92 : decode cX9_hours 92 = .ok (.idiv, 1) := by decide +kernel
theorem dX9_hours_93 : decode cX9_hours 93 = .ok (.invokevirtual 210, 3) := by decide +kernel
theorem dX9_hours_96 : decode cX9_hours 96 = .ok (.iinc 3 1, 3) := by decide +kernel
theorem dX9_hours_99 : decode cX9_hours 99 = .ok (.goto (-20), 3) := by decide +kernel
theorem dX9_hours_102 : decode cX9_hours 102 = .ok (.iconst 0, 1) := by decide +kernel
theorem dX9_hours_103 : decode cX9_hours 103 = .ok (.istore_n 3, 1) := by decide +kernel
theorem dX9_hours_104 : decode cX9_hours 104 = .ok (.iload_n 3, 1) := by decide +kernel
theorem dX9_hours_105 : decode cX9_hours 105 = .ok (.aload_n 0, 1) := by decide +kernel
theorem dX9_hours_106 : decode cX9_hours 106 = .ok (.getfield 198, 3) := by decide +kernel
theorem dX9_hours_109 : decode cX9_hours 109 = .ok (.if_icmp .ge 14, 3) := by decide +kernel
theorem dX9_hours_112 : decode cX9_hours 112 = .ok (.aload_n 0, 1) := by decide +kernel
theorem dX9_hours_113 : decode cX9_hours 113 = .ok (.iload_n 3, 1) := by decide +kernel
theorem dX9_hours_114 : decode cX9_hours 114 = .ok (.invokevirtual 214, 3) := by decide +kernel
theorem dX9_hours_117 : decode cX9_hours 117 = .ok (.iinc 3 1, 3) := by decide +kernel
theorem dX9_hours_120 : decode cX9_hours 120 = .ok (.goto (-16), 3) := by decide +kernel
theorem dX9_hours_123 : decode cX9_hours 123 = .ok (.iinc 2 1, 3) := by decide +kernel
theorem dX9_hours_126 : decode cX9_hours 126 = .ok (.goto (-93), 3) := by decide +kernel
theorem dX9_hours_129 : decode cX9_hours 129 = .ok (.aload_n 0, 1) := by decide +kernel
theorem dX9_hours_130 : decode cX9_hours 130 = .ok (.getfield 92, 3) := by decide +kernel
theorem dX9_hours_133 : decode cX9_hours 133 = .ok (.ireturn, 1) := by decide +kernel
theorem dX9_flies_0 : decode cX9_flies 0 = .ok (.aload_n 0, 1) := by decide +kernel
theorem dX9_flies_1 : decode cX9_flies 1 = .ok (.iconst 0, 1) := by decide +kernel
theorem dX9_flies_2 : decode cX9_flies 2 = .ok (.putfield 78, 3) := by decide +kernel
theorem dX9_flies_5 : decode cX9_flies 5 = .ok (.aload_n 0, 1) := by decide +kernel
theorem dX9_flies_6 : decode cX9_flies 6 = .ok (.aload_n 0, 1) := by decide +kernel
theorem dX9_flies_7 : decode cX9_flies 7 = .ok (.iload_n 1, 1) := by decide +kernel
theorem dX9_flies_8 : decode cX9_flies 8 = .ok (.invokevirtual 95, 3) := by decide +kernel
theorem dX9_flies_11 : decode cX9_flies 11 = .ok (.iconst 1, 1) := by decide +kernel
theorem dX9_flies_12 : decode cX9_flies 12 = .ok (.invokevirtual 88, 3) := by decide +kernel
theorem dX9_flies_15 : decode cX9_flies 15 = .ok (.ifCond .eq 7, 3) := by decide +kernel
theorem dX9_flies_18 : decode cX9_flies 18 = .ok (.iconst 0, 1) := by decide +kernel
theorem dX9_flies_19 : decode cX9_flies 19 = .ok (.goto 9, 3) := by decide +kernel
theorem dX9_flies_22 : decode cX9_flies 22 = .ok (.aload_n 0, 1) := by decide +kernel
theorem dX9_flies_23 : decode cX9_flies 23 = .ok (.iload_n 1, 1) := by decide +kernel
theorem dX9_flies_24 : decode cX9_flies 24 = .ok (.iload_n 2, 1) := by decide +kernel
theorem dX9_flies_25 : decode cX9_flies 25 = .ok (.invokevirtual 204, 3) := by decide +kernel
theorem dX9_flies_28 : decode cX9_flies 28 = .ok (.ireturn, 1) := by decide +kernel
theorem dX9_warning_0 : decode cX9_warning 0 = .ok (.aload_n 0, 1) := by decide +kernel
theorem dX9_warning_1 : decode cX9_warning 1 = .ok (.iconst 0, 1) := by decide +kernel
theorem dX9_warning_2 : decode cX9_warning 2 = .ok (.putfield 78, 3) := by decide +kernel
theorem dX9_warning_5 : decode cX9_warning 5 = .ok (.aload_n 0, 1) := by decide +kernel
theorem dX9_warning_6 : decode cX9_warning 6 = .ok (.iload_n 1, 1) := by decide +kernel
theorem dX9_warning_7 : decode cX9_warning 7 = .ok (.iconst 0, 1) := by decide +kernel
theorem dX9_warning_8 : decode cX9_warning 8 = .ok (.aload_n 0, 1) := by decide +kernel
theorem dX9_warning_9 : decode cX9_warning 9 = .ok (.getfield 189, 3) := by decide +kernel
theorem dX9_warning_12 : decode cX9_warning 12 = .ok (.iconst 1, 1) := by decide +kernel
theorem dX9_warning_13 : decode cX9_warning 13 = .ok (.isub, 1) := by decide +kernel
theorem dX9_warning_14 : decode cX9_warning 14 = .ok (.invokestatic 84, 3) := by decide +kernel
theorem dX9_warning_17 : decode cX9_warning 17 = .ok (.ifCond .ne 7, 3) := by decide +kernel
theorem dX9_warning_20 : decode cX9_warning 20 = .ok (.iconst 1, 1) := by decide +kernel
theorem dX9_warning_21 : decode cX9_warning 21 = .ok (.goto 4, 3) := by decide +kernel
theorem dX9_warning_24 : decode cX9_warning 24 = .ok (.iconst 0, 1) := by decide +kernel
theorem dX9_warning_25 : decode cX9_warning 25 = .ok (.iconst 1, 1) := by decide +kernel
theorem dX9_warning_26 : decode cX9_warning 26 = .ok (.invokevirtual 88, 3) := by decide +kernel
theorem dX9_warning_29 : decode cX9_warning 29 = .ok (.ifCond .ne 25, 3) := by decide +kernel
theorem dX9_warning_32 : decode cX9_warning 32 = .ok (.aload_n 0, 1) := by decide +kernel
theorem dX9_warning_33 : decode cX9_warning 33 = .ok (.iload_n 2, 1) := by decide +kernel
theorem dX9_warning_34 : decode cX9_warning 34 = .ok (.iconst 0, 1) := by decide +kernel
theorem dX9_warning_35 : decode cX9_warning 35 = .ok (.iconst 3, 1) := by decide +kernel
theorem dX9_warning_36 : decode cX9_warning 36 = .ok (.invokestatic 84, 3) := by decide +kernel
theorem dX9_warning_39 : decode cX9_warning 39 = .ok (.ifCond .ne 7, 3) := by decide +kernel
theorem dX9_warning_42 : decode cX9_warning 42 = .ok (.iconst 1, 1) := by decide +kernel
theorem dX9_warning_43 : decode cX9_warning 43 = .ok (.goto 4, 3) := by decide +kernel
theorem dX9_warning_46 : decode cX9_warning 46 = .ok (.iconst 0, 1) := by decide +kernel
theorem dX9_warning_47 : decode cX9_warning 47 = .ok (.iconst 2, 1) := by decide +kernel
theorem dX9_warning_48 : decode cX9_warning 48 = .ok (.invokevirtual 88, 3) := by decide +kernel
theorem dX9_warning_51 : decode cX9_warning 51 = .ok (.ifCond .eq 7, 3) := by decide +kernel
theorem dX9_warning_54 : decode cX9_warning 54 = .ok (.iconst 0, 1) := by decide +kernel
theorem dX9_warning_55 : decode cX9_warning 55 = .ok (.goto 13, 3) := by decide +kernel
theorem dX9_warning_58 : decode cX9_warning 58 = .ok (.aload_n 0, 1) := by decide +kernel
theorem dX9_warning_59 : decode cX9_warning 59 = .ok (.getfield 60, 3) := by decide +kernel
theorem dX9_warning_62 : decode cX9_warning 62 = .ok (.iconst 5, 1) := by decide +kernel
theorem dX9_warning_63 : decode cX9_warning 63 = .ok (.iload_n 1, 1) := by decide +kernel
theorem dX9_warning_64 : decode cX9_warning 64 = .ok (.imul, 1) := by decide +kernel
theorem dX9_warning_65 : decode cX9_warning 65 = .ok (.iload_n 2, 1) := by decide +kernel
theorem dX9_warning_66 : decode cX9_warning 66 = .ok (.iadd, 1) := by decide +kernel
theorem dX9_warning_67 : decode cX9_warning 67 = .ok (.iaload, 1) := by decide +kernel
theorem dX9_warning_68 : decode cX9_warning 68 = .ok (.ireturn, 1) := by decide +kernel
theorem dX9_look_0 : decode cX9_look 0 = .ok (.aload_n 0, 1) := by decide +kernel
theorem dX9_look_1 : decode cX9_look 1 = .ok (.iconst 0, 1) := by decide +kernel
theorem dX9_look_2 : decode cX9_look 2 = .ok (.putfield 78, 3) := by decide +kernel
theorem dX9_look_5 : decode cX9_look 5 = .ok (.aload_n 0, 1) := by decide +kernel
theorem dX9_look_6 : decode cX9_look 6 = .ok (.aload_n 0, 1) := by decide +kernel
theorem dX9_look_7 : decode cX9_look 7 = .ok (.iload_n 1, 1) := by decide +kernel
theorem dX9_look_8 : decode cX9_look 8 = .ok (.invokevirtual 201, 3) := by decide +kernel
theorem dX9_look_11 : decode cX9_look 11 = .ok (.iconst 1, 1) := by decide +kernel
theorem dX9_look_12 : decode cX9_look 12 = .ok (.invokevirtual 88, 3) := by decide +kernel
theorem dX9_look_15 : decode cX9_look 15 = .ok (.ifCond .eq 5, 3) := by decide +kernel
theorem dX9_look_18 : decode cX9_look 18 = .ok (.iconst 0, 1) := by decide +kernel
theorem dX9_look_19 : decode cX9_look 19 = .ok (.ireturn, 1) := by decide +kernel
theorem dX9_look_20 : decode cX9_look 20 = .ok (.bipush 8, 2) := by decide +kernel
theorem dX9_look_22 : decode cX9_look 22 = .ok (.iload_n 1, 1) := by decide +kernel
theorem dX9_look_23 : decode cX9_look 23 = .ok (.imul, 1) := by decide +kernel
theorem dX9_look_24 : decode cX9_look 24 = .ok (.istore_n 3, 1) := by decide +kernel
theorem dX9_look_25 : decode cX9_look 25 = .ok (.iload_n 2, 1) := by decide +kernel
theorem dX9_look_26 : decode cX9_look 26 = .ok (.tableswitch 115 0 3 #[30, 39, 49, 59], 30) := by decide +kernel
theorem dX9_look_56 : decode cX9_look 56 = .ok (.aload_n 0, 1) := by decide +kernel
theorem dX9_look_57 : decode cX9_look 57 = .ok (.getfield 75, 3) := by decide +kernel
theorem dX9_look_60 : decode cX9_look 60 = .ok (.iload_n 3, 1) := by decide +kernel
theorem dX9_look_61 : decode cX9_look 61 = .ok (.iconst 3, 1) := by decide +kernel
theorem dX9_look_62 : decode cX9_look 62 = .ok (.iadd, 1) := by decide +kernel
theorem dX9_look_63 : decode cX9_look 63 = .ok (.iaload, 1) := by decide +kernel
theorem dX9_look_64 : decode cX9_look 64 = .ok (.ireturn, 1) := by decide +kernel
theorem dX9_look_65 : decode cX9_look 65 = .ok (.aload_n 0, 1) := by decide +kernel
theorem dX9_look_66 : decode cX9_look 66 = .ok (.getfield 75, 3) := by decide +kernel
theorem dX9_look_69 : decode cX9_look 69 = .ok (.iload_n 3, 1) := by decide +kernel
theorem dX9_look_70 : decode cX9_look 70 = .ok (.bipush 6, 2) := by decide +kernel
theorem dX9_look_72 : decode cX9_look 72 = .ok (.iadd, 1) := by decide +kernel
theorem dX9_look_73 : decode cX9_look 73 = .ok (.iaload, 1) := by decide +kernel
theorem dX9_look_74 : decode cX9_look 74 = .ok (.ireturn, 1) := by decide +kernel
theorem dX9_look_75 : decode cX9_look 75 = .ok (.aload_n 0, 1) := by decide +kernel
theorem dX9_look_76 : decode cX9_look 76 = .ok (.getfield 75, 3) := by decide +kernel
theorem dX9_look_79 : decode cX9_look 79 = .ok (.iload_n 3, 1) := by decide +kernel
theorem dX9_look_80 : decode cX9_look 80 = .ok (.bipush 7, 2) := by decide +kernel
theorem dX9_look_82 : decode cX9_look 82 = .ok (.iadd, 1) := by decide +kernel
theorem dX9_look_83 : decode cX9_look 83 = .ok (.iaload, 1) := by decide +kernel
theorem dX9_look_84 : decode cX9_look 84 = .ok (.ireturn, 1) := by decide +kernel
theorem dX9_look_85 : decode cX9_look 85 = .ok (.aload_n 0, 1) := by decide +kernel
theorem dX9_look_86 : decode cX9_look 86 = .ok (.getfield 75, 3) := by decide +kernel
theorem dX9_look_89 : decode cX9_look 89 = .ok (.iload_n 3, 1) := by decide +kernel
theorem dX9_look_90 : decode cX9_look 90 = .ok (.iconst 3, 1) := by decide +kernel
theorem dX9_look_91 : decode cX9_look 91 = .ok (.iadd, 1) := by decide +kernel
theorem dX9_look_92 : decode cX9_look 92 = .ok (.iaload, 1) := by decide +kernel
theorem dX9_look_93 : decode cX9_look 93 = .ok (.ifCond .ne 7, 3) := by decide +kernel
theorem dX9_look_96 : decode cX9_look 96 = .ok (.iconst (-1), 1) := by decide +kernel
theorem dX9_look_97 : decode cX9_look 97 = .ok (.goto 43, 3) := by decide +kernel
theorem dX9_look_100 : decode cX9_look 100 = .ok (.aload_n 0, 1) := by decide +kernel
theorem dX9_look_101 : decode cX9_look 101 = .ok (.getfield 75, 3) := by decide +kernel
theorem dX9_look_104 : decode cX9_look 104 = .ok (.iload_n 3, 1) := by decide +kernel
theorem dX9_look_105 : decode cX9_look 105 = .ok (.iconst 3, 1) := by decide +kernel
theorem dX9_look_106 : decode cX9_look 106 = .ok (.iadd, 1) := by decide +kernel
theorem dX9_look_107 : decode cX9_look 107 = .ok (.iaload, 1) := by decide +kernel
theorem dX9_look_108 : decode cX9_look 108 = .ok (.iconst 2, 1) := by decide +kernel
theorem dX9_look_109 : decode cX9_look 109 = .ok (.if_icmp .ne 23, 3) := by decide +kernel
theorem dX9_look_112 : decode cX9_look 112 = .ok (.aload_n 0, 1) := by decide +kernel
theorem dX9_look_113 : decode cX9_look 113 = .ok (.getfield 75, 3) := by decide +kernel
theorem dX9_look_116 : decode cX9_look 116 = .ok (.iload_n 3, 1) := by decide +kernel
theorem dX9_look_117 : decode cX9_look 117 = .ok (.iconst 4, 1) := by decide +kernel
theorem dX9_look_118 : decode cX9_look 118 = .ok (.iadd, 1) := by decide +kernel
theorem dX9_look_119 : decode cX9_look 119 = .ok (.iaload, 1) := by decide +kernel
theorem dX9_look_120 : decode cX9_look 120 = .ok (.aload_n 0, 1) := by decide +kernel
theorem dX9_look_121 : decode cX9_look 121 = .ok (.getfield 75, 3) := by decide +kernel
theorem dX9_look_124 : decode cX9_look 124 = .ok (.iload_n 3, 1) := by decide +kernel
theorem dX9_look_125 : decode cX9_look 125 = .ok (.iconst 5, 1) := by decide +kernel
theorem dX9_look_126 : decode cX9_look 126 = .ok (.iadd, 1) := by decide +kernel
theorem dX9_look_127 : decode cX9_look 127 = .ok (.iaload, 1) := by decide +kernel
theorem dX9_look_128 : decode cX9_look 128 = .ok (.iadd, 1) := by decide +kernel
theorem dX9_look_129 : decode cX9_look 129 = .ok (.goto 11, 3) := by decide +kernel
theorem dX9_look_132 : decode cX9_look 132 = .ok (.aload_n 0, 1) := by decide +kernel
theorem dX9_look_133 : decode cX9_look 133 = .ok (.getfield 75, 3) := by decide +kernel
theorem dX9_look_136 : decode cX9_look 136 = .ok (.iload_n 3, 1) := by decide +kernel
theorem dX9_look_137 : decode cX9_look 137 = .ok (.iconst 4, 1) := by decide +kernel
theorem dX9_look_138 : decode cX9_look 138 = .ok (.iadd, 1) := by decide +kernel
theorem dX9_look_139 : decode cX9_look 139 = .ok (.iaload, 1) := by decide +kernel
theorem dX9_look_140 : decode cX9_look 140 = .ok (.ireturn, 1) := by decide +kernel
theorem dX9_look_141 : decode cX9_look 141 = .ok (.aload_n 0, 1) := by decide +kernel
theorem dX9_look_142 : decode cX9_look 142 = .ok (.iconst 2, 1) := by decide +kernel
theorem dX9_look_143 : decode cX9_look 143 = .ok (.putfield 78, 3) := by decide +kernel
theorem dX9_look_146 : decode cX9_look 146 = .ok (.iconst 0, 1) := by decide +kernel
theorem dX9_look_147 : decode cX9_look 147 = .ok (.ireturn, 1) := by decide +kernel
theorem dX9_isVain_0 : decode cX9_isVain 0 = .ok (.aload_n 0, 1) := by decide +kernel
theorem dX9_isVain_1 : decode cX9_isVain 1 = .ok (.getfield 92, 3) := by decide +kernel
theorem dX9_isVain_4 : decode cX9_isVain 4 = .ok (.iload_n 2, 1) := by decide +kernel
theorem dX9_isVain_5 : decode cX9_isVain 5 = .ok (.isub, 1) := by decide +kernel
theorem dX9_isVain_6 : decode cX9_isVain 6 = .ok (.bipush 23, 2) := by decide +kernel
theorem dX9_isVain_8 : decode cX9_isVain 8 = .ok (.if_icmp .le 7, 3) := by decide +kernel
theorem dX9_isVain_11 : decode cX9_isVain 11 = .ok (.iconst 1, 1) := by decide +kernel
theorem dX9_isVain_12 : decode cX9_isVain 12 = .ok (.goto 4, 3) := by decide +kernel
theorem dX9_isVain_15 : decode cX9_isVain 15 = .ok (.iconst 0, 1) := by decide +kernel
theorem dX9_isVain_16 : decode cX9_isVain 16 = .ok (.istore_n 3, 1) := by decide +kernel
theorem dX9_isVain_17 : decode cX9_isVain 17 = .ok (.iconst 0, 1) := by decide +kernel
theorem dX9_isVain_18 : decode cX9_isVain 18 = .ok (.istore 4, 2) := by decide +kernel
theorem dX9_isVain_20 : decode cX9_isVain 20 = .ok (.iload 4, 2) := by decide +kernel
theorem dX9_isVain_22 : decode cX9_isVain 22 = .ok (.aload_n 0, 1) := by decide +kernel
theorem dX9_isVain_23 : decode cX9_isVain 23 = .ok (.getfield 195, 3) := by decide +kernel
theorem dX9_isVain_26 : decode cX9_isVain 26 = .ok (.if_icmp .ge 55, 3) := by decide +kernel
theorem dX9_isVain_29 : decode cX9_isVain 29 = .ok (.iload_n 3, 1) := by decide +kernel
theorem dX9_isVain_30 : decode cX9_isVain 30 = .ok (.ifCond .eq 43, 3) := by decide +kernel
theorem dX9_isVain_33 : decode cX9_isVain 33 = .ok (.aload_n 0, 1) := by decide +kernel
theorem dX9_isVain_34 : decode cX9_isVain 34 = .ok (.getfield 63, 3) := by decide +kernel
theorem dX9_isVain_37 : decode cX9_isVain 37 = .ok (.iload 4, 2) := by decide +kernel
theorem dX9_isVain_39 : decode cX9_isVain 39 = .ok (.iaload, 1) := by decide +kernel
theorem dX9_isVain_40 : decode cX9_isVain 40 = .ok (.iload_n 1, 1) := by decide +kernel
theorem dX9_isVain_41 : decode cX9_isVain 41 = .ok (.if_icmp .ne 28, 3) := by decide +kernel
theorem dX9_isVain_44 : decode cX9_isVain 44 = .ok (.aload_n 0, 1) := by decide +kernel
theorem dX9_isVain_45 : decode cX9_isVain 45 = .ok (.getfield 66, 3) := by decide +kernel
theorem dX9_isVain_48 : decode cX9_isVain 48 = .ok (.iload 4, 2) := by decide +kernel
theorem dX9_isVain_50 : decode cX9_isVain 50 = .ok (.iaload, 1) := by decide +kernel
theorem dX9_isVain_51 : decode cX9_isVain 51 = .ok (.iload_n 2, 1) := by decide +kernel
theorem dX9_isVain_52 : decode cX9_isVain 52 = .ok (.bipush 23, 2) := by decide +kernel
theorem dX9_isVain_54 : decode cX9_isVain 54 = .ok (.iadd, 1) := by decide +kernel
theorem dX9_isVain_55 : decode cX9_isVain 55 = .ok (.if_icmp .gt 14, 3) := by decide +kernel
theorem dX9_isVain_58 : decode cX9_isVain 58 = .ok (.aload_n 0, 1) := by decide +kernel
theorem dX9_isVain_59 : decode cX9_isVain 59 = .ok (.getfield 69, 3) := by decide +kernel
theorem dX9_isVain_62 : decode cX9_isVain 62 = .ok (.iload 4, 2) := by decide +kernel
theorem dX9_isVain_64 : decode cX9_isVain 64 = .ok (.iaload, 1) := by decide +kernel
theorem dX9_isVain_65 : decode cX9_isVain 65 = .ok (.iload_n 2, 1) := by decide +kernel
theorem dX9_isVain_66 : decode cX9_isVain 66 = .ok (.if_icmp .ge 7, 3) := by decide +kernel
theorem dX9_isVain_69 : decode cX9_isVain 69 = .ok (.iconst 1, 1) := by decide +kernel
theorem dX9_isVain_70 : decode cX9_isVain 70 = .ok (.goto 4, 3) := by decide +kernel
theorem dX9_isVain_73 : decode cX9_isVain 73 = .ok (.iconst 0, 1) := by decide +kernel
theorem dX9_isVain_74 : decode cX9_isVain 74 = .ok (.istore_n 3, 1) := by decide +kernel
theorem dX9_isVain_75 : decode cX9_isVain 75 = .ok (.iinc 4 1, 3) := by decide +kernel
theorem dX9_isVain_78 : decode cX9_isVain 78 = .ok (.goto (-58), 3) := by decide +kernel
theorem dX9_isVain_81 : decode cX9_isVain 81 = .ok (.iload_n 3, 1) := by decide +kernel
theorem dX9_isVain_82 : decode cX9_isVain 82 = .ok (.ireturn, 1) := by decide +kernel
theorem dX9_score_0 : decode cX9_score 0 = .ok (.aload_n 0, 1) := by decide +kernel
theorem dX9_score_1 : decode cX9_score 1 = .ok (.iconst 0, 1) := by decide +kernel
theorem dX9_score_2 : decode cX9_score 2 = .ok (.putfield 78, 3) := by decide +kernel
theorem dX9_score_5 : decode cX9_score 5 = .ok (.aload_n 0, 1) := by decide +kernel
theorem dX9_score_6 : decode cX9_score 6 = .ok (.aload_n 0, 1) := by decide +kernel
theorem dX9_score_7 : decode cX9_score 7 = .ok (.iload_n 1, 1) := by decide +kernel
theorem dX9_score_8 : decode cX9_score 8 = .ok (.invokevirtual 95, 3) := by decide +kernel
theorem dX9_score_11 : decode cX9_score 11 = .ok (.iconst 1, 1) := by decide +kernel
theorem dX9_score_12 : decode cX9_score 12 = .ok (.invokevirtual 88, 3) := by decide +kernel
theorem dX9_score_15 : decode cX9_score 15 = .ok (.ifCond .ne 25, 3) := by decide +kernel
theorem dX9_score_18 : decode cX9_score 18 = .ok (.aload_n 0, 1) := by decide +kernel
theorem dX9_score_19 : decode cX9_score 19 = .ok (.iload_n 2, 1) := by decide +kernel
theorem dX9_score_20 : decode cX9_score 20 = .ok (.iconst 0, 1) := by decide +kernel
theorem dX9_score_21 : decode cX9_score 21 = .ok (.iconst 3, 1) := by decide +kernel
theorem dX9_score_22 : decode cX9_score 22 = .ok (.invokestatic 84, 3) := by decide +kernel
theorem dX9_score_25 : decode cX9_score 25 = .ok (.ifCond .ne 7, 3) := by decide +kernel
theorem dX9_score_28 : decode cX9_score 28 = .ok (.iconst 1, 1) := by decide +kernel
theorem dX9_score_29 : decode cX9_score 29 = .ok (.goto 4, 3) := by decide +kernel
theorem dX9_score_32 : decode cX9_score 32 = .ok (.iconst 0, 1) := by decide +kernel
theorem dX9_score_33 : decode cX9_score 33 = .ok (.iconst 2, 1) := by decide +kernel
theorem dX9_score_34 : decode cX9_score 34 = .ok (.invokevirtual 88, 3) := by decide +kernel
theorem dX9_score_37 : decode cX9_score 37 = .ok (.ifCond .eq 5, 3) := by decide +kernel
theorem dX9_score_40 : decode cX9_score 40 = .ok (.iconst 0, 1) := by decide +kernel
theorem dX9_score_41 : decode cX9_score 41 = .ok (.ireturn, 1) := by decide +kernel
theorem dX9_score_42 : decode cX9_score 42 = .ok (.iconst 0, 1) := by decide +kernel
theorem dX9_score_43 : decode cX9_score 43 = .ok (.istore_n 3, 1) := by decide +kernel
theorem dX9_score_44 : decode cX9_score 44 = .ok (.iload_n 2, 1) := by decide +kernel
theorem dX9_score_45 : decode cX9_score 45 = .ok (.iconst 2, 1) := by decide +kernel
theorem dX9_score_46 : decode cX9_score 46 = .ok (.if_icmp .ge 88, 3) := by decide +kernel
theorem dX9_score_49 : decode cX9_score 49 = .ok (.iconst 0, 1) := by decide +kernel
theorem dX9_score_50 : decode cX9_score 50 = .ok (.istore 4, 2) := by decide +kernel
theorem dX9_score_52 : decode cX9_score 52 = .ok (.iload 4, 2) := by decide +kernel
theorem dX9_score_54 : decode cX9_score 54 = .ok (.aload_n 0, 1) := by decide +kernel
theorem dX9_score_55 : decode cX9_score 55 = .ok (.getfield 195, 3) := by decide +kernel
theorem dX9_score_58 : decode cX9_score 58 = .ok (.if_icmp .ge 74, 3) := by decide +kernel
theorem dX9_score_61 : decode cX9_score 61 = .ok (.iload_n 3, 1) := by decide +kernel
theorem dX9_score_62 : decode cX9_score 62 = .ok (.aload_n 0, 1) := by decide +kernel
theorem dX9_score_63 : decode cX9_score 63 = .ok (.getfield 63, 3) := by decide +kernel
theorem dX9_score_66 : decode cX9_score 66 = .ok (.iload 4, 2) := by decide +kernel
theorem dX9_score_68 : decode cX9_score 68 = .ok (.iaload, 1) := by decide +kernel
theorem dX9_score_69 : decode cX9_score 69 = .ok (.iload_n 1, 1) := by decide +kernel
theorem dX9_score_70 : decode cX9_score 70 = .ok (.if_icmp .ne 53, 3) := by decide +kernel
theorem dX9_score_73 : decode cX9_score 73 = .ok (.aload_n 0, 1) := by decide +kernel
theorem dX9_score_74 : decode cX9_score 74 = .ok (.getfield 66, 3) := by decide +kernel
theorem dX9_score_77 : decode cX9_score 77 = .ok (.iload 4, 2) := by decide +kernel
theorem dX9_score_79 : decode cX9_score 79 = .ok (.iaload, 1) := by decide +kernel
theorem dX9_score_80 : decode cX9_score 80 = .ok (.aload_n 0, 1) := by decide +kernel
theorem dX9_score_81 : decode cX9_score 81 = .ok (.getfield 92, 3) := by decide +kernel
theorem dX9_score_84 : decode cX9_score 84 = .ok (.if_icmp .gt 39, 3) := by decide +kernel
theorem dX9_score_87 : decode cX9_score 87 = .ok (.aload_n 0, 1) := by decide +kernel
theorem dX9_score_88 : decode cX9_score 88 = .ok (.iload_n 1, 1) := by decide +kernel
theorem dX9_score_89 : decode cX9_score 89 = .ok (.aload_n 0, 1) := by decide +kernel
theorem dX9_score_90 : decode cX9_score 90 = .ok (.getfield 66, 3) := by decide +kernel
theorem dX9_score_93 : decode cX9_score 93 = .ok (.iload 4, 2) := by decide +kernel
theorem dX9_score_95 : decode cX9_score 95 = .ok (.iaload, 1) := by decide +kernel
theorem dX9_score_96 : decode cX9_score 96 = .ok (.invokevirtual 204, 3) := by decide +kernel
theorem dX9_score_99 : decode cX9_score 99 = .ok (.ifCond .eq 7, 3) := by decide +kernel
theorem dX9_score_102 : decode cX9_score 102 = .ok (.iconst 1, 1) := by decide +kernel
theorem dX9_score_103 : decode cX9_score 103 = .ok (.goto 4, 3) := by decide +kernel
theorem dX9_score_106 : decode cX9_score 106 = .ok (.iconst 0, 1) := by decide +kernel
theorem dX9_score_107 : decode cX9_score 107 = .ok (.iload_n 2, 1) := by decide +kernel
theorem dX9_score_108 : decode cX9_score 108 = .ok (.ifCond .ne 7, 3) := by decide +kernel
theorem dX9_score_111 : decode cX9_score 111 = .ok (.iconst 1, 1) := by decide +kernel
theorem dX9_score_112 : decode cX9_score 112 = .ok (.goto 4, 3) := by decide +kernel
theorem dX9_score_115 : decode cX9_score 115 = .ok (.iconst 0, 1) := by decide +kernel
theorem dX9_score_116 : decode cX9_score 116 = .ok (.if_icmp .ne 7, 3) := by decide +kernel
theorem dX9_score_119 : decode cX9_score 119 = .ok (.iconst 1, 1) := by decide +kernel
theorem dX9_score_120 : decode cX9_score 120 = .ok (.goto 4, 3) := by decide +kernel
theorem dX9_score_123 : decode cX9_score 123 = .ok (.iconst 0, 1) := by decide +kernel
theorem dX9_score_124 : decode cX9_score 124 = .ok (.iadd, 1) := by decide +kernel
theorem dX9_score_125 : decode cX9_score 125 = .ok (.istore_n 3, 1) := by decide +kernel
theorem dX9_score_126 : decode cX9_score 126 = .ok (.iinc 4 1, 3) := by decide +kernel
theorem dX9_score_129 : decode cX9_score 129 = .ok (.goto (-77), 3) := by decide +kernel
theorem dX9_score_132 : decode cX9_score 132 = .ok (.iload_n 3, 1) := by decide +kernel
theorem dX9_score_133 : decode cX9_score 133 = .ok (.ireturn, 1) := by decide +kernel
theorem dX9_score_134 : decode cX9_score 134 = .ok (.iconst 0, 1) := by decide +kernel
theorem dX9_score_135 : decode cX9_score 135 = .ok (.istore 4, 2) := by decide +kernel
theorem dX9_score_137 : decode cX9_score 137 = .ok (.iload 4, 2) := by decide +kernel
theorem dX9_score_139 : decode cX9_score 139 = .ok (.aload_n 0, 1) := by decide +kernel
theorem dX9_score_140 : decode cX9_score 140 = .ok (.getfield 189, 3) := by decide +kernel
theorem dX9_score_143 : decode cX9_score 143 = .ok (.if_icmp .ge 55, 3) := by decide +kernel
theorem dX9_score_146 : decode cX9_score 146 = .ok (.aload_n 0, 1) := by decide +kernel
theorem dX9_score_147 : decode cX9_score 147 = .ok (.iload 4, 2) := by decide +kernel
theorem dX9_score_149 : decode cX9_score 149 = .ok (.iload_n 1, 1) := by decide +kernel
theorem dX9_score_150 : decode cX9_score 150 = .ok (.invokevirtual 192, 3) := by decide +kernel
theorem dX9_score_153 : decode cX9_score 153 = .ok (.istore 5, 2) := by decide +kernel
theorem dX9_score_155 : decode cX9_score 155 = .ok (.iload_n 3, 1) := by decide +kernel
theorem dX9_score_156 : decode cX9_score 156 = .ok (.iload 5, 2) := by decide +kernel
theorem dX9_score_158 : decode cX9_score 158 = .ok (.ifCond .lt 31, 3) := by decide +kernel
theorem dX9_score_161 : decode cX9_score 161 = .ok (.iload 5, 2) := by decide +kernel
theorem dX9_score_163 : decode cX9_score 163 = .ok (.aload_n 0, 1) := by decide +kernel
theorem dX9_score_164 : decode cX9_score 164 = .ok (.getfield 92, 3) := by decide +kernel
theorem dX9_score_167 : decode cX9_score 167 = .ok (.if_icmp .gt 22, 3) := by decide +kernel
theorem dX9_score_170 : decode cX9_score 170 = .ok (.iload_n 2, 1) := by decide +kernel
theorem dX9_score_171 : decode cX9_score 171 = .ok (.iconst 3, 1) := by decide +kernel
theorem dX9_score_172 : decode cX9_score 172 = .ok (.if_icmp .eq 13, 3) := by decide +kernel
theorem dX9_score_175 : decode cX9_score 175 = .ok (.aload_n 0, 1) := by decide +kernel
theorem dX9_score_176 : decode cX9_score 176 = .ok (.iload_n 1, 1) := by decide +kernel
theorem dX9_score_177 : decode cX9_score 177 = .ok (.iload 5, 2) := by decide +kernel
theorem dX9_score_179 : decode cX9_score 179 = .ok (.invokevirtual 218, 3) := by decide +kernel
theorem dX9_score_182 : decode cX9_score 182 = .ok (.ifCond .eq 7, 3) := by decide +kernel
theorem dX9_score_185 : decode cX9_score 185 = .ok (.iconst 1, 1) := by decide +kernel
theorem dX9_score_186 : decode cX9_score 186 = .ok (.goto 4, 3) := by decide +kernel
theorem dX9_score_189 : decode cX9_score 189 = .ok (.iconst 0, 1) := by decide +kernel
theorem dX9_score_190 : decode cX9_score 190 = .ok (.iadd, 1) := by decide +kernel
theorem dX9_score_191 : decode cX9_score 191 = .ok (.istore_n 3, 1) := by decide +kernel
theorem dX9_score_192 : decode cX9_score 192 = .ok (.iinc 4 1, 3) := by decide +kernel
theorem dX9_score_195 : decode cX9_score 195 = .ok (.goto (-58), 3) := by decide +kernel
theorem dX9_score_198 : decode cX9_score 198 = .ok (.iload_n 3, 1) := by decide +kernel
theorem dX9_score_199 : decode cX9_score 199 = .ok (.ireturn, 1) := by decide +kernel
theorem dX9_count_0 : decode cX9_count 0 = .ok (.aload_n 0, 1) := by decide +kernel
theorem dX9_count_1 : decode cX9_count 1 = .ok (.iconst 0, 1) := by decide +kernel
theorem dX9_count_2 : decode cX9_count 2 = .ok (.putfield 78, 3) := by decide +kernel
theorem dX9_count_5 : decode cX9_count 5 = .ok (.iconst 0, 1) := by decide +kernel
theorem dX9_count_6 : decode cX9_count 6 = .ok (.istore_n 2, 1) := by decide +kernel
theorem dX9_count_7 : decode cX9_count 7 = .ok (.iload_n 1, 1) := by decide +kernel
theorem dX9_count_8 : decode cX9_count 8 = .ok (.tableswitch 138 0 8 #[52, 57, 62, 67, 72, 77, 82, 87, 87], 52) := by decide +kernel
theorem dX9_count_60 : decode cX9_count 60 = .ok (.aload_n 0, 1) := by decide +kernel
theorem dX9_count_61 : decode cX9_count 61 = .ok (.getfield 92, 3) := by decide +kernel
theorem dX9_count_64 : decode cX9_count 64 = .ok (.ireturn, 1) := by decide +kernel
theorem dX9_count_65 : decode cX9_count 65 = .ok (.aload_n 0, 1) := by decide +kernel
theorem dX9_count_66 : decode cX9_count 66 = .ok (.getfield 81, 3) := by decide +kernel
theorem dX9_count_69 : decode cX9_count 69 = .ok (.ireturn, 1) := by decide +kernel
theorem dX9_count_70 : decode cX9_count 70 = .ok (.aload_n 0, 1) := by decide +kernel
theorem dX9_count_71 : decode cX9_count 71 = .ok (.getfield 99, 3) := by decide +kernel
theorem dX9_count_74 : decode cX9_count 74 = .ok (.ireturn, 1) := by decide +kernel
theorem dX9_count_75 : decode cX9_count 75 = .ok (.aload_n 0, 1) := by decide +kernel
theorem dX9_count_76 : decode cX9_count 76 = .ok (.getfield 174, 3) := by decide +kernel
theorem dX9_count_79 : decode cX9_count 79 = .ok (.ireturn, 1) := by decide +kernel
theorem dX9_count_80 : decode cX9_count 80 = .ok (.aload_n 0, 1) := by decide +kernel
theorem dX9_count_81 : decode cX9_count 81 = .ok (.getfield 189, 3) := by decide +kernel
theorem dX9_count_84 : decode cX9_count 84 = .ok (.ireturn, 1) := by decide +kernel
theorem dX9_count_85 : decode cX9_count 85 = .ok (.aload_n 0, 1) := by decide +kernel
theorem dX9_count_86 : decode cX9_count 86 = .ok (.getfield 195, 3) := by decide +kernel
theorem dX9_count_89 : decode cX9_count 89 = .ok (.ireturn, 1) := by decide +kernel
theorem dX9_count_90 : decode cX9_count 90 = .ok (.aload_n 0, 1) := by decide +kernel
theorem dX9_count_91 : decode cX9_count 91 = .ok (.getfield 198, 3) := by decide +kernel
theorem dX9_count_94 : decode cX9_count 94 = .ok (.ireturn, 1) := by decide +kernel
theorem dX9_count_95 : decode cX9_count 95 = .ok (.iconst 0, 1) := by decide +kernel
theorem dX9_count_96 : decode cX9_count 96 = .ok (.istore_n 3, 1) := by decide +kernel
theorem dX9_count_97 : decode cX9_count 97 = .ok (.iload_n 3, 1) := by decide +kernel
theorem dX9_count_98 : decode cX9_count 98 = .ok (.aload_n 0, 1) := by decide +kernel
theorem dX9_count_99 : decode cX9_count 99 = .ok (.getfield 198, 3) := by decide +kernel
theorem dX9_count_102 : decode cX9_count 102 = .ok (.if_icmp .ge 42, 3) := by decide +kernel
theorem dX9_count_105 : decode cX9_count 105 = .ok (.iload_n 2, 1) := by decide +kernel
theorem dX9_count_106 : decode cX9_count 106 = .ok (.aload_n 0, 1) := by decide +kernel
theorem dX9_count_107 : decode cX9_count 107 = .ok (.getfield 75, 3) := by decide +kernel
theorem dX9_count_110 : decode cX9_count 110 = .ok (.bipush 8, 2) := by decide +kernel
theorem dX9_count_112 : decode cX9_count 112 = .ok (.iload_n 3, 1) := by decide +kernel
theorem dX9_count_113 : decode cX9_count 113 = .ok (.imul, 1) := by decide +kernel
theorem dX9_count_114 : decode cX9_count 114 = .ok (.iconst 3, 1) := by decide +kernel
theorem dX9_count_115 : decode cX9_count 115 = .ok (.iadd, 1) := by decide +kernel
theorem dX9_count_116 : decode cX9_count 116 = .ok (.iaload, 1) := by decide +kernel
theorem dX9_count_117 : decode cX9_count 117 = .ok (.iload_n 1, 1) := by decide +kernel
theorem dX9_count_118 : decode cX9_count 118 = .ok (.bipush 7, 2) := by decide +kernel
theorem dX9_count_120 : decode cX9_count 120 = .ok (.if_icmp .ne 7, 3) := by decide +kernel
theorem dX9_count_123 : decode cX9_count 123 = .ok (.iconst 3, 1) := by decide +kernel
theorem dX9_count_124 : decode cX9_count 124 = .ok (.goto 4, 3) := by decide +kernel
theorem dX9_count_127 : decode cX9_count 127 = .ok (.iconst 2, 1) := by decide +kernel
theorem dX9_count_128 : decode cX9_count 128 = .ok (.if_icmp .ne 7, 3) := by decide +kernel
theorem dX9_count_131 : decode cX9_count 131 = .ok (.iconst 1, 1) := by decide +kernel
theorem dX9_count_132 : decode cX9_count 132 = .ok (.goto 4, 3) := by decide +kernel
theorem dX9_count_135 : decode cX9_count 135 = .ok (.iconst 0, 1) := by decide +kernel
theorem dX9_count_136 : decode cX9_count 136 = .ok (.iadd, 1) := by decide +kernel
theorem dX9_count_137 : decode cX9_count 137 = .ok (.istore_n 2, 1) := by decide +kernel
theorem dX9_count_138 : decode cX9_count 138 = .ok (.iinc 3 1, 3) := by decide +kernel
theorem dX9_count_141 : decode cX9_count 141 = .ok (.goto (-44), 3) := by decide +kernel
theorem dX9_count_144 : decode cX9_count 144 = .ok (.iload_n 2, 1) := by decide +kernel
theorem dX9_count_145 : decode cX9_count 145 = .ok (.ireturn, 1) := by decide +kernel
theorem dX9_count_146 : decode cX9_count 146 = .ok (.iconst (-1), 1) := by decide +kernel
theorem dX9_count_147 : decode cX9_count 147 = .ok (.ireturn, 1) := by decide +kernel
theorem dJ9_max_7cf53_0 : decode cJ9_max_7cf53 0 = .ok (.iload_n 0, 1) := by decide +kernel
theorem dJ9_max_7cf53_1 : decode cJ9_max_7cf53 1 = .ok (.iload_n 1, 1) := by decide +kernel
theorem dJ9_max_7cf53_2 : decode cJ9_max_7cf53 2 = .ok (.if_icmp .lt 7, 3) := by decide +kernel
theorem dJ9_max_7cf53_5 : decode cJ9_max_7cf53 5 = .ok (.iload_n 0, 1) := by decide +kernel
theorem dJ9_max_7cf53_6 : decode cJ9_max_7cf53 6 = .ok (.goto 4, 3) := by decide +kernel
theorem dJ9_max_7cf53_9 : decode cJ9_max_7cf53 9 = .ok (.iload_n 1, 1) := by decide +kernel
theorem dJ9_max_7cf53_10 : decode cJ9_max_7cf53 10 = .ok (.ireturn, 1) := by decide +kernel
theorem dJ9_min_7cf53_0 : decode cJ9_min_7cf53 0 = .ok (.iload_n 0, 1) := by decide +kernel
theorem dJ9_min_7cf53_1 : decode cJ9_min_7cf53 1 = .ok (.iload_n 1, 1) := by decide +kernel
theorem dJ9_min_7cf53_2 : decode cJ9_min_7cf53 2 = .ok (.if_icmp .gt 7, 3) := by decide +kernel
theorem dJ9_min_7cf53_5 : decode cJ9_min_7cf53 5 = .ok (.iload_n 0, 1) := by decide +kernel
theorem dJ9_min_7cf53_6 : decode cJ9_min_7cf53 6 = .ok (.goto 4, 3) := by decide +kernel
theorem dJ9_min_7cf53_9 : decode cJ9_min_7cf53 9 = .ok (.iload_n 1, 1) := by decide +kernel
theorem dJ9_min_7cf53_10 : decode cJ9_min_7cf53 10 = .ok (.ireturn, 1) := by decide +kernel
theorem dJ0_length_8abf5_0 : decode cJ0_length_8abf5 0 = .ok (.aload_n 0, 1) := by decide +kernel
theorem dJ0_length_8abf5_1 : decode cJ0_length_8abf5 1 = .ok (.getfield 9, 3) := by decide +kernel
theorem dJ0_length_8abf5_4 : decode cJ0_length_8abf5 4 = .ok (.arraylength, 1) := by decide +kernel
theorem dJ0_length_8abf5_5 : decode cJ0_length_8abf5 5 = .ok (.aload_n 0, 1) := by decide +kernel
theorem dJ0_length_8abf5_6 : decode cJ0_length_8abf5 6 = .ok (.invokevirtual 335, 3) := by decide +kernel
theorem dJ0_length_8abf5_9 : decode cJ0_length_8abf5 9 = .ok (.ishr, 1) := by decide +kernel
theorem dJ0_length_8abf5_10 : decode cJ0_length_8abf5 10 = .ok (.ireturn, 1) := by decide +kernel
theorem dJ0_charAt_5068e_0 : decode cJ0_charAt_5068e 0 = .ok (.aload_n 0, 1) := by decide +kernel
theorem dJ0_charAt_5068e_1 : decode cJ0_charAt_5068e 1 = .ok (.invokevirtual 492, 3) := by decide +kernel
theorem dJ0_charAt_5068e_4 : decode cJ0_charAt_5068e 4 = .ok (.ifCond .eq 12, 3) := by decide +kernel
theorem dJ0_charAt_5068e_7 : decode cJ0_charAt_5068e 7 = .ok (.aload_n 0, 1) := by decide +kernel
theorem dJ0_charAt_5068e_8 : decode cJ0_charAt_5068e 8 = .ok (.getfield 9, 3) := by decide +kernel
theorem dJ0_charAt_5068e_11 : decode cJ0_charAt_5068e 11 = .ok (.iload_n 1, 1) := by decide +kernel
theorem dJ0_charAt_5068e_12 : decode cJ0_charAt_5068e 12 = .ok (.invokestatic 495, 3) := by decide +kernel
theorem dJ0_charAt_5068e_15 : decode cJ0_charAt_5068e 15 = .ok (.ireturn, 1) := by decide +kernel
theorem dJ0_charAt_5068e_16 : decode cJ0_charAt_5068e 16 = .ok (.aload_n 0, 1) := by decide +kernel
theorem dJ0_charAt_5068e_17 : decode cJ0_charAt_5068e 17 = .ok (.getfield 9, 3) := by decide +kernel
theorem dJ0_charAt_5068e_20 : decode cJ0_charAt_5068e 20 = .ok (.iload_n 1, 1) := by decide +kernel
theorem dJ0_charAt_5068e_21 : decode cJ0_charAt_5068e 21 = .ok (.invokestatic 498, 3) := by decide +kernel
theorem dJ0_charAt_5068e_24 : decode cJ0_charAt_5068e 24 = .ok (.ireturn, 1) := by decide +kernel
theorem dJ0_coder_7d493_0 : decode cJ0_coder_7d493 0 = .ok (.getstatic 38, 3) := by decide +kernel
theorem dJ0_coder_7d493_3 : decode cJ0_coder_7d493 3 = .ok (.ifCond .eq 10, 3) := by decide +kernel
theorem dJ0_coder_7d493_6 : decode cJ0_coder_7d493 6 = .ok (.aload_n 0, 1) := by decide +kernel
theorem dJ0_coder_7d493_7 : decode cJ0_coder_7d493 7 = .ok (.getfield 15, 3) := by decide +kernel
theorem dJ0_coder_7d493_10 : decode cJ0_coder_7d493 10 = .ok (.goto 4, 3) := by decide +kernel
theorem dJ0_coder_7d493_13 : decode cJ0_coder_7d493 13 = .ok (.iconst 1, 1) := by decide +kernel
theorem dJ0_coder_7d493_14 : decode cJ0_coder_7d493 14 = .ok (.ireturn, 1) := by decide +kernel
theorem dJ0_isLatin1_aae02_0 : decode cJ0_isLatin1_aae02 0 = .ok (.getstatic 38, 3) := by decide +kernel
theorem dJ0_isLatin1_aae02_3 : decode cJ0_isLatin1_aae02 3 = .ok (.ifCond .eq 14, 3) := by decide +kernel
theorem dJ0_isLatin1_aae02_6 : decode cJ0_isLatin1_aae02 6 = .ok (.aload_n 0, 1) := by decide +kernel
theorem dJ0_isLatin1_aae02_7 : decode cJ0_isLatin1_aae02 7 = .ok (.getfield 15, 3) := by decide +kernel
theorem dJ0_isLatin1_aae02_10 : decode cJ0_isLatin1_aae02 10 = .ok (.ifCond .ne 7, 3) := by decide +kernel
theorem dJ0_isLatin1_aae02_13 : decode cJ0_isLatin1_aae02 13 = .ok (.iconst 1, 1) := by decide +kernel
theorem dJ0_isLatin1_aae02_14 : decode cJ0_isLatin1_aae02 14 = .ok (.goto 4, 3) := by decide +kernel
theorem dJ0_isLatin1_aae02_17 : decode cJ0_isLatin1_aae02 17 = .ok (.iconst 0, 1) := by decide +kernel
theorem dJ0_isLatin1_aae02_18 : decode cJ0_isLatin1_aae02 18 = .ok (.ireturn, 1) := by decide +kernel
theorem dJ0_checkIndex_df160_0 : decode cJ0_checkIndex_df160 0 = .ok (.iload_n 0, 1) := by decide +kernel
theorem dJ0_checkIndex_df160_1 : decode cJ0_checkIndex_df160 1 = .ok (.iload_n 1, 1) := by decide +kernel
theorem dJ0_checkIndex_df160_2 : decode cJ0_checkIndex_df160 2 = .ok (.getstatic 1053, 3) := by decide +kernel
theorem dJ0_checkIndex_df160_5 : decode cJ0_checkIndex_df160 5 = .ok (.invokestatic 1059, 3) := by decide +kernel
theorem dJ0_checkIndex_df160_8 : decode cJ0_checkIndex_df160 8 = .ok (.pop, 1) := by decide +kernel
theorem dJ0_checkIndex_df160_9 : decode cJ0_checkIndex_df160 9 = .ok (.return_, 1) := by decide +kernel
theorem dJ1_charAt_3b067_0 : decode cJ1_charAt_3b067 0 = .ok (.iload_n 1, 1) := by decide +kernel
theorem dJ1_charAt_3b067_1 : decode cJ1_charAt_3b067 1 = .ok (.aload_n 0, 1) := by decide +kernel
theorem dJ1_charAt_3b067_2 : decode cJ1_charAt_3b067 2 = .ok (.arraylength, 1) := by decide +kernel
theorem dJ1_charAt_3b067_3 : decode cJ1_charAt_3b067 3 = .ok (.invokestatic 9, 3) := by decide +kernel
theorem dJ1_charAt_3b067_6 : decode cJ1_charAt_3b067 6 = .ok (.aload_n 0, 1) := by decide +kernel
theorem dJ1_charAt_3b067_7 : decode cJ1_charAt_3b067 7 = .ok (.iload_n 1, 1) := by decide +kernel
theorem dJ1_charAt_3b067_8 : decode cJ1_charAt_3b067 8 = .ok (.baload, 1) := by decide +kernel
theorem dJ1_charAt_3b067_9 : decode cJ1_charAt_3b067 9 = .ok (.sipush 255, 3) := by decide +kernel
theorem dJ1_charAt_3b067_12 : decode cJ1_charAt_3b067 12 = .ok (.iand, 1) := by decide +kernel
theorem dJ1_charAt_3b067_13 : decode cJ1_charAt_3b067 13 = .ok (.i2c, 1) := by decide +kernel
theorem dJ1_charAt_3b067_14 : decode cJ1_charAt_3b067 14 = .ok (.ireturn, 1) := by decide +kernel
theorem dJ2_getChar_3b067_0 : decode cJ2_getChar_3b067 0 = .ok (.getstatic 44, 3) := by decide +kernel
theorem dJ2_getChar_3b067_3 : decode cJ2_getChar_3b067 3 = .ok (.ifCond .ne 25, 3) := by decide +kernel
theorem dJ2_getChar_3b067_6 : decode cJ2_getChar_3b067 6 = .ok (.iload_n 1, 1) := by decide +kernel
theorem dJ2_getChar_3b067_7 : decode cJ2_getChar_3b067 7 = .ok (.ifCond .lt 11, 3) := by decide +kernel
theorem dJ2_getChar_3b067_10 : decode cJ2_getChar_3b067 10 = .ok (.iload_n 1, 1) := by decide +kernel
theorem dJ2_getChar_3b067_11 : decode cJ2_getChar_3b067 11 = .ok (.aload_n 0, 1) := by decide +kernel
theorem dJ2_getChar_3b067_12 : decode cJ2_getChar_3b067 12 = .ok (.invokestatic 48, 3) := by decide +kernel
theorem dJ2_getChar_3b067_15 : decode cJ2_getChar_3b067 15 = .ok (.if_icmp .lt 13, 3) := by decide +kernel
theorem dJ2_getChar_3b067_18 : decode cJ2_getChar_3b067 18 = .ok (.new 52, 3) := by decide +kernel
theorem dJ2_getChar_3b067_21 : decode cJ2_getChar_3b067 21 = .ok (.dup, 1) := by decide +kernel
theorem dJ2_getChar_3b067_22 : decode cJ2_getChar_3b067 22 = .ok (.ldc 54, 2) := by decide +kernel
theorem dJ2_getChar_3b067_24 : decode cJ2_getChar_3b067 24 = .ok (.invokespecial 56, 3) := by decide +kernel
theorem dJ2_getChar_3b067_27 : decode cJ2_getChar_3b067 27 = .ok (.athrow, 1) := by decide +kernel
theorem dJ2_getChar_3b067_28 : decode cJ2_getChar_3b067 28 = .ok (.iload_n 1, 1) := by decide +kernel
theorem dJ2_getChar_3b067_29 : decode cJ2_getChar_3b067 29 = .ok (.iconst 1, 1) := by decide +kernel
theorem dJ2_getChar_3b067_30 : decode cJ2_getChar_3b067 30 = .ok (.ishl, 1) := by decide +kernel
theorem dJ2_getChar_3b067_31 : decode cJ2_getChar_3b067 31 = .ok (.istore_n 1, 1) := by decide +kernel
theorem dJ2_getChar_3b067_32 : decode cJ2_getChar_3b067 32 = .ok (.aload_n 0, 1) := by decide +kernel
theorem dJ2_getChar_3b067_33 : decode cJ2_getChar_3b067 33 = .ok (.iload_n 1, 1) := by decide +kernel
theorem dJ2_getChar_3b067_34 : decode cJ2_getChar_3b067 34 = .ok (.iinc 1 1, 3) := by decide +kernel
theorem dJ2_getChar_3b067_37 : decode cJ2_getChar_3b067 37 = .ok (.baload, 1) := by decide +kernel
theorem dJ2_getChar_3b067_38 : decode cJ2_getChar_3b067 38 = .ok (.sipush 255, 3) := by decide +kernel
theorem dJ2_getChar_3b067_41 : decode cJ2_getChar_3b067 41 = .ok (.iand, 1) := by decide +kernel
theorem dJ2_getChar_3b067_42 : decode cJ2_getChar_3b067 42 = .ok (.getstatic 59, 3) := by decide +kernel
theorem dJ2_getChar_3b067_45 : decode cJ2_getChar_3b067 45 = .ok (.ishl, 1) := by decide +kernel
theorem dJ2_getChar_3b067_46 : decode cJ2_getChar_3b067 46 = .ok (.aload_n 0, 1) := by decide +kernel
theorem dJ2_getChar_3b067_47 : decode cJ2_getChar_3b067 47 = .ok (.iload_n 1, 1) := by decide +kernel
theorem dJ2_getChar_3b067_48 : decode cJ2_getChar_3b067 48 = .ok (.baload, 1) := by decide +kernel
theorem dJ2_getChar_3b067_49 : decode cJ2_getChar_3b067 49 = .ok (.sipush 255, 3) := by decide +kernel
theorem dJ2_getChar_3b067_52 : decode cJ2_getChar_3b067 52 = .ok (.iand, 1) := by decide +kernel
theorem dJ2_getChar_3b067_53 : decode cJ2_getChar_3b067 53 = .ok (.getstatic 63, 3) := by decide +kernel
theorem dJ2_getChar_3b067_56 : decode cJ2_getChar_3b067 56 = .ok (.ishl, 1) := by decide +kernel
theorem dJ2_getChar_3b067_57 : decode cJ2_getChar_3b067 57 = .ok (.ior, 1) := by decide +kernel
theorem dJ2_getChar_3b067_58 : decode cJ2_getChar_3b067 58 = .ok (.i2c, 1) := by decide +kernel
theorem dJ2_getChar_3b067_59 : decode cJ2_getChar_3b067 59 = .ok (.ireturn, 1) := by decide +kernel
theorem dJ2_length_9d52b_0 : decode cJ2_length_9d52b 0 = .ok (.aload_n 0, 1) := by decide +kernel
theorem dJ2_length_9d52b_1 : decode cJ2_length_9d52b 1 = .ok (.arraylength, 1) := by decide +kernel
theorem dJ2_length_9d52b_2 : decode cJ2_length_9d52b 2 = .ok (.iconst 1, 1) := by decide +kernel
theorem dJ2_length_9d52b_3 : decode cJ2_length_9d52b 3 = .ok (.ishr, 1) := by decide +kernel
theorem dJ2_length_9d52b_4 : decode cJ2_length_9d52b 4 = .ok (.ireturn, 1) := by decide +kernel
theorem dJ2_charAt_3b067_0 : decode cJ2_charAt_3b067 0 = .ok (.iload_n 1, 1) := by decide +kernel
theorem dJ2_charAt_3b067_1 : decode cJ2_charAt_3b067 1 = .ok (.aload_n 0, 1) := by decide +kernel
theorem dJ2_charAt_3b067_2 : decode cJ2_charAt_3b067 2 = .ok (.invokestatic 67, 3) := by decide +kernel
theorem dJ2_charAt_3b067_5 : decode cJ2_charAt_3b067 5 = .ok (.aload_n 0, 1) := by decide +kernel
theorem dJ2_charAt_3b067_6 : decode cJ2_charAt_3b067 6 = .ok (.iload_n 1, 1) := by decide +kernel
theorem dJ2_charAt_3b067_7 : decode cJ2_charAt_3b067 7 = .ok (.invokestatic 71, 3) := by decide +kernel
theorem dJ2_charAt_3b067_10 : decode cJ2_charAt_3b067 10 = .ok (.ireturn, 1) := by decide +kernel
theorem dJ2_checkIndex_2214a_0 : decode cJ2_checkIndex_2214a 0 = .ok (.iload_n 0, 1) := by decide +kernel
theorem dJ2_checkIndex_2214a_1 : decode cJ2_checkIndex_2214a 1 = .ok (.aload_n 1, 1) := by decide +kernel
theorem dJ2_checkIndex_2214a_2 : decode cJ2_checkIndex_2214a 2 = .ok (.invokestatic 48, 3) := by decide +kernel
theorem dJ2_checkIndex_2214a_5 : decode cJ2_checkIndex_2214a 5 = .ok (.invokestatic 414, 3) := by decide +kernel
theorem dJ2_checkIndex_2214a_8 : decode cJ2_checkIndex_2214a 8 = .ok (.return_, 1) := by decide +kernel
theorem dJxa1e45_init_da8c8_0 : decode cJxa1e45_init_da8c8 0 = .ok (.aload_n 0, 1) := by decide +kernel
theorem dJxa1e45_init_da8c8_1 : decode cJxa1e45_init_da8c8 1 = .ok (.invokespecial 1, 3) := by decide +kernel
theorem dJxa1e45_init_da8c8_4 : decode cJxa1e45_init_da8c8 4 = .ok (.return_, 1) := by decide +kernel
theorem dJxc12de_init_da8c8_0 : decode cJxc12de_init_da8c8 0 = .ok (.aload_n 0, 1) := by decide +kernel
theorem dJxc12de_init_da8c8_1 : decode cJxc12de_init_da8c8 1 = .ok (.invokespecial 1, 3) := by decide +kernel
theorem dJxc12de_init_da8c8_4 : decode cJxc12de_init_da8c8 4 = .ok (.aload_n 0, 1) := by decide +kernel
theorem dJxc12de_init_da8c8_5 : decode cJxc12de_init_da8c8 5 = .ok (.iconst 0, 1) := by decide +kernel
theorem dJxc12de_init_da8c8_6 : decode cJxc12de_init_da8c8 6 = .ok (.putfield 7, 3) := by decide +kernel
theorem dJxc12de_init_da8c8_9 : decode cJxc12de_init_da8c8 9 = .ok (.return_, 1) := by decide +kernel
theorem dJx4a65c_init_da8c8_0 : decode cJx4a65c_init_da8c8 0 = .ok (.aload_n 0, 1) := by decide +kernel
theorem dJx4a65c_init_da8c8_1 : decode cJx4a65c_init_da8c8 1 = .ok (.invokespecial 1, 3) := by decide +kernel
theorem dJx4a65c_init_da8c8_4 : decode cJx4a65c_init_da8c8 4 = .ok (.aload_n 0, 1) := by decide +kernel
theorem dJx4a65c_init_da8c8_5 : decode cJx4a65c_init_da8c8 5 = .ok (.getstatic 39, 3) := by decide +kernel
theorem dJx4a65c_init_da8c8_8 : decode cJx4a65c_init_da8c8 8 = .ok (.putfield 9, 3) := by decide +kernel
theorem dJx4a65c_init_da8c8_11 : decode cJx4a65c_init_da8c8 11 = .ok (.return_, 1) := by decide +kernel
theorem dJx4a65c_grow_92f84_0 : decode cJx4a65c_grow_92f84 0 = .ok (.aload_n 0, 1) := by decide +kernel
theorem dJx4a65c_grow_92f84_1 : decode cJx4a65c_grow_92f84 1 = .ok (.getfield 9, 3) := by decide +kernel
theorem dJx4a65c_grow_92f84_4 : decode cJx4a65c_grow_92f84 4 = .ok (.arraylength, 1) := by decide +kernel
theorem dJx4a65c_grow_92f84_5 : decode cJx4a65c_grow_92f84 5 = .ok (.istore_n 2, 1) := by decide +kernel
theorem dJx4a65c_grow_92f84_6 : decode cJx4a65c_grow_92f84 6 = .ok (.iload_n 2, 1) := by decide +kernel
theorem dJx4a65c_grow_92f84_7 : decode cJx4a65c_grow_92f84 7 = .ok (.ifCond .gt 13, 3) := by decide +kernel
theorem dJx4a65c_grow_92f84_10 : decode cJx4a65c_grow_92f84 10 = .ok (.aload_n 0, 1) := by decide +kernel
theorem dJx4a65c_grow_92f84_11 : decode cJx4a65c_grow_92f84 11 = .ok (.getfield 9, 3) := by decide +kernel
theorem dJx4a65c_grow_92f84_14 : decode cJx4a65c_grow_92f84 14 = .ok (.getstatic 39, 3) := by decide +kernel
theorem dJx4a65c_grow_92f84_17 : decode cJx4a65c_grow_92f84 17 = .ok (.if_acmp .eq 28, 3) := by decide +kernel
theorem dJx4a65c_grow_92f84_20 : decode cJx4a65c_grow_92f84 20 = .ok (.iload_n 2, 1) := by decide +kernel
theorem dJx4a65c_grow_92f84_21 : decode cJx4a65c_grow_92f84 21 = .ok (.iload_n 1, 1) := by decide +kernel
theorem dJx4a65c_grow_92f84_22 : decode cJx4a65c_grow_92f84 22 = .ok (.iload_n 2, 1) := by decide +kernel
theorem dJx4a65c_grow_92f84_23 : decode cJx4a65c_grow_92f84 23 = .ok (.isub, 1) := by decide +kernel
theorem dJx4a65c_grow_92f84_24 : decode cJx4a65c_grow_92f84 24 = .ok (.iload_n 2, 1) := by decide +kernel
theorem dJx4a65c_grow_92f84_25 : decode cJx4a65c_grow_92f84 25 = .ok (.iconst 1, 1) := by decide +kernel
theorem dJx4a65c_grow_92f84_26 : decode cJx4a65c_grow_92f84 26 = .ok (.ishr, 1) := by decide +kernel
theorem dJx4a65c_grow_92f84_27 : decode cJx4a65c_grow_92f84 27 = .ok (.invokestatic 73, 3) := by decide +kernel
theorem dJx4a65c_grow_92f84_30 : decode cJx4a65c_grow_92f84 30 = .ok (.istore_n 3, 1) := by decide +kernel
theorem dJx4a65c_grow_92f84_31 : decode cJx4a65c_grow_92f84 31 = .ok (.aload_n 0, 1) := by decide +kernel
theorem dJx4a65c_grow_92f84_32 : decode cJx4a65c_grow_92f84 32 = .ok (.aload_n 0, 1) := by decide +kernel
theorem dJx4a65c_grow_92f84_33 : decode cJx4a65c_grow_92f84 33 = .ok (.getfield 9, 3) := by decide +kernel
theorem dJx4a65c_grow_92f84_36 : decode cJx4a65c_grow_92f84 36 = .ok (.iload_n 3, 1) := by decide +kernel
theorem dJx4a65c_grow_92f84_37 : decode cJx4a65c_grow_92f84 37 = .ok (.invokestatic 66, 3) := by decide +kernel
theorem dJx4a65c_grow_92f84_40 : decode cJx4a65c_grow_92f84 40 = .ok (.dup_x1, 1) := by decide +kernel
theorem dJx4a65c_grow_92f84_41 : decode cJx4a65c_grow_92f84 41 = .ok (.putfield 9, 3) := by decide +kernel
theorem dJx4a65c_grow_92f84_44 : decode cJx4a65c_grow_92f84 44 = .ok (.areturn, 1) := by decide +kernel
theorem dJx4a65c_grow_92f84_45 : decode cJx4a65c_grow_92f84 45 = .ok (.aload_n 0, 1) := by decide +kernel
theorem dJx4a65c_grow_92f84_46 : decode cJx4a65c_grow_92f84 46 = .ok (.bipush 10, 2) := by decide +kernel
theorem dJx4a65c_grow_92f84_48 : decode cJx4a65c_grow_92f84 48 = .ok (.iload_n 1, 1) := by decide +kernel
theorem dJx4a65c_grow_92f84_49 : decode cJx4a65c_grow_92f84 49 = .ok (.invokestatic 79, 3) := by decide +kernel
theorem dJx4a65c_grow_92f84_52 : decode cJx4a65c_grow_92f84 52 = .ok (.anewarray 7, 3) := by decide +kernel
theorem dJx4a65c_grow_92f84_55 : decode cJx4a65c_grow_92f84 55 = .ok (.dup_x1, 1) := by decide +kernel
theorem dJx4a65c_grow_92f84_56 : decode cJx4a65c_grow_92f84 56 = .ok (.putfield 9, 3) := by decide +kernel
theorem dJx4a65c_grow_92f84_59 : decode cJx4a65c_grow_92f84 59 = .ok (.areturn, 1) := by decide +kernel
theorem dJx4a65c_grow_d5877_0 : decode cJx4a65c_grow_d5877 0 = .ok (.aload_n 0, 1) := by decide +kernel
theorem dJx4a65c_grow_d5877_1 : decode cJx4a65c_grow_d5877 1 = .ok (.aload_n 0, 1) := by decide +kernel
theorem dJx4a65c_grow_d5877_2 : decode cJx4a65c_grow_d5877 2 = .ok (.getfield 48, 3) := by decide +kernel
theorem dJx4a65c_grow_d5877_5 : decode cJx4a65c_grow_d5877 5 = .ok (.iconst 1, 1) := by decide +kernel
theorem dJx4a65c_grow_d5877_6 : decode cJx4a65c_grow_d5877 6 = .ok (.iadd, 1) := by decide +kernel
theorem dJx4a65c_grow_d5877_7 : decode cJx4a65c_grow_d5877 7 = .ok (.invokevirtual 69, 3) := by decide +kernel
theorem dJx4a65c_grow_d5877_10 : decode cJx4a65c_grow_d5877 10 = .ok (.areturn, 1) := by decide +kernel
theorem dJx4a65c_size_8abf5_0 : decode cJx4a65c_size_8abf5 0 = .ok (.aload_n 0, 1) := by decide +kernel
theorem dJx4a65c_size_8abf5_1 : decode cJx4a65c_size_8abf5 1 = .ok (.getfield 48, 3) := by decide +kernel
theorem dJx4a65c_size_8abf5_4 : decode cJx4a65c_size_8abf5 4 = .ok (.ireturn, 1) := by decide +kernel
theorem dJx4a65c_elementData_915e3_0 : decode cJx4a65c_elementData_915e3 0 = .ok (.aload_n 0, 1) := by decide +kernel
theorem dJx4a65c_elementData_915e3_1 : decode cJx4a65c_elementData_915e3 1 = .ok (.getfield 9, 3) := by decide +kernel
theorem dJx4a65c_elementData_915e3_4 : decode cJx4a65c_elementData_915e3 4 = .ok (.iload_n 1, 1) := by decide +kernel
theorem dJx4a65c_elementData_915e3_5 : decode cJx4a65c_elementData_915e3 5 = .ok (.aaload, 1) := by decide +kernel
theorem dJx4a65c_elementData_915e3_6 : decode cJx4a65c_elementData_915e3 6 = .ok (.areturn, 1) := by decide +kernel
theorem dJx4a65c_get_915e3_0 : decode cJx4a65c_get_915e3 0 = .ok (.iload_n 1, 1) := by decide +kernel
theorem dJx4a65c_get_915e3_1 : decode cJx4a65c_get_915e3 1 = .ok (.aload_n 0, 1) := by decide +kernel
theorem dJx4a65c_get_915e3_2 : decode cJx4a65c_get_915e3 2 = .ok (.getfield 48, 3) := by decide +kernel
theorem dJx4a65c_get_915e3_5 : decode cJx4a65c_get_915e3 5 = .ok (.invokestatic 118, 3) := by decide +kernel
theorem dJx4a65c_get_915e3_8 : decode cJx4a65c_get_915e3 8 = .ok (.pop, 1) := by decide +kernel
theorem dJx4a65c_get_915e3_9 : decode cJx4a65c_get_915e3 9 = .ok (.aload_n 0, 1) := by decide +kernel
theorem dJx4a65c_get_915e3_10 : decode cJx4a65c_get_915e3 10 = .ok (.iload_n 1, 1) := by decide +kernel
theorem dJx4a65c_get_915e3_11 : decode cJx4a65c_get_915e3 11 = .ok (.invokevirtual 123, 3) := by decide +kernel
theorem dJx4a65c_get_915e3_14 : decode cJx4a65c_get_915e3 14 = .ok (.areturn, 1) := by decide +kernel
theorem dJx4a65c_add_72be8_0 : decode cJx4a65c_add_72be8 0 = .ok (.iload_n 3, 1) := by decide +kernel
theorem dJx4a65c_add_72be8_1 : decode cJx4a65c_add_72be8 1 = .ok (.aload_n 2, 1) := by decide +kernel
theorem dJx4a65c_add_72be8_2 : decode cJx4a65c_add_72be8 2 = .ok (.arraylength, 1) := by decide +kernel
theorem dJx4a65c_add_72be8_3 : decode cJx4a65c_add_72be8 3 = .ok (.if_icmp .ne 8, 3) := by decide +kernel
theorem dJx4a65c_add_72be8_6 : decode cJx4a65c_add_72be8 6 = .ok (.aload_n 0, 1) := by decide +kernel
theorem dJx4a65c_add_72be8_7 : decode cJx4a65c_add_72be8 7 = .ok (.invokevirtual 129, 3) := by decide +kernel
theorem dJx4a65c_add_72be8_10 : decode cJx4a65c_add_72be8 10 = .ok (.astore_n 2, 1) := by decide +kernel
theorem dJx4a65c_add_72be8_11 : decode cJx4a65c_add_72be8 11 = .ok (.aload_n 2, 1) := by decide +kernel
theorem dJx4a65c_add_72be8_12 : decode cJx4a65c_add_72be8 12 = .ok (.iload_n 3, 1) := by decide +kernel
theorem dJx4a65c_add_72be8_13 : decode cJx4a65c_add_72be8 13 = .ok (.aload_n 1, 1) := by decide +kernel
theorem dJx4a65c_add_72be8_14 : decode cJx4a65c_add_72be8 14 = .ok (.aastore, 1) := by decide +kernel
theorem dJx4a65c_add_72be8_15 : decode cJx4a65c_add_72be8 15 = .ok (.aload_n 0, 1) := by decide +kernel
theorem dJx4a65c_add_72be8_16 : decode cJx4a65c_add_72be8 16 = .ok (.iload_n 3, 1) := by decide +kernel
theorem dJx4a65c_add_72be8_17 : decode cJx4a65c_add_72be8 17 = .ok (.iconst 1, 1) := by decide +kernel
theorem dJx4a65c_add_72be8_18 : decode cJx4a65c_add_72be8 18 = .ok (.iadd, 1) := by decide +kernel
theorem dJx4a65c_add_72be8_19 : decode cJx4a65c_add_72be8 19 = .ok (.putfield 48, 3) := by decide +kernel
theorem dJx4a65c_add_72be8_22 : decode cJx4a65c_add_72be8 22 = .ok (.return_, 1) := by decide +kernel
theorem dJx4a65c_add_9ea2d_0 : decode cJx4a65c_add_9ea2d 0 = .ok (.aload_n 0, 1) := by decide +kernel
theorem dJx4a65c_add_9ea2d_1 : decode cJx4a65c_add_9ea2d 1 = .ok (.dup, 1) := by decide +kernel
theorem dJx4a65c_add_9ea2d_2 : decode cJx4a65c_add_9ea2d 2 = .ok (.getfield 63, 3) := by decide +kernel
theorem dJx4a65c_add_9ea2d_5 : decode cJx4a65c_add_9ea2d 5 = .ok (.iconst 1, 1) := by decide +kernel
theorem dJx4a65c_add_9ea2d_6 : decode cJx4a65c_add_9ea2d 6 = .ok (.iadd, 1) := by decide +kernel
theorem dJx4a65c_add_9ea2d_7 : decode cJx4a65c_add_9ea2d 7 = .ok (.putfield 63, 3) := by decide +kernel
theorem dJx4a65c_add_9ea2d_10 : decode cJx4a65c_add_9ea2d 10 = .ok (.aload_n 0, 1) := by decide +kernel
theorem dJx4a65c_add_9ea2d_11 : decode cJx4a65c_add_9ea2d 11 = .ok (.aload_n 1, 1) := by decide +kernel
theorem dJx4a65c_add_9ea2d_12 : decode cJx4a65c_add_9ea2d 12 = .ok (.aload_n 0, 1) := by decide +kernel
theorem dJx4a65c_add_9ea2d_13 : decode cJx4a65c_add_9ea2d 13 = .ok (.getfield 9, 3) := by decide +kernel
theorem dJx4a65c_add_9ea2d_16 : decode cJx4a65c_add_9ea2d 16 = .ok (.aload_n 0, 1) := by decide +kernel
theorem dJx4a65c_add_9ea2d_17 : decode cJx4a65c_add_9ea2d 17 = .ok (.getfield 48, 3) := by decide +kernel
theorem dJx4a65c_add_9ea2d_20 : decode cJx4a65c_add_9ea2d 20 = .ok (.invokevirtual 131, 3) := by decide +kernel
theorem dJx4a65c_add_9ea2d_23 : decode cJx4a65c_add_9ea2d 23 = .ok (.iconst 1, 1) := by decide +kernel
theorem dJx4a65c_add_9ea2d_24 : decode cJx4a65c_add_9ea2d 24 = .ok (.ireturn, 1) := by decide +kernel
theorem dJ7_copyOf_1904c_0 : decode cJ7_copyOf_1904c 0 = .ok (.aload_n 0, 1) := by decide +kernel
theorem dJ7_copyOf_1904c_1 : decode cJ7_copyOf_1904c 1 = .ok (.iload_n 1, 1) := by decide +kernel
theorem dJ7_copyOf_1904c_2 : decode cJ7_copyOf_1904c 2 = .ok (.aload_n 0, 1) := by decide +kernel
theorem dJ7_copyOf_1904c_3 : decode cJ7_copyOf_1904c 3 = .ok (.invokevirtual 86, 3) := by decide +kernel
theorem dJ7_copyOf_1904c_6 : decode cJ7_copyOf_1904c 6 = .ok (.invokestatic 300, 3) := by decide +kernel
theorem dJ7_copyOf_1904c_9 : decode cJ7_copyOf_1904c 9 = .ok (.areturn, 1) := by decide +kernel
theorem dJ7_copyOf_6403c_0 : decode cJ7_copyOf_6403c 0 = .ok (.aload_n 2, 1) := by decide +kernel
theorem dJ7_copyOf_6403c_1 : decode cJ7_copyOf_6403c 1 = .ok (.ldc 110, 2) := by decide +kernel
theorem dJ7_copyOf_6403c_3 : decode cJ7_copyOf_6403c 3 = .ok (.if_acmp .ne 10, 3) := by decide +kernel
theorem dJ7_copyOf_6403c_6 : decode cJ7_copyOf_6403c 6 = .ok (.iload_n 1, 1) := by decide +kernel
theorem dJ7_copyOf_6403c_7 : decode cJ7_copyOf_6403c 7 = .ok (.anewarray 2, 3) := by decide +kernel
theorem dJ7_copyOf_6403c_10 : decode cJ7_copyOf_6403c 10 = .ok (.goto 14, 3) := by decide +kernel
theorem dJ7_copyOf_6403c_13 : decode cJ7_copyOf_6403c 13 = .ok (.aload_n 2, 1) := by decide +kernel
theorem dJ7_copyOf_6403c_14 : decode cJ7_copyOf_6403c 14 = .ok (.invokevirtual 90, 3) := by decide +kernel
theorem dJ7_copyOf_6403c_17 : decode cJ7_copyOf_6403c 17 = .ok (.iload_n 1, 1) := by decide +kernel
theorem dJ7_copyOf_6403c_18 : decode cJ7_copyOf_6403c 18 = .ok (.invokestatic 95, 3) := by decide +kernel
theorem dJ7_copyOf_6403c_21 : decode cJ7_copyOf_6403c 21 = .ok (.checkcast 110, 3) := by decide +kernel
theorem dJ7_copyOf_6403c_24 : decode cJ7_copyOf_6403c 24 = .ok (.astore_n 3, 1) := by decide +kernel
theorem dJ7_copyOf_6403c_25 : decode cJ7_copyOf_6403c 25 = .ok (.aload_n 0, 1) := by decide +kernel
theorem dJ7_copyOf_6403c_26 : decode cJ7_copyOf_6403c 26 = .ok (.iconst 0, 1) := by decide +kernel
theorem dJ7_copyOf_6403c_27 : decode cJ7_copyOf_6403c 27 = .ok (.aload_n 3, 1) := by decide +kernel
theorem dJ7_copyOf_6403c_28 : decode cJ7_copyOf_6403c 28 = .ok (.iconst 0, 1) := by decide +kernel
theorem dJ7_copyOf_6403c_29 : decode cJ7_copyOf_6403c 29 = .ok (.aload_n 0, 1) := by decide +kernel
theorem dJ7_copyOf_6403c_30 : decode cJ7_copyOf_6403c 30 = .ok (.arraylength, 1) := by decide +kernel
theorem dJ7_copyOf_6403c_31 : decode cJ7_copyOf_6403c 31 = .ok (.iload_n 1, 1) := by decide +kernel
theorem dJ7_copyOf_6403c_32 : decode cJ7_copyOf_6403c 32 = .ok (.invokestatic 304, 3) := by decide +kernel
theorem dJ7_copyOf_6403c_35 : decode cJ7_copyOf_6403c 35 = .ok (.invokestatic 150, 3) := by decide +kernel
theorem dJ7_copyOf_6403c_38 : decode cJ7_copyOf_6403c 38 = .ok (.aload_n 3, 1) := by decide +kernel
theorem dJ7_copyOf_6403c_39 : decode cJ7_copyOf_6403c 39 = .ok (.areturn, 1) := by decide +kernel
theorem dJ15_checkIndex_7cf53_0 : decode cJ15_checkIndex_7cf53 0 = .ok (.iload_n 0, 1) := by decide +kernel
theorem dJ15_checkIndex_7cf53_1 : decode cJ15_checkIndex_7cf53 1 = .ok (.iload_n 1, 1) := by decide +kernel
theorem dJ15_checkIndex_7cf53_2 : decode cJ15_checkIndex_7cf53 2 = .ok (.aconst_null, 1) := by decide +kernel
theorem dJ15_checkIndex_7cf53_3 : decode cJ15_checkIndex_7cf53 3 = .ok (.invokestatic 105, 3) := by decide +kernel
theorem dJ15_checkIndex_7cf53_6 : decode cJ15_checkIndex_7cf53 6 = .ok (.ireturn, 1) := by decide +kernel
theorem dJ8_newLength_cabcc_0 : decode cJ8_newLength_cabcc 0 = .ok (.iload_n 0, 1) := by decide +kernel
theorem dJ8_newLength_cabcc_1 : decode cJ8_newLength_cabcc 1 = .ok (.iload_n 1, 1) := by decide +kernel
theorem dJ8_newLength_cabcc_2 : decode cJ8_newLength_cabcc 2 = .ok (.iload_n 2, 1) := by decide +kernel
theorem dJ8_newLength_cabcc_3 : decode cJ8_newLength_cabcc 3 = .ok (.invokestatic 194, 3) := by decide +kernel
theorem dJ8_newLength_cabcc_6 : decode cJ8_newLength_cabcc 6 = .ok (.iadd, 1) := by decide +kernel
theorem dJ8_newLength_cabcc_7 : decode cJ8_newLength_cabcc 7 = .ok (.istore_n 3, 1) := by decide +kernel
theorem dJ8_newLength_cabcc_8 : decode cJ8_newLength_cabcc 8 = .ok (.iconst 0, 1) := by decide +kernel
theorem dJ8_newLength_cabcc_9 : decode cJ8_newLength_cabcc 9 = .ok (.iload_n 3, 1) := by decide +kernel
theorem dJ8_newLength_cabcc_10 : decode cJ8_newLength_cabcc 10 = .ok (.if_icmp .ge 11, 3) := by decide +kernel
theorem dJ8_newLength_cabcc_13 : decode cJ8_newLength_cabcc 13 = .ok (.iload_n 3, 1) := by decide +kernel
theorem dJ8_newLength_cabcc_14 : decode cJ8_newLength_cabcc 14 = .ok (.ldc 200, 2) := by decide +kernel
theorem dJ8_newLength_cabcc_16 : decode cJ8_newLength_cabcc 16 = .ok (.if_icmp .gt 5, 3) := by decide +kernel
theorem dJ8_newLength_cabcc_19 : decode cJ8_newLength_cabcc 19 = .ok (.iload_n 3, 1) := by decide +kernel
theorem dJ8_newLength_cabcc_20 : decode cJ8_newLength_cabcc 20 = .ok (.ireturn, 1) := by decide +kernel
theorem dJ8_newLength_cabcc_21 : decode cJ8_newLength_cabcc 21 = .ok (.iload_n 0, 1) := by decide +kernel
theorem dJ8_newLength_cabcc_22 : decode cJ8_newLength_cabcc 22 = .ok (.iload_n 1, 1) := by decide +kernel
theorem dJ8_newLength_cabcc_23 : decode cJ8_newLength_cabcc 23 = .ok (.invokestatic 201, 3) := by decide +kernel
theorem dJ8_newLength_cabcc_26 : decode cJ8_newLength_cabcc 26 = .ok (.ireturn, 1) := by decide +kernel
theorem dJ8_hugeLength_7cf53_0 : decode cJ8_hugeLength_7cf53 0 = .ok (.iload_n 0, 1) := by decide +kernel
theorem dJ8_hugeLength_7cf53_1 : decode cJ8_hugeLength_7cf53 1 = .ok (.iload_n 1, 1) := by decide +kernel
theorem dJ8_hugeLength_7cf53_2 : decode cJ8_hugeLength_7cf53 2 = .ok (.iadd, 1) := by decide +kernel
theorem dJ8_hugeLength_7cf53_3 : decode cJ8_hugeLength_7cf53 3 = .ok (.istore_n 2, 1) := by decide +kernel
theorem dJ8_hugeLength_7cf53_4 : decode cJ8_hugeLength_7cf53 4 = .ok (.iload_n 2, 1) := by decide +kernel
theorem dJ8_hugeLength_7cf53_5 : decode cJ8_hugeLength_7cf53 5 = .ok (.ifCond .ge 44, 3) := by decide +kernel
theorem dJ8_hugeLength_7cf53_8 : decode cJ8_hugeLength_7cf53 8 = .ok (.new 204, 3) := by decide +kernel
theorem dJ8_hugeLength_7cf53_11 : decode cJ8_hugeLength_7cf53 11 = .ok (.dup, 1) := by decide +kernel
theorem dJ8_hugeLength_7cf53_12 : decode cJ8_hugeLength_7cf53 12 = .ok (.new 89, 3) := by decide +kernel
theorem dJ8_hugeLength_7cf53_15 : decode cJ8_hugeLength_7cf53 15 = .ok (.dup, 1) := by decide +kernel
theorem dJ8_hugeLength_7cf53_16 : decode cJ8_hugeLength_7cf53 16 = .ok (.invokespecial 91, 3) := by decide +kernel
theorem dJ8_hugeLength_7cf53_19 : decode cJ8_hugeLength_7cf53 19 = .ok (.ldc 206, 2) := by decide +kernel
theorem dJ8_hugeLength_7cf53_21 : decode cJ8_hugeLength_7cf53 21 = .ok (.invokevirtual 94, 3) := by decide +kernel
theorem dJ8_hugeLength_7cf53_24 : decode cJ8_hugeLength_7cf53 24 = .ok (.iload_n 0, 1) := by decide +kernel
theorem dJ8_hugeLength_7cf53_25 : decode cJ8_hugeLength_7cf53 25 = .ok (.invokevirtual 98, 3) := by decide +kernel

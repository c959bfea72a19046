theorem d_Mo_constant_451 : decode c_Mo_constant 451 = .ok (.ldc 127, 2) := by decide +kernel
theorem d_Mo_constant_453 : decode c_Mo_constant 453 = .ok (.ireturn, 1) := by decide +kernel
theorem d_Mo_constant_454 : decode c_Mo_constant 454 = .ok (.ldc 128, 2) := by decide +kernel
theorem d_Mo_constant_456 : decode c_Mo_constant 456 = .ok (.ireturn, 1) := by decide +kernel
theorem d_Mo_constant_457 : decode c_Mo_constant 457 = .ok (.ldc 129, 2) := by decide +kernel
theorem d_Mo_constant_459 : decode c_Mo_constant 459 = .ok (.ireturn, 1) := by decide +kernel
theorem d_Mo_right_0 : decode c_Mo_right 0 = .ok (.iload_n 0, 1) := by decide +kernel
theorem d_Mo_right_1 : decode c_Mo_right 1 = .ok (.iload_n 1, 1) := by decide +kernel
theorem d_Mo_right_2 : decode c_Mo_right 2 = .ok (.iushr, 1) := by decide +kernel
theorem d_Mo_right_3 : decode c_Mo_right 3 = .ok (.iload_n 0, 1) := by decide +kernel
theorem d_Mo_right_4 : decode c_Mo_right 4 = .ok (.bipush 32, 2) := by decide +kernel
theorem d_Mo_right_6 : decode c_Mo_right 6 = .ok (.iload_n 1, 1) := by decide +kernel
theorem d_Mo_right_7 : decode c_Mo_right 7 = .ok (.isub, 1) := by decide +kernel
theorem d_Mo_right_8 : decode c_Mo_right 8 = .ok (.ishl, 1) := by decide +kernel
theorem d_Mo_right_9 : decode c_Mo_right 9 = .ok (.ior, 1) := by decide +kernel
theorem d_Mo_right_10 : decode c_Mo_right 10 = .ok (.ireturn, 1) := by decide +kernel
theorem d_Mo_start_0 : decode c_Mo_start 0 = .ok (.iload_n 0, 1) := by decide +kernel
theorem d_Mo_start_1 : decode c_Mo_start 1 = .ok (.tableswitch 64 0 6 #[43, 46, 49, 52, 55, 58, 61], 43) := by decide +kernel
theorem d_Mo_start_44 : decode c_Mo_start 44 = .ok (.ldc 130, 2) := by decide +kernel
theorem d_Mo_start_46 : decode c_Mo_start 46 = .ok (.ireturn, 1) := by decide +kernel
theorem d_Mo_start_47 : decode c_Mo_start 47 = .ok (.ldc 131, 2) := by decide +kernel
theorem d_Mo_start_49 : decode c_Mo_start 49 = .ok (.ireturn, 1) := by decide +kernel
theorem d_Mo_start_50 : decode c_Mo_start 50 = .ok (.ldc 132, 2) := by decide +kernel
theorem d_Mo_start_52 : decode c_Mo_start 52 = .ok (.ireturn, 1) := by decide +kernel
theorem d_Mo_start_53 : decode c_Mo_start 53 = .ok (.ldc 133, 2) := by decide +kernel
theorem d_Mo_start_55 : decode c_Mo_start 55 = .ok (.ireturn, 1) := by decide +kernel
theorem d_Mo_start_56 : decode c_Mo_start 56 = .ok (.ldc 134, 2) := by decide +kernel
theorem d_Mo_start_58 : decode c_Mo_start 58 = .ok (.ireturn, 1) := by decide +kernel
theorem d_Mo_start_59 : decode c_Mo_start 59 = .ok (.ldc 135, 2) := by decide +kernel
theorem d_Mo_start_61 : decode c_Mo_start 61 = .ok (.ireturn, 1) := by decide +kernel
theorem d_Mo_start_62 : decode c_Mo_start 62 = .ok (.ldc 136, 2) := by decide +kernel
theorem d_Mo_start_64 : decode c_Mo_start 64 = .ok (.ireturn, 1) := by decide +kernel
theorem d_Mo_start_65 : decode c_Mo_start 65 = .ok (.ldc 137, 2) := by decide +kernel
theorem d_Mo_start_67 : decode c_Mo_start 67 = .ok (.ireturn, 1) := by decide +kernel
theorem d_Mo_padded_0 : decode c_Mo_padded 0 = .ok (.iload_n 1, 1) := by decide +kernel
theorem d_Mo_padded_1 : decode c_Mo_padded 1 = .ok (.aload_n 0, 1) := by decide +kernel
theorem d_Mo_padded_2 : decode c_Mo_padded 2 = .ok (.getfield 138, 3) := by decide +kernel
theorem d_Mo_padded_5 : decode c_Mo_padded 5 = .ok (.if_icmp .ge 10, 3) := by decide +kernel
theorem d_Mo_padded_8 : decode c_Mo_padded 8 = .ok (.aload_n 0, 1) := by decide +kernel
theorem d_Mo_padded_9 : decode c_Mo_padded 9 = .ok (.getfield 33, 3) := by decide +kernel
theorem d_Mo_padded_12 : decode c_Mo_padded 12 = .ok (.iload_n 1, 1) := by decide +kernel
theorem d_Mo_padded_13 : decode c_Mo_padded 13 = .ok (.iaload, 1) := by decide +kernel
theorem d_Mo_padded_14 : decode c_Mo_padded 14 = .ok (.ireturn, 1) := by decide +kernel
theorem d_Mo_padded_15 : decode c_Mo_padded 15 = .ok (.iload_n 1, 1) := by decide +kernel
theorem d_Mo_padded_16 : decode c_Mo_padded 16 = .ok (.aload_n 0, 1) := by decide +kernel
theorem d_Mo_padded_17 : decode c_Mo_padded 17 = .ok (.getfield 138, 3) := by decide +kernel
theorem d_Mo_padded_20 : decode c_Mo_padded 20 = .ok (.if_icmp .ne 7, 3) := by decide +kernel
theorem d_Mo_padded_23 : decode c_Mo_padded 23 = .ok (.sipush 128, 3) := by decide +kernel
theorem d_Mo_padded_26 : decode c_Mo_padded 26 = .ok (.ireturn, 1) := by decide +kernel
theorem d_Mo_padded_27 : decode c_Mo_padded 27 = .ok (.iload_n 2, 1) := by decide +kernel
theorem d_Mo_padded_28 : decode c_Mo_padded 28 = .ok (.iload_n 1, 1) := by decide +kernel
theorem d_Mo_padded_29 : decode c_Mo_padded 29 = .ok (.isub, 1) := by decide +kernel
theorem d_Mo_padded_30 : decode c_Mo_padded 30 = .ok (.istore_n 3, 1) := by decide +kernel
theorem d_Mo_padded_31 : decode c_Mo_padded 31 = .ok (.iload_n 3, 1) := by decide +kernel
theorem d_Mo_padded_32 : decode c_Mo_padded 32 = .ok (.iconst 4, 1) := by decide +kernel
theorem d_Mo_padded_33 : decode c_Mo_padded 33 = .ok (.if_icmp .le 7, 3) := by decide +kernel
theorem d_Mo_padded_36 : decode c_Mo_padded 36 = .ok (.iconst 0, 1) := by decide +kernel
theorem d_Mo_padded_37 : decode c_Mo_padded 37 = .ok (.goto 21, 3) := by decide +kernel
theorem d_Mo_padded_40 : decode c_Mo_padded 40 = .ok (.bipush 8, 2) := by decide +kernel
theorem d_Mo_padded_42 : decode c_Mo_padded 42 = .ok (.aload_n 0, 1) := by decide +kernel
theorem d_Mo_padded_43 : decode c_Mo_padded 43 = .ok (.getfield 138, 3) := by decide +kernel
theorem d_Mo_padded_46 : decode c_Mo_padded 46 = .ok (.imul, 1) := by decide +kernel
theorem d_Mo_padded_47 : decode c_Mo_padded 47 = .ok (.bipush 8, 2) := by decide +kernel
theorem d_Mo_padded_49 : decode c_Mo_padded 49 = .ok (.iload_n 3, 1) := by decide +kernel
theorem d_Mo_padded_50 : decode c_Mo_padded 50 = .ok (.iconst 1, 1) := by decide +kernel
theorem d_Mo_padded_51 : decode c_Mo_padded 51 = .ok (.isub, 1) := by decide +kernel
theorem d_Mo_padded_52 : decode c_Mo_padded 52 = .ok (.imul, 1) := by decide +kernel
theorem d_Mo_padded_53 : decode c_Mo_padded 53 = .ok (.ishr, 1) := by decide +kernel
theorem d_Mo_padded_54 : decode c_Mo_padded 54 = .ok (.sipush 255, 3) := by decide +kernel
theorem d_Mo_padded_57 : decode c_Mo_padded 57 = .ok (.iand, 1) := by decide +kernel
theorem d_Mo_padded_58 : decode c_Mo_padded 58 = .ok (.ireturn, 1) := by decide +kernel
theorem d_Mo_round_0 : decode c_Mo_round 0 = .ok (.iconst 0, 1) := by decide +kernel
theorem d_Mo_round_1 : decode c_Mo_round 1 = .ok (.istore_n 3, 1) := by decide +kernel
theorem d_Mo_round_2 : decode c_Mo_round 2 = .ok (.iload_n 3, 1) := by decide +kernel
theorem d_Mo_round_3 : decode c_Mo_round 3 = .ok (.bipush 64, 2) := by decide +kernel
theorem d_Mo_round_5 : decode c_Mo_round 5 = .ok (.if_icmp .ge 166, 3) := by decide +kernel
theorem d_Mo_round_8 : decode c_Mo_round 8 = .ok (.iload_n 3, 1) := by decide +kernel
theorem d_Mo_round_9 : decode c_Mo_round 9 = .ok (.bipush 16, 2) := by decide +kernel
theorem d_Mo_round_11 : decode c_Mo_round 11 = .ok (.if_icmp .ge 65, 3) := by decide +kernel
theorem d_Mo_round_14 : decode c_Mo_round 14 = .ok (.iload_n 1, 1) := by decide +kernel
theorem d_Mo_round_15 : decode c_Mo_round 15 = .ok (.iconst 4, 1) := by decide +kernel
theorem d_Mo_round_16 : decode c_Mo_round 16 = .ok (.iload_n 3, 1) := by decide +kernel
theorem d_Mo_round_17 : decode c_Mo_round 17 = .ok (.imul, 1) := by decide +kernel
theorem d_Mo_round_18 : decode c_Mo_round 18 = .ok (.iadd, 1) := by decide +kernel
theorem d_Mo_round_19 : decode c_Mo_round 19 = .ok (.istore 4, 2) := by decide +kernel
theorem d_Mo_round_21 : decode c_Mo_round 21 = .ok (.aload_n 0, 1) := by decide +kernel
theorem d_Mo_round_22 : decode c_Mo_round 22 = .ok (.getfield 36, 3) := by decide +kernel
theorem d_Mo_round_25 : decode c_Mo_round 25 = .ok (.iload_n 3, 1) := by decide +kernel
theorem d_Mo_round_26 : decode c_Mo_round 26 = .ok (.aload_n 0, 1) := by decide +kernel
theorem d_Mo_round_27 : decode c_Mo_round 27 = .ok (.iload 4, 2) := by decide +kernel
theorem d_Mo_round_29 : decode c_Mo_round 29 = .ok (.iload_n 2, 1) := by decide +kernel
theorem d_Mo_round_30 : decode c_Mo_round 30 = .ok (.invokevirtual 141, 3) := by decide +kernel
theorem d_Mo_round_33 : decode c_Mo_round 33 = .ok (.bipush 24, 2) := by decide +kernel
theorem d_Mo_round_35 : decode c_Mo_round 35 = .ok (.ishl, 1) := by decide +kernel
theorem d_Mo_round_36 : decode c_Mo_round 36 = .ok (.aload_n 0, 1) := by decide +kernel
theorem d_Mo_round_37 : decode c_Mo_round 37 = .ok (.iload 4, 2) := by decide +kernel
theorem d_Mo_round_39 : decode c_Mo_round 39 = .ok (.iconst 1, 1) := by decide +kernel
theorem d_Mo_round_40 : decode c_Mo_round 40 = .ok (.iadd, 1) := by decide +kernel
theorem d_Mo_round_41 : decode c_Mo_round 41 = .ok (.iload_n 2, 1) := by decide +kernel
theorem d_Mo_round_42 : decode c_Mo_round 42 = .ok (.invokevirtual 141, 3) := by decide +kernel
theorem d_Mo_round_45 : decode c_Mo_round 45 = .ok (.bipush 16, 2) := by decide +kernel
theorem d_Mo_round_47 : decode c_Mo_round 47 = .ok (.ishl, 1) := by decide +kernel
theorem d_Mo_round_48 : decode c_Mo_round 48 = .ok (.ior, 1) := by decide +kernel
theorem d_Mo_round_49 : decode c_Mo_round 49 = .ok (.aload_n 0, 1) := by decide +kernel
theorem d_Mo_round_50 : decode c_Mo_round 50 = .ok (.iload 4, 2) := by decide +kernel
theorem d_Mo_round_52 : decode c_Mo_round 52 = .ok (.iconst 2, 1) := by decide +kernel
theorem d_Mo_round_53 : decode c_Mo_round 53 = .ok (.iadd, 1) := by decide +kernel
theorem d_Mo_round_54 : decode c_Mo_round 54 = .ok (.iload_n 2, 1) := by decide +kernel
theorem d_Mo_round_55 : decode c_Mo_round 55 = .ok (.invokevirtual 141, 3) := by decide +kernel
theorem d_Mo_round_58 : decode c_Mo_round 58 = .ok (.bipush 8, 2) := by decide +kernel
theorem d_Mo_round_60 : decode c_Mo_round 60 = .ok (.ishl, 1) := by decide +kernel
theorem d_Mo_round_61 : decode c_Mo_round 61 = .ok (.ior, 1) := by decide +kernel
theorem d_Mo_round_62 : decode c_Mo_round 62 = .ok (.aload_n 0, 1) := by decide +kernel
theorem d_Mo_round_63 : decode c_Mo_round 63 = .ok (.iload 4, 2) := by decide +kernel
theorem d_Mo_round_65 : decode c_Mo_round 65 = .ok (.iconst 3, 1) := by decide +kernel
theorem d_Mo_round_66 : decode c_Mo_round 66 = .ok (.iadd, 1) := by decide +kernel
theorem d_Mo_round_67 : decode c_Mo_round 67 = .ok (.iload_n 2, 1) := by decide +kernel
theorem d_Mo_round_68 : decode c_Mo_round 68 = .ok (.invokevirtual 141, 3) := by decide +kernel
theorem d_Mo_round_71 : decode c_Mo_round 71 = .ok (.ior, 1) := by decide +kernel
theorem d_Mo_round_72 : decode c_Mo_round 72 = .ok (.iastore, 1) := by decide +kernel
theorem d_Mo_round_73 : decode c_Mo_round 73 = .ok (.goto 92, 3) := by decide +kernel
theorem d_Mo_round_76 : decode c_Mo_round 76 = .ok (.aload_n 0, 1) := by decide +kernel
theorem d_Mo_round_77 : decode c_Mo_round 77 = .ok (.getfield 36, 3) := by decide +kernel
theorem d_Mo_round_80 : decode c_Mo_round 80 = .ok (.iload_n 3, 1) := by decide +kernel
theorem d_Mo_round_81 : decode c_Mo_round 81 = .ok (.bipush 15, 2) := by decide +kernel
theorem d_Mo_round_83 : decode c_Mo_round 83 = .ok (.isub, 1) := by decide +kernel
theorem d_Mo_round_84 : decode c_Mo_round 84 = .ok (.iaload, 1) := by decide +kernel
theorem d_Mo_round_85 : decode c_Mo_round 85 = .ok (.istore 4, 2) := by decide +kernel
theorem d_Mo_round_87 : decode c_Mo_round 87 = .ok (.aload_n 0, 1) := by decide +kernel
theorem d_Mo_round_88 : decode c_Mo_round 88 = .ok (.getfield 36, 3) := by decide +kernel
theorem d_Mo_round_91 : decode c_Mo_round 91 = .ok (.iload_n 3, 1) := by decide +kernel
theorem d_Mo_round_92 : decode c_Mo_round 92 = .ok (.iconst 2, 1) := by decide +kernel
theorem d_Mo_round_93 : decode c_Mo_round 93 = .ok (.isub, 1) := by decide +kernel
theorem d_Mo_round_94 : decode c_Mo_round 94 = .ok (.iaload, 1) := by decide +kernel
theorem d_Mo_round_95 : decode c_Mo_round 95 = .ok (.istore 5, 2) := by decide +kernel
theorem d_Mo_round_97 : decode c_Mo_round 97 = .ok (.aload_n 0, 1) := by decide +kernel
theorem d_Mo_round_98 : decode c_Mo_round 98 = .ok (.getfield 36, 3) := by decide +kernel
theorem d_Mo_round_101 : decode c_Mo_round 101 = .ok (.iload_n 3, 1) := by decide +kernel
theorem d_Mo_round_102 : decode c_Mo_round 102 = .ok (.aload_n 0, 1) := by decide +kernel
theorem d_Mo_round_103 : decode c_Mo_round 103 = .ok (.getfield 36, 3) := by decide +kernel
theorem d_Mo_round_106 : decode c_Mo_round 106 = .ok (.iload_n 3, 1) := by decide +kernel
theorem d_Mo_round_107 : decode c_Mo_round 107 = .ok (.bipush 16, 2) := by decide +kernel
theorem d_Mo_round_109 : decode c_Mo_round 109 = .ok (.isub, 1) := by decide +kernel
theorem d_Mo_round_110 : decode c_Mo_round 110 = .ok (.iaload, 1) := by decide +kernel
theorem d_Mo_round_111 : decode c_Mo_round 111 = .ok (.iload 4, 2) := by decide +kernel
theorem d_Mo_round_113 : decode c_Mo_round 113 = .ok (.bipush 7, 2) := by decide +kernel
theorem d_Mo_round_115 : decode c_Mo_round 115 = .ok (.invokestatic 145, 3) := by decide +kernel
theorem d_Mo_round_118 : decode c_Mo_round 118 = .ok (.iload 4, 2) := by decide +kernel
theorem d_Mo_round_120 : decode c_Mo_round 120 = .ok (.bipush 18, 2) := by decide +kernel
theorem d_Mo_round_122 : decode c_Mo_round 122 = .ok (.invokestatic 145, 3) := by decide +kernel
theorem d_Mo_round_125 : decode c_Mo_round 125 = .ok (.ixor, 1) := by decide +kernel
theorem d_Mo_round_126 : decode c_Mo_round 126 = .ok (.iload 4, 2) := by decide +kernel
theorem d_Mo_round_128 : decode c_Mo_round 128 = .ok (.iconst 3, 1) := by decide +kernel
theorem d_Mo_round_129 : decode c_Mo_round 129 = .ok (.iushr, 1) := by decide +kernel
theorem d_Mo_round_130 : decode c_Mo_round 130 = .ok (.ixor, 1) := by decide +kernel
theorem d_Mo_round_131 : decode c_Mo_round 131 = .ok (.iadd, 1) := by decide +kernel
theorem d_Mo_round_132 : decode c_Mo_round 132 = .ok (.aload_n 0, 1) := by decide +kernel
theorem d_Mo_round_133 : decode c_Mo_round 133 = .ok (.getfield 36, 3) := by decide +kernel
theorem d_Mo_round_136 : decode c_Mo_round 136 = .ok (.iload_n 3, 1) := by decide +kernel
theorem d_Mo_round_137 : decode c_Mo_round 137 = .ok (.bipush 7, 2) := by decide +kernel
theorem d_Mo_round_139 : decode c_Mo_round 139 = .ok (.isub, 1) := by decide +kernel
theorem d_Mo_round_140 : decode c_Mo_round 140 = .ok (.iaload, 1) := by decide +kernel
theorem d_Mo_round_141 : decode c_Mo_round 141 = .ok (.iadd, 1) := by decide +kernel
theorem d_Mo_round_142 : decode c_Mo_round 142 = .ok (.iload 5, 2) := by decide +kernel
theorem d_Mo_round_144 : decode c_Mo_round 144 = .ok (.bipush 17, 2) := by decide +kernel
theorem d_Mo_round_146 : decode c_Mo_round 146 = .ok (.invokestatic 145, 3) := by decide +kernel
theorem d_Mo_round_149 : decode c_Mo_round 149 = .ok (.iload 5, 2) := by decide +kernel
theorem d_Mo_round_151 : decode c_Mo_round 151 = .ok (.bipush 19, 2) := by decide +kernel
theorem d_Mo_round_153 : decode c_Mo_round 153 = .ok (.invokestatic 145, 3) := by decide +kernel
theorem d_Mo_round_156 : decode c_Mo_round 156 = .ok (.ixor, 1) := by decide +kernel
theorem d_Mo_round_157 : decode c_Mo_round 157 = .ok (.iload 5, 2) := by decide +kernel
theorem d_Mo_round_159 : decode c_Mo_round 159 = .ok (.bipush 10, 2) := by decide +kernel
theorem d_Mo_round_161 : decode c_Mo_round 161 = .ok (.iushr, 1) := by decide +kernel
theorem d_Mo_round_162 : decode c_Mo_round 162 = .ok (.ixor, 1) := by decide +kernel
theorem d_Mo_round_163 : decode c_Mo_round 163 = .ok (.iadd, 1) := by decide +kernel
theorem d_Mo_round_164 : decode c_Mo_round 164 = .ok (.iastore, 1) := by decide +kernel
theorem d_Mo_round_165 : decode c_Mo_round 165 = .ok (.iinc 3 1, 3) := by decide +kernel
theorem d_Mo_round_168 : decode c_Mo_round 168 = .ok (.goto (-166), 3) := by decide +kernel
theorem d_Mo_round_171 : decode c_Mo_round 171 = .ok (.aload_n 0, 1) := by decide +kernel
theorem d_Mo_round_172 : decode c_Mo_round 172 = .ok (.getfield 39, 3) := by decide +kernel
theorem d_Mo_round_175 : decode c_Mo_round 175 = .ok (.iconst 0, 1) := by decide +kernel
theorem d_Mo_round_176 : decode c_Mo_round 176 = .ok (.iaload, 1) := by decide +kernel
theorem d_Mo_round_177 : decode c_Mo_round 177 = .ok (.istore_n 3, 1) := by decide +kernel
theorem d_Mo_round_178 : decode c_Mo_round 178 = .ok (.aload_n 0, 1) := by decide +kernel
theorem d_Mo_round_179 : decode c_Mo_round 179 = .ok (.getfield 39, 3) := by decide +kernel
theorem d_Mo_round_182 : decode c_Mo_round 182 = .ok (.iconst 1, 1) := by decide +kernel
theorem d_Mo_round_183 : decode c_Mo_round 183 = .ok (.iaload, 1) := by decide +kernel
theorem d_Mo_round_184 : decode c_Mo_round 184 = .ok (.istore 4, 2) := by decide +kernel
theorem d_Mo_round_186 : decode c_Mo_round 186 = .ok (.aload_n 0, 1) := by decide +kernel
theorem d_Mo_round_187 : decode c_Mo_round 187 = .ok (.getfield 39, 3) := by decide +kernel
theorem d_Mo_round_190 : decode c_Mo_round 190 = .ok (.iconst 2, 1) := by decide +kernel
theorem d_Mo_round_191 : decode c_Mo_round 191 = .ok (.iaload, 1) := by decide +kernel
theorem d_Mo_round_192 : decode c_Mo_round 192 = .ok (.istore 5, 2) := by decide +kernel
theorem d_Mo_round_194 : decode c_Mo_round 194 = .ok (.aload_n 0, 1) := by decide +kernel
theorem d_Mo_round_195 : decode c_Mo_round 195 = .ok (.getfield 39, 3) := by decide +kernel
theorem d_Mo_round_198 : decode c_Mo_round 198 = .ok (.iconst 3, 1) := by decide +kernel
theorem d_Mo_round_199 : decode c_Mo_round 199 = .ok (.iaload, 1) := by decide +kernel
theorem d_Mo_round_200 : decode c_Mo_round 200 = .ok (.istore 6, 2) := by decide +kernel
theorem d_Mo_round_202 : decode c_Mo_round 202 = .ok (.aload_n 0, 1) := by decide +kernel
theorem d_Mo_round_203 : decode c_Mo_round 203 = .ok (.getfield 39, 3) := by decide +kernel
theorem d_Mo_round_206 : decode c_Mo_round 206 = .ok (.iconst 4, 1) := by decide +kernel
theorem d_Mo_round_207 : decode c_Mo_round 207 = .ok (.iaload, 1) := by decide +kernel
theorem d_Mo_round_208 : decode c_Mo_round 208 = .ok (.istore 7, 2) := by decide +kernel
theorem d_Mo_round_210 : decode c_Mo_round 210 = .ok (.aload_n 0, 1) := by decide +kernel
theorem d_Mo_round_211 : decode c_Mo_round 211 = .ok (.getfield 39, 3) := by decide +kernel
theorem d_Mo_round_214 : decode c_Mo_round 214 = .ok (.iconst 5, 1) := by decide +kernel
theorem d_Mo_round_215 : decode c_Mo_round 215 = .ok (.iaload, 1) := by decide +kernel
theorem d_Mo_round_216 : decode c_Mo_round 216 = .ok (.istore 8, 2) := by decide +kernel
theorem d_Mo_round_218 : decode c_Mo_round 218 = .ok (.aload_n 0, 1) := by decide +kernel
theorem d_Mo_round_219 : decode c_Mo_round 219 = .ok (.getfield 39, 3) := by decide +kernel
theorem d_Mo_round_222 : decode c_Mo_round 222 = .ok (.bipush 6, 2) := by decide +kernel
theorem d_Mo_round_224 : decode c_Mo_round 224 = .ok (.iaload, 1) := by decide +kernel
theorem d_Mo_round_225 : decode c_Mo_round 225 = .ok (.istore 9, 2) := by decide +kernel
theorem d_Mo_round_227 : decode c_Mo_round 227 = .ok (.aload_n 0, 1) := by decide +kernel
theorem d_Mo_round_228 : decode c_Mo_round 228 = .ok (.getfield 39, 3) := by decide +kernel
theorem d_Mo_round_231 : decode c_Mo_round 231 = .ok (.bipush 7, 2) := by decide +kernel
theorem d_Mo_round_233 : decode c_Mo_round 233 = .ok (.iaload, 1) := by decide +kernel
theorem d_Mo_round_234 : decode c_Mo_round 234 = .ok (.istore 10, 2) := by decide +kernel
theorem d_Mo_round_236 : decode c_Mo_round 236 = .ok (.iconst 0, 1) := by decide +kernel
theorem d_Mo_round_237 : decode c_Mo_round 237 = .ok (.istore 11, 2) := by decide +kernel
theorem d_Mo_round_239 : decode c_Mo_round 239 = .ok (.iload 11, 2) := by decide +kernel
theorem d_Mo_round_241 : decode c_Mo_round 241 = .ok (.bipush 64, 2) := by decide +kernel
theorem d_Mo_round_243 : decode c_Mo_round 243 = .ok (.if_icmp .ge 138, 3) := by decide +kernel
theorem d_Mo_round_246 : decode c_Mo_round 246 = .ok (.iload 10, 2) := by decide +kernel
theorem d_Mo_round_248 : decode c_Mo_round 248 = .ok (.iload 7, 2) := by decide +kernel
theorem d_Mo_round_250 : decode c_Mo_round 250 = .ok (.bipush 6, 2) := by decide +kernel
theorem d_Mo_round_252 : decode c_Mo_round 252 = .ok (.invokestatic 145, 3) := by decide +kernel
theorem d_Mo_round_255 : decode c_Mo_round 255 = .ok (.iload 7, 2) := by decide +kernel
theorem d_Mo_round_257 : decode c_Mo_round 257 = .ok (.bipush 11, 2) := by decide +kernel
theorem d_Mo_round_259 : decode c_Mo_round 259 = .ok (.invokestatic 145, 3) := by decide +kernel
theorem d_Mo_round_262 : decode c_Mo_round 262 = .ok (.ixor, 1) := by decide +kernel
theorem d_Mo_round_263 : decode c_Mo_round 263 = .ok (.iload 7, 2) := by decide +kernel
theorem d_Mo_round_265 : decode c_Mo_round 265 = .ok (.bipush 25, 2) := by decide +kernel
theorem d_Mo_round_267 : decode c_Mo_round 267 = .ok (.invokestatic 145, 3) := by decide +kernel
theorem d_Mo_round_270 : decode c_Mo_round 270 = .ok (.ixor, 1) := by decide +kernel
theorem d_Mo_round_271 : decode c_Mo_round 271 = .ok (.iadd, 1) := by decide +kernel
theorem d_Mo_round_272 : decode c_Mo_round 272 = .ok (.iload 7, 2) := by decide +kernel
theorem d_Mo_round_274 : decode c_Mo_round 274 = .ok (.iload 8, 2) := by decide +kernel
theorem d_Mo_round_276 : decode c_Mo_round 276 = .ok (.iand, 1) := by decide +kernel
theorem d_Mo_round_277 : decode c_Mo_round 277 = .ok (.iload 7, 2) := by decide +kernel
theorem d_Mo_round_279 : decode c_Mo_round 279 = .ok (.iconst (-1), 1) := by decide +kernel
theorem d_Mo_round_280 : decode c_Mo_round 280 = .ok (.ixor, 1) := by decide +kernel
theorem d_Mo_round_281 : decode c_Mo_round 281 = .ok (.iload 9, 2) := by decide +kernel
theorem d_Mo_round_283 : decode c_Mo_round 283 = .ok (.iand, 1) := by decide +kernel
theorem d_Mo_round_284 : decode c_Mo_round 284 = .ok (.ixor, 1) := by decide +kernel
theorem d_Mo_round_285 : decode c_Mo_round 285 = .ok (.iadd, 1) := by decide +kernel
theorem d_Mo_round_286 : decode c_Mo_round 286 = .ok (.iload 11, 2) := by decide +kernel
theorem d_Mo_round_288 : decode c_Mo_round 288 = .ok (.invokestatic 148, 3) := by decide +kernel
theorem d_Mo_round_291 : decode c_Mo_round 291 = .ok (.iadd, 1) := by decide +kernel
theorem d_Mo_round_292 : decode c_Mo_round 292 = .ok (.aload_n 0, 1) := by decide +kernel
theorem d_Mo_round_293 : decode c_Mo_round 293 = .ok (.getfield 36, 3) := by decide +kernel
theorem d_Mo_round_296 : decode c_Mo_round 296 = .ok (.iload 11, 2) := by decide +kernel
theorem d_Mo_round_298 : decode c_Mo_round 298 = .ok (.iaload, 1) := by decide +kernel
theorem d_Mo_round_299 : decode c_Mo_round 299 = .ok (.iadd, 1) := by decide +kernel
theorem d_Mo_round_300 : decode c_Mo_round 300 = .ok (.istore 12, 2) := by decide +kernel
theorem d_Mo_round_302 : decode c_Mo_round 302 = .ok (.iload_n 3, 1) := by decide +kernel
theorem d_Mo_round_303 : decode c_Mo_round 303 = .ok (.iconst 2, 1) := by decide +kernel
theorem d_Mo_round_304 : decode c_Mo_round 304 = .ok (.invokestatic 145, 3) := by decide +kernel
theorem d_Mo_round_307 : decode c_Mo_round 307 = .ok (.iload_n 3, 1) := by decide +kernel
theorem d_Mo_round_308 : decode c_Mo_round 308 = .ok (.bipush 13, 2) := by decide +kernel
theorem d_Mo_round_310 : decode c_Mo_round 310 = .ok (.invokestatic 145, 3) := by decide +kernel
theorem d_Mo_round_313 : decode c_Mo_round 313 = .ok (.ixor, 1) := by decide +kernel
theorem d_Mo_round_314 : decode c_Mo_round 314 = .ok (.iload_n 3, 1) := by decide +kernel
theorem d_Mo_round_315 : decode c_Mo_round 315 = .ok (.bipush 22, 2) := by decide +kernel
theorem d_Mo_round_317 : decode c_Mo_round 317 = .ok (.invokestatic 145, 3) := by decide +kernel
theorem d_Mo_round_320 : decode c_Mo_round 320 = .ok (.ixor, 1) := by decide +kernel
theorem d_Mo_round_321 : decode c_Mo_round 321 = .ok (.iload_n 3, 1) := by decide +kernel
theorem d_Mo_round_322 : decode c_Mo_round 322 = .ok (.iload 4, 2) := by decide +kernel
theorem d_Mo_round_324 : decode c_Mo_round 324 = .ok (.iand, 1) := by decide +kernel
theorem d_Mo_round_325 : decode c_Mo_round 325 = .ok (.iload_n 3, 1) := by decide +kernel
theorem d_Mo_round_326 : decode c_Mo_round 326 = .ok (.iload 5, 2) := by decide +kernel
theorem d_Mo_round_328 : decode c_Mo_round 328 = .ok (.iand, 1) := by decide +kernel
theorem d_Mo_round_329 : decode c_Mo_round 329 = .ok (.ixor, 1) := by decide +kernel
theorem d_Mo_round_330 : decode c_Mo_round 330 = .ok (.iload 4, 2) := by decide +kernel
theorem d_Mo_round_332 : decode c_Mo_round 332 = .ok (.iload 5, 2) := by decide +kernel
theorem d_Mo_round_334 : decode c_Mo_round 334 = .ok (.iand, 1) := by decide +kernel
theorem d_Mo_round_335 : decode c_Mo_round 335 = .ok (.ixor, 1) := by decide +kernel
theorem d_Mo_round_336 : decode c_Mo_round 336 = .ok (.iadd, 1) := by decide +kernel
theorem d_Mo_round_337 : decode c_Mo_round 337 = .ok (.istore 13, 2) := by decide +kernel
theorem d_Mo_round_339 : decode c_Mo_round 339 = .ok (.iload 9, 2) := by decide +kernel
theorem d_Mo_round_341 : decode c_Mo_round 341 = .ok (.istore 10, 2) := by decide +kernel
theorem d_Mo_round_343 : decode c_Mo_round 343 = .ok (.iload 8, 2) := by decide +kernel
theorem d_Mo_round_345 : decode c_Mo_round 345 = .ok (.istore 9, 2) := by decide +kernel
theorem d_Mo_round_347 : decode c_Mo_round 347 = .ok (.iload 7, 2) := by decide +kernel
theorem d_Mo_round_349 : decode c_Mo_round 349 = .ok (.istore 8, 2) := by decide +kernel
theorem d_Mo_round_351 : decode c_Mo_round 351 = .ok (.iload 6, 2) := by decide +kernel
theorem d_Mo_round_353 : decode c_Mo_round 353 = .ok (.iload 12, 2) := by decide +kernel
theorem d_Mo_round_355 : decode c_Mo_round 355 = .ok (.iadd, 1) := by decide +kernel
theorem d_Mo_round_356 : decode c_Mo_round 356 = .ok (.istore 7, 2) := by decide +kernel
theorem d_Mo_round_358 : decode c_Mo_round 358 = .ok (.iload 5, 2) := by decide +kernel
theorem d_Mo_round_360 : decode c_Mo_round 360 = .ok (.istore 6, 2) := by decide +kernel
theorem d_Mo_round_362 : decode c_Mo_round 362 = .ok (.iload 4, 2) := by decide +kernel
theorem d_Mo_round_364 : decode c_Mo_round 364 = .ok (.istore 5, 2) := by decide +kernel
theorem d_Mo_round_366 : decode c_Mo_round 366 = .ok (.iload_n 3, 1) := by decide +kernel
theorem d_Mo_round_367 : decode c_Mo_round 367 = .ok (.istore 4, 2) := by decide +kernel
theorem d_Mo_round_369 : decode c_Mo_round 369 = .ok (.iload 12, 2) := by decide +kernel
theorem d_Mo_round_371 : decode c_Mo_round 371 = .ok (.iload 13, 2) := by decide +kernel
theorem d_Mo_round_373 : decode c_Mo_round 373 = .ok (.iadd, 1) := by decide +kernel
theorem d_Mo_round_374 : decode c_Mo_round 374 = .ok (.istore_n 3, 1) := by decide +kernel
theorem d_Mo_round_375 : decode c_Mo_round 375 = .ok (.iinc 11 1, 3) := by decide +kernel
theorem d_Mo_round_378 : decode c_Mo_round 378 = .ok (.goto (-139), 3) := by decide +kernel
theorem d_Mo_round_381 : decode c_Mo_round 381 = .ok (.aload_n 0, 1) := by decide +kernel
theorem d_Mo_round_382 : decode c_Mo_round 382 = .ok (.getfield 39, 3) := by decide +kernel
theorem d_Mo_round_385 : decode c_Mo_round 385 = .ok (.iconst 0, 1) := by decide +kernel
theorem d_Mo_round_386 : decode c_Mo_round 386 = .ok (.dup2, 1) := by decide +kernel
theorem d_Mo_round_387 : decode c_Mo_round 387 = .ok (.iaload, 1) := by decide +kernel
theorem d_Mo_round_388 : decode c_Mo_round 388 = .ok (.iload_n 3, 1) := by decide +kernel
theorem d_Mo_round_389 : decode c_Mo_round 389 = .ok (.iadd, 1) := by decide +kernel
theorem d_Mo_round_390 : decode c_Mo_round 390 = .ok (.iastore, 1) := by decide +kernel
theorem d_Mo_round_391 : decode c_Mo_round 391 = .ok (.aload_n 0, 1) := by decide +kernel
theorem d_Mo_round_392 : decode c_Mo_round 392 = .ok (.getfield 39, 3) := by decide +kernel
theorem d_Mo_round_395 : decode c_Mo_round 395 = .ok (.iconst 1, 1) := by decide +kernel
theorem d_Mo_round_396 : decode c_Mo_round 396 = .ok (.dup2, 1) := by decide +kernel
theorem d_Mo_round_397 : decode c_Mo_round 397 = .ok (.iaload, 1) := by decide +kernel
theorem d_Mo_round_398 : decode c_Mo_round 398 = .ok (.iload 4, 2) := by decide +kernel
theorem d_Mo_round_400 : decode c_Mo_round 400 = .ok (.iadd, 1) := by decide +kernel
theorem d_Mo_round_401 : decode c_Mo_round 401 = .ok (.iastore, 1) := by decide +kernel
theorem d_Mo_round_402 : decode c_Mo_round 402 = .ok (.aload_n 0, 1) := by decide +kernel
theorem d_Mo_round_403 : decode c_Mo_round 403 = .ok (.getfield 39, 3) := by decide +kernel
theorem d_Mo_round_406 : decode c_Mo_round 406 = .ok (.iconst 2, 1) := by decide +kernel
theorem d_Mo_round_407 : decode c_Mo_round 407 = .ok (.dup2, 1) := by decide +kernel
theorem d_Mo_round_408 : decode c_Mo_round 408 = .ok (.iaload, 1) := by decide +kernel
theorem d_Mo_round_409 : decode c_Mo_round 409 = .ok (.iload 5, 2) := by decide +kernel
theorem d_Mo_round_411 : decode c_Mo_round 411 = .ok (.iadd, 1) := by decide +kernel
theorem d_Mo_round_412 : decode c_Mo_round 412 = .ok (.iastore, 1) := by decide +kernel
theorem d_Mo_round_413 : decode c_Mo_round 413 = .ok (.aload_n 0, 1) := by decide +kernel
theorem d_Mo_round_414 : decode c_Mo_round 414 = .ok (.getfield 39, 3) := by decide +kernel
theorem d_Mo_round_417 : decode c_Mo_round 417 = .ok (.iconst 3, 1) := by decide +kernel
theorem d_Mo_round_418 : decode c_Mo_round 418 = .ok (.dup2, 1) := by decide +kernel
theorem d_Mo_round_419 : decode c_Mo_round 419 = .ok (.iaload, 1) := by decide +kernel
theorem d_Mo_round_420 : decode c_Mo_round 420 = .ok (.iload 6, 2) := by decide +kernel
theorem d_Mo_round_422 : decode c_Mo_round 422 = .ok (.iadd, 1) := by decide +kernel
theorem d_Mo_round_423 : decode c_Mo_round 423 = .ok (.iastore, 1) := by decide +kernel
theorem d_Mo_round_424 : decode c_Mo_round 424 = .ok (.aload_n 0, 1) := by decide +kernel
theorem d_Mo_round_425 : decode c_Mo_round 425 = .ok (.getfield 39, 3) := by decide +kernel
theorem d_Mo_round_428 : decode c_Mo_round 428 = .ok (.iconst 4, 1) := by decide +kernel
theorem d_Mo_round_429 : decode c_Mo_round 429 = .ok (.dup2, 1) := by decide +kernel
theorem d_Mo_round_430 : decode c_Mo_round 430 = .ok (.iaload, 1) := by decide +kernel
theorem d_Mo_round_431 : decode c_Mo_round 431 = .ok (.iload 7, 2) := by decide +kernel
theorem d_Mo_round_433 : decode c_Mo_round 433 = .ok (.iadd, 1) := by decide +kernel
theorem d_Mo_round_434 : decode c_Mo_round 434 = .ok (.iastore, 1) := by decide +kernel
theorem d_Mo_round_435 : decode c_Mo_round 435 = .ok (.aload_n 0, 1) := by decide +kernel
theorem d_Mo_round_436 : decode c_Mo_round 436 = .ok (.getfield 39, 3) := by decide +kernel
theorem d_Mo_round_439 : decode c_Mo_round 439 = .ok (.iconst 5, 1) := by decide +kernel
theorem d_Mo_round_440 : decode c_Mo_round 440 = .ok (.dup2, 1) := by decide +kernel
theorem d_Mo_round_441 : decode c_Mo_round 441 = .ok (.iaload, 1) := by decide +kernel
theorem d_Mo_round_442 : decode c_Mo_round 442 = .ok (.iload 8, 2) := by decide +kernel
theorem d_Mo_round_444 : decode c_Mo_round 444 = .ok (.iadd, 1) := by decide +kernel
theorem d_Mo_round_445 : decode c_Mo_round 445 = .ok (.iastore, 1) := by decide +kernel
theorem d_Mo_round_446 : decode c_Mo_round 446 = .ok (.aload_n 0, 1) := by decide +kernel
theorem d_Mo_round_447 : decode c_Mo_round 447 = .ok (.getfield 39, 3) := by decide +kernel
theorem d_Mo_round_450 : decode c_Mo_round 450 = .ok (.bipush 6, 2) := by decide +kernel
theorem d_Mo_round_452 : decode c_Mo_round 452 = .ok (.dup2, 1) := by decide +kernel
theorem d_Mo_round_453 : decode c_Mo_round 453 = .ok (.iaload, 1) := by decide +kernel
theorem d_Mo_round_454 : decode c_Mo_round 454 = .ok (.iload 9, 2) := by decide +kernel
theorem d_Mo_round_456 : decode c_Mo_round 456 = .ok (.iadd, 1) := by decide +kernel
theorem d_Mo_round_457 : decode c_Mo_round 457 = .ok (.iastore, 1) := by decide +kernel
theorem d_Mo_round_458 : decode c_Mo_round 458 = .ok (.aload_n 0, 1) := by decide +kernel
theorem d_Mo_round_459 : decode c_Mo_round 459 = .ok (.getfield 39, 3) := by decide +kernel
theorem d_Mo_round_462 : decode c_Mo_round 462 = .ok (.bipush 7, 2) := by decide +kernel
theorem d_Mo_round_464 : decode c_Mo_round 464 = .ok (.dup2, 1) := by decide +kernel
theorem d_Mo_round_465 : decode c_Mo_round 465 = .ok (.iaload, 1) := by decide +kernel
theorem d_Mo_round_466 : decode c_Mo_round 466 = .ok (.iload 10, 2) := by decide +kernel
theorem d_Mo_round_468 : decode c_Mo_round 468 = .ok (.iadd, 1) := by decide +kernel
theorem d_Mo_round_469 : decode c_Mo_round 469 = .ok (.iastore, 1) := by decide +kernel
theorem d_Mo_round_470 : decode c_Mo_round 470 = .ok (.return_, 1) := by decide +kernel
theorem d_Mo_digests_0 : decode c_Mo_digests 0 = .ok (.iconst 0, 1) := by decide +kernel
theorem d_Mo_digests_1 : decode c_Mo_digests 1 = .ok (.istore_n 1, 1) := by decide +kernel
theorem d_Mo_digests_2 : decode c_Mo_digests 2 = .ok (.iload_n 1, 1) := by decide +kernel
theorem d_Mo_digests_3 : decode c_Mo_digests 3 = .ok (.bipush 8, 2) := by decide +kernel
theorem d_Mo_digests_5 : decode c_Mo_digests 5 = .ok (.if_icmp .ge 19, 3) := by decide +kernel
theorem d_Mo_digests_8 : decode c_Mo_digests 8 = .ok (.aload_n 0, 1) := by decide +kernel
theorem d_Mo_digests_9 : decode c_Mo_digests 9 = .ok (.getfield 39, 3) := by decide +kernel
theorem d_Mo_digests_12 : decode c_Mo_digests 12 = .ok (.iload_n 1, 1) := by decide +kernel
theorem d_Mo_digests_13 : decode c_Mo_digests 13 = .ok (.iload_n 1, 1) := by decide +kernel
theorem d_Mo_digests_14 : decode c_Mo_digests 14 = .ok (.invokestatic 152, 3) := by decide +kernel
theorem d_Mo_digests_17 : decode c_Mo_digests 17 = .ok (.iastore, 1) := by decide +kernel
theorem d_Mo_digests_18 : decode c_Mo_digests 18 = .ok (.iinc 1 1, 3) := by decide +kernel
theorem d_Mo_digests_21 : decode c_Mo_digests 21 = .ok (.goto (-19), 3) := by decide +kernel
theorem d_Mo_digests_24 : decode c_Mo_digests 24 = .ok (.aload_n 0, 1) := by decide +kernel
theorem d_Mo_digests_25 : decode c_Mo_digests 25 = .ok (.getfield 138, 3) := by decide +kernel
theorem d_Mo_digests_28 : decode c_Mo_digests 28 = .ok (.bipush 9, 2) := by decide +kernel
theorem d_Mo_digests_30 : decode c_Mo_digests 30 = .ok (.iadd, 1) := by decide +kernel
theorem d_Mo_digests_31 : decode c_Mo_digests 31 = .ok (.bipush 63, 2) := by decide +kernel
theorem d_Mo_digests_33 : decode c_Mo_digests 33 = .ok (.iadd, 1) := by decide +kernel
theorem d_Mo_digests_34 : decode c_Mo_digests 34 = .ok (.bipush 64, 2) := by decide +kernel
theorem d_Mo_digests_36 : decode c_Mo_digests 36 = .ok (.idiv, 1) := by decide +kernel
theorem d_Mo_digests_37 : decode c_Mo_digests 37 = .ok (.bipush 64, 2) := by decide +kernel
theorem d_Mo_digests_39 : decode c_Mo_digests 39 = .ok (.imul, 1) := by decide +kernel
theorem d_Mo_digests_40 : decode c_Mo_digests 40 = .ok (.istore_n 1, 1) := by decide +kernel
theorem d_Mo_digests_41 : decode c_Mo_digests 41 = .ok (.iconst 0, 1) := by decide +kernel
theorem d_Mo_digests_42 : decode c_Mo_digests 42 = .ok (.istore_n 2, 1) := by decide +kernel
theorem d_Mo_digests_43 : decode c_Mo_digests 43 = .ok (.iload_n 2, 1) := by decide +kernel
theorem d_Mo_digests_44 : decode c_Mo_digests 44 = .ok (.iload_n 1, 1) := by decide +kernel
theorem d_Mo_digests_45 : decode c_Mo_digests 45 = .ok (.if_icmp .ge 15, 3) := by decide +kernel
theorem d_Mo_digests_48 : decode c_Mo_digests 48 = .ok (.aload_n 0, 1) := by decide +kernel
theorem d_Mo_digests_49 : decode c_Mo_digests 49 = .ok (.iload_n 2, 1) := by decide +kernel
theorem d_Mo_digests_50 : decode c_Mo_digests 50 = .ok (.iload_n 1, 1) := by decide +kernel
theorem d_Mo_digests_51 : decode c_Mo_digests 51 = .ok (.invokevirtual 155, 3) := by decide +kernel
theorem d_Mo_digests_54 : decode c_Mo_digests 54 = .ok (.iinc 2 64, 3) := by decide +kernel
theorem d_Mo_digests_57 : decode c_Mo_digests 57 = .ok (.goto (-14), 3) := by decide +kernel
theorem d_Mo_digests_60 : decode c_Mo_digests 60 = .ok (.iconst 0, 1) := by decide +kernel
theorem d_Mo_digests_61 : decode c_Mo_digests 61 = .ok (.istore_n 2, 1) := by decide +kernel
theorem d_Mo_digests_62 : decode c_Mo_digests 62 = .ok (.iload_n 2, 1) := by decide +kernel
theorem d_Mo_digests_63 : decode c_Mo_digests 63 = .ok (.bipush 32, 2) := by decide +kernel
theorem d_Mo_digests_65 : decode c_Mo_digests 65 = .ok (.if_icmp .ge 37, 3) := by decide +kernel
theorem d_Mo_digests_68 : decode c_Mo_digests 68 = .ok (.aload_n 0, 1) := by decide +kernel
theorem d_Mo_digests_69 : decode c_Mo_digests 69 = .ok (.getfield 42, 3) := by decide +kernel
theorem d_Mo_digests_72 : decode c_Mo_digests 72 = .ok (.iload_n 2, 1) := by decide +kernel
theorem d_Mo_digests_73 : decode c_Mo_digests 73 = .ok (.aload_n 0, 1) := by decide +kernel
theorem d_Mo_digests_74 : decode c_Mo_digests 74 = .ok (.getfield 39, 3) := by decide +kernel
theorem d_Mo_digests_77 : decode c_Mo_digests 77 = .ok (.iload_n 2, 1) := by decide +kernel
theorem d_Mo_digests_78 : decode c_Mo_digests 78 = .ok (.iconst 4, 1) := by decide +kernel
theorem d_Mo_digests_79 : decode c_Mo_digests 79 = .ok (.idiv, 1) := by decide +kernel
theorem d_Mo_digests_80 : decode c_Mo_digests 80 = .ok (.iaload, 1) := by decide +kernel
theorem d_Mo_digests_81 : decode c_Mo_digests 81 = .ok (.bipush 24, 2) := by decide +kernel
theorem d_Mo_digests_83 : decode c_Mo_digests 83 = .ok (.bipush 8, 2) := by decide +kernel
theorem d_Mo_digests_85 : decode c_Mo_digests 85 = .ok (.iload_n 2, 1) := by decide +kernel
theorem d_Mo_digests_86 : decode c_Mo_digests 86 = .ok (.iconst 4, 1) := by decide +kernel
theorem d_Mo_digests_87 : decode c_Mo_digests 87 = .ok (.irem, 1) := by decide +kernel
theorem d_Mo_digests_88 : decode c_Mo_digests 88 = .ok (.imul, 1) := by decide +kernel
theorem d_Mo_digests_89 : decode c_Mo_digests 89 = .ok (.isub, 1) := by decide +kernel
theorem d_Mo_digests_90 : decode c_Mo_digests 90 = .ok (.iushr, 1) := by decide +kernel
theorem d_Mo_digests_91 : decode c_Mo_digests 91 = .ok (.sipush 255, 3) := by decide +kernel
theorem d_Mo_digests_94 : decode c_Mo_digests 94 = .ok (.iand, 1) := by decide +kernel
theorem d_Mo_digests_95 : decode c_Mo_digests 95 = .ok (.iastore, 1) := by decide +kernel
theorem d_Mo_digests_96 : decode c_Mo_digests 96 = .ok (.iinc 2 1, 3) := by decide +kernel
theorem d_Mo_digests_99 : decode c_Mo_digests 99 = .ok (.goto (-37), 3) := by decide +kernel
theorem d_Mo_digests_102 : decode c_Mo_digests 102 = .ok (.return_, 1) := by decide +kernel
theorem d_Mo_twice_0 : decode c_Mo_twice 0 = .ok (.aload_n 0, 1) := by decide +kernel
theorem d_Mo_twice_1 : decode c_Mo_twice 1 = .ok (.invokevirtual 159, 3) := by decide +kernel
theorem d_Mo_twice_4 : decode c_Mo_twice 4 = .ok (.aload_n 0, 1) := by decide +kernel
theorem d_Mo_twice_5 : decode c_Mo_twice 5 = .ok (.bipush 32, 2) := by decide +kernel
theorem d_Mo_twice_7 : decode c_Mo_twice 7 = .ok (.putfield 138, 3) := by decide +kernel
theorem d_Mo_twice_10 : decode c_Mo_twice 10 = .ok (.iconst 0, 1) := by decide +kernel
theorem d_Mo_twice_11 : decode c_Mo_twice 11 = .ok (.istore_n 1, 1) := by decide +kernel
theorem d_Mo_twice_12 : decode c_Mo_twice 12 = .ok (.iload_n 1, 1) := by decide +kernel
theorem d_Mo_twice_13 : decode c_Mo_twice 13 = .ok (.bipush 32, 2) := by decide +kernel
theorem d_Mo_twice_15 : decode c_Mo_twice 15 = .ok (.if_icmp .ge 21, 3) := by decide +kernel
theorem d_Mo_twice_18 : decode c_Mo_twice 18 = .ok (.aload_n 0, 1) := by decide +kernel
theorem d_Mo_twice_19 : decode c_Mo_twice 19 = .ok (.getfield 33, 3) := by decide +kernel
theorem d_Mo_twice_22 : decode c_Mo_twice 22 = .ok (.iload_n 1, 1) := by decide +kernel
theorem d_Mo_twice_23 : decode c_Mo_twice 23 = .ok (.aload_n 0, 1) := by decide +kernel
theorem d_Mo_twice_24 : decode c_Mo_twice 24 = .ok (.getfield 42, 3) := by decide +kernel
theorem d_Mo_twice_27 : decode c_Mo_twice 27 = .ok (.iload_n 1, 1) := by decide +kernel
theorem d_Mo_twice_28 : decode c_Mo_twice 28 = .ok (.iaload, 1) := by decide +kernel
theorem d_Mo_twice_29 : decode c_Mo_twice 29 = .ok (.iastore, 1) := by decide +kernel
theorem d_Mo_twice_30 : decode c_Mo_twice 30 = .ok (.iinc 1 1, 3) := by decide +kernel
theorem d_Mo_twice_33 : decode c_Mo_twice 33 = .ok (.goto (-21), 3) := by decide +kernel
theorem d_Mo_twice_36 : decode c_Mo_twice 36 = .ok (.aload_n 0, 1) := by decide +kernel
theorem d_Mo_twice_37 : decode c_Mo_twice 37 = .ok (.invokevirtual 159, 3) := by decide +kernel
theorem d_Mo_twice_40 : decode c_Mo_twice 40 = .ok (.return_, 1) := by decide +kernel
theorem d_Mo_ofPool_0 : decode c_Mo_ofPool 0 = .ok (.aload_n 0, 1) := by decide +kernel
theorem d_Mo_ofPool_1 : decode c_Mo_ofPool 1 = .ok (.aload_n 0, 1) := by decide +kernel
theorem d_Mo_ofPool_2 : decode c_Mo_ofPool 2 = .ok (.getfield 20, 3) := by decide +kernel
theorem d_Mo_ofPool_5 : decode c_Mo_ofPool 5 = .ok (.iload_n 1, 1) := by decide +kernel
theorem d_Mo_ofPool_6 : decode c_Mo_ofPool 6 = .ok (.iaload, 1) := by decide +kernel
theorem d_Mo_ofPool_7 : decode c_Mo_ofPool 7 = .ok (.putfield 138, 3) := by decide +kernel
theorem d_Mo_ofPool_10 : decode c_Mo_ofPool 10 = .ok (.iconst 0, 1) := by decide +kernel
theorem d_Mo_ofPool_11 : decode c_Mo_ofPool 11 = .ok (.istore_n 2, 1) := by decide +kernel
theorem d_Mo_ofPool_12 : decode c_Mo_ofPool 12 = .ok (.iload_n 2, 1) := by decide +kernel
theorem d_Mo_ofPool_13 : decode c_Mo_ofPool 13 = .ok (.aload_n 0, 1) := by decide +kernel
theorem d_Mo_ofPool_14 : decode c_Mo_ofPool 14 = .ok (.getfield 138, 3) := by decide +kernel
theorem d_Mo_ofPool_17 : decode c_Mo_ofPool 17 = .ok (.if_icmp .ge 27, 3) := by decide +kernel
theorem d_Mo_ofPool_20 : decode c_Mo_ofPool 20 = .ok (.aload_n 0, 1) := by decide +kernel
theorem d_Mo_ofPool_21 : decode c_Mo_ofPool 21 = .ok (.getfield 33, 3) := by decide +kernel
theorem d_Mo_ofPool_24 : decode c_Mo_ofPool 24 = .ok (.iload_n 2, 1) := by decide +kernel
theorem d_Mo_ofPool_25 : decode c_Mo_ofPool 25 = .ok (.aload_n 0, 1) := by decide +kernel
theorem d_Mo_ofPool_26 : decode c_Mo_ofPool 26 = .ok (.getfield 24, 3) := by decide +kernel
theorem d_Mo_ofPool_29 : decode c_Mo_ofPool 29 = .ok (.sipush 1600, 3) := by decide +kernel
theorem d_Mo_ofPool_32 : decode c_Mo_ofPool 32 = .ok (.iload_n 1, 1) := by decide +kernel
theorem d_Mo_ofPool_33 : decode c_Mo_ofPool 33 = .ok (.imul, 1) := by decide +kernel
theorem d_Mo_ofPool_34 : decode c_Mo_ofPool 34 = .ok (.iload_n 2, 1) := by decide +kernel
theorem d_Mo_ofPool_35 : decode c_Mo_ofPool 35 = .ok (.iadd, 1) := by decide +kernel
theorem d_Mo_ofPool_36 : decode c_Mo_ofPool 36 = .ok (.iaload, 1) := by decide +kernel
theorem d_Mo_ofPool_37 : decode c_Mo_ofPool 37 = .ok (.iastore, 1) := by decide +kernel
theorem d_Mo_ofPool_38 : decode c_Mo_ofPool 38 = .ok (.iinc 2 1, 3) := by decide +kernel
theorem d_Mo_ofPool_41 : decode c_Mo_ofPool 41 = .ok (.goto (-29), 3) := by decide +kernel
theorem d_Mo_ofPool_44 : decode c_Mo_ofPool 44 = .ok (.aload_n 0, 1) := by decide +kernel
theorem d_Mo_ofPool_45 : decode c_Mo_ofPool 45 = .ok (.invokevirtual 162, 3) := by decide +kernel
theorem d_Mo_ofPool_48 : decode c_Mo_ofPool 48 = .ok (.return_, 1) := by decide +kernel
theorem d_Mo_times_0 : decode c_Mo_times 0 = .ok (.iconst 0, 1) := by decide +kernel
theorem d_Mo_times_1 : decode c_Mo_times 1 = .ok (.istore_n 2, 1) := by decide +kernel
theorem d_Mo_times_2 : decode c_Mo_times 2 = .ok (.iload_n 0, 1) := by decide +kernel
theorem d_Mo_times_3 : decode c_Mo_times 3 = .ok (.istore_n 3, 1) := by decide +kernel
theorem d_Mo_times_4 : decode c_Mo_times 4 = .ok (.iload_n 1, 1) := by decide +kernel
theorem d_Mo_times_5 : decode c_Mo_times 5 = .ok (.istore 4, 2) := by decide +kernel
theorem d_Mo_times_7 : decode c_Mo_times 7 = .ok (.iload 4, 2) := by decide +kernel
theorem d_Mo_times_9 : decode c_Mo_times 9 = .ok (.ifCond .le 48, 3) := by decide +kernel
theorem d_Mo_times_12 : decode c_Mo_times 12 = .ok (.iload_n 2, 1) := by decide +kernel
theorem d_Mo_times_13 : decode c_Mo_times 13 = .ok (.iload 4, 2) := by decide +kernel
theorem d_Mo_times_15 : decode c_Mo_times 15 = .ok (.iconst 1, 1) := by decide +kernel
theorem d_Mo_times_16 : decode c_Mo_times 16 = .ok (.iand, 1) := by decide +kernel
theorem d_Mo_times_17 : decode c_Mo_times 17 = .ok (.iconst 1, 1) := by decide +kernel
theorem d_Mo_times_18 : decode c_Mo_times 18 = .ok (.if_icmp .ne 7, 3) := by decide +kernel
theorem d_Mo_times_21 : decode c_Mo_times 21 = .ok (.iload_n 3, 1) := by decide +kernel
theorem d_Mo_times_22 : decode c_Mo_times 22 = .ok (.goto 4, 3) := by decide +kernel
theorem d_Mo_times_25 : decode c_Mo_times 25 = .ok (.iconst 0, 1) := by decide +kernel
theorem d_Mo_times_26 : decode c_Mo_times 26 = .ok (.ixor, 1) := by decide +kernel
theorem d_Mo_times_27 : decode c_Mo_times 27 = .ok (.istore_n 2, 1) := by decide +kernel
theorem d_Mo_times_28 : decode c_Mo_times 28 = .ok (.iload_n 3, 1) := by decide +kernel
theorem d_Mo_times_29 : decode c_Mo_times 29 = .ok (.bipush 127, 2) := by decide +kernel
theorem d_Mo_times_31 : decode c_Mo_times 31 = .ok (.if_icmp .le 13, 3) := by decide +kernel
theorem d_Mo_times_34 : decode c_Mo_times 34 = .ok (.iconst 2, 1) := by decide +kernel
theorem d_Mo_times_35 : decode c_Mo_times 35 = .ok (.iload_n 3, 1) := by decide +kernel
theorem d_Mo_times_36 : decode c_Mo_times 36 = .ok (.imul, 1) := by decide +kernel
theorem d_Mo_times_37 : decode c_Mo_times 37 = .ok (.sipush 283, 3) := by decide +kernel
theorem d_Mo_times_40 : decode c_Mo_times 40 = .ok (.ixor, 1) := by decide +kernel
theorem d_Mo_times_41 : decode c_Mo_times 41 = .ok (.goto 6, 3) := by decide +kernel
theorem d_Mo_times_44 : decode c_Mo_times 44 = .ok (.iconst 2, 1) := by decide +kernel
theorem d_Mo_times_45 : decode c_Mo_times 45 = .ok (.iload_n 3, 1) := by decide +kernel
theorem d_Mo_times_46 : decode c_Mo_times 46 = .ok (.imul, 1) := by decide +kernel
theorem d_Mo_times_47 : decode c_Mo_times 47 = .ok (.istore_n 3, 1) := by decide +kernel
theorem d_Mo_times_48 : decode c_Mo_times 48 = .ok (.iload 4, 2) := by decide +kernel
theorem d_Mo_times_50 : decode c_Mo_times 50 = .ok (.iconst 1, 1) := by decide +kernel
theorem d_Mo_times_51 : decode c_Mo_times 51 = .ok (.ishr, 1) := by decide +kernel
theorem d_Mo_times_52 : decode c_Mo_times 52 = .ok (.istore 4, 2) := by decide +kernel
theorem d_Mo_times_54 : decode c_Mo_times 54 = .ok (.goto (-47), 3) := by decide +kernel
theorem d_Mo_times_57 : decode c_Mo_times 57 = .ok (.iload_n 2, 1) := by decide +kernel
theorem d_Mo_times_58 : decode c_Mo_times 58 = .ok (.ireturn, 1) := by decide +kernel
theorem d_Mo_turned_0 : decode c_Mo_turned 0 = .ok (.iconst 1, 1) := by decide +kernel
theorem d_Mo_turned_1 : decode c_Mo_turned 1 = .ok (.istore_n 1, 1) := by decide +kernel
theorem d_Mo_turned_2 : decode c_Mo_turned 2 = .ok (.iconst 0, 1) := by decide +kernel
theorem d_Mo_turned_3 : decode c_Mo_turned 3 = .ok (.istore_n 2, 1) := by decide +kernel
theorem d_Mo_turned_4 : decode c_Mo_turned 4 = .ok (.iload_n 2, 1) := by decide +kernel
theorem d_Mo_turned_5 : decode c_Mo_turned 5 = .ok (.sipush 254, 3) := by decide +kernel
theorem d_Mo_turned_8 : decode c_Mo_turned 8 = .ok (.if_icmp .ge 15, 3) := by decide +kernel
theorem d_Mo_turned_11 : decode c_Mo_turned 11 = .ok (.iload_n 1, 1) := by decide +kernel
theorem d_Mo_turned_12 : decode c_Mo_turned 12 = .ok (.iload_n 0, 1) := by decide +kernel
theorem d_Mo_turned_13 : decode c_Mo_turned 13 = .ok (.invokestatic 165, 3) := by decide +kernel
theorem d_Mo_turned_16 : decode c_Mo_turned 16 = .ok (.istore_n 1, 1) := by decide +kernel
theorem d_Mo_turned_17 : decode c_Mo_turned 17 = .ok (.iinc 2 1, 3) := by decide +kernel
theorem d_Mo_turned_20 : decode c_Mo_turned 20 = .ok (.goto (-16), 3) := by decide +kernel
theorem d_Mo_turned_23 : decode c_Mo_turned 23 = .ok (.iconst 0, 1) := by decide +kernel
theorem d_Mo_turned_24 : decode c_Mo_turned 24 = .ok (.istore_n 2, 1) := by decide +kernel
theorem d_Mo_turned_25 : decode c_Mo_turned 25 = .ok (.iconst 0, 1) := by decide +kernel
theorem d_Mo_turned_26 : decode c_Mo_turned 26 = .ok (.istore_n 3, 1) := by decide +kernel
theorem d_Mo_turned_27 : decode c_Mo_turned 27 = .ok (.iload_n 3, 1) := by decide +kernel
theorem d_Mo_turned_28 : decode c_Mo_turned 28 = .ok (.bipush 8, 2) := by decide +kernel
theorem d_Mo_turned_30 : decode c_Mo_turned 30 = .ok (.if_icmp .ge 66, 3) := by decide +kernel
theorem d_Mo_turned_33 : decode c_Mo_turned 33 = .ok (.iload_n 1, 1) := by decide +kernel
theorem d_Mo_turned_34 : decode c_Mo_turned 34 = .ok (.iload_n 3, 1) := by decide +kernel
theorem d_Mo_turned_35 : decode c_Mo_turned 35 = .ok (.ishr, 1) := by decide +kernel
theorem d_Mo_turned_36 : decode c_Mo_turned 36 = .ok (.iload_n 1, 1) := by decide +kernel
theorem d_Mo_turned_37 : decode c_Mo_turned 37 = .ok (.iload_n 3, 1) := by decide +kernel
theorem d_Mo_turned_38 : decode c_Mo_turned 38 = .ok (.iconst 4, 1) := by decide +kernel
theorem d_Mo_turned_39 : decode c_Mo_turned 39 = .ok (.iadd, 1) := by decide +kernel
theorem d_Mo_turned_40 : decode c_Mo_turned 40 = .ok (.bipush 8, 2) := by decide +kernel
theorem d_Mo_turned_42 : decode c_Mo_turned 42 = .ok (.irem, 1) := by decide +kernel
theorem d_Mo_turned_43 : decode c_Mo_turned 43 = .ok (.ishr, 1) := by decide +kernel
theorem d_Mo_turned_44 : decode c_Mo_turned 44 = .ok (.ixor, 1) := by decide +kernel
theorem d_Mo_turned_45 : decode c_Mo_turned 45 = .ok (.iload_n 1, 1) := by decide +kernel
theorem d_Mo_turned_46 : decode c_Mo_turned 46 = .ok (.iload_n 3, 1) := by decide +kernel
theorem d_Mo_turned_47 : decode c_Mo_turned 47 = .ok (.iconst 5, 1) := by decide +kernel
theorem d_Mo_turned_48 : decode c_Mo_turned 48 = .ok (.iadd, 1) := by decide +kernel
theorem d_Mo_turned_49 : decode c_Mo_turned 49 = .ok (.bipush 8, 2) := by decide +kernel
theorem d_Mo_turned_51 : decode c_Mo_turned 51 = .ok (.irem, 1) := by decide +kernel
theorem d_Mo_turned_52 : decode c_Mo_turned 52 = .ok (.ishr, 1) := by decide +kernel
theorem d_Mo_turned_53 : decode c_Mo_turned 53 = .ok (.ixor, 1) := by decide +kernel
theorem d_Mo_turned_54 : decode c_Mo_turned 54 = .ok (.iload_n 1, 1) := by decide +kernel
theorem d_Mo_turned_55 : decode c_Mo_turned 55 = .ok (.iload_n 3, 1) := by decide +kernel
theorem d_Mo_turned_56 : decode c_Mo_turned 56 = .ok (.bipush 6, 2) := by decide +kernel
theorem d_Mo_turned_58 : decode c_Mo_turned 58 = .ok (.iadd, 1) := by decide +kernel
theorem d_Mo_turned_59 : decode c_Mo_turned 59 = .ok (.bipush 8, 2) := by decide +kernel
theorem d_Mo_turned_61 : decode c_Mo_turned 61 = .ok (.irem, 1) := by decide +kernel
theorem d_Mo_turned_62 : decode c_Mo_turned 62 = .ok (.ishr, 1) := by decide +kernel
theorem d_Mo_turned_63 : decode c_Mo_turned 63 = .ok (.ixor, 1) := by decide +kernel
theorem d_Mo_turned_64 : decode c_Mo_turned 64 = .ok (.iload_n 1, 1) := by decide +kernel
theorem d_Mo_turned_65 : decode c_Mo_turned 65 = .ok (.iload_n 3, 1) := by decide +kernel
theorem d_Mo_turned_66 : decode c_Mo_turned 66 = .ok (.bipush 7, 2) := by decide +kernel
theorem d_Mo_turned_68 : decode c_Mo_turned 68 = .ok (.iadd, 1) := by decide +kernel
theorem d_Mo_turned_69 : decode c_Mo_turned 69 = .ok (.bipush 8, 2) := by decide +kernel
theorem d_Mo_turned_71 : decode c_Mo_turned 71 = .ok (.irem, 1) := by decide +kernel
theorem d_Mo_turned_72 : decode c_Mo_turned 72 = .ok (.ishr, 1) := by decide +kernel
theorem d_Mo_turned_73 : decode c_Mo_turned 73 = .ok (.ixor, 1) := by decide +kernel
theorem d_Mo_turned_74 : decode c_Mo_turned 74 = .ok (.bipush 99, 2) := by decide +kernel
theorem d_Mo_turned_76 : decode c_Mo_turned 76 = .ok (.iload_n 3, 1) := by decide +kernel
theorem d_Mo_turned_77 : decode c_Mo_turned 77 = .ok (.ishr, 1) := by decide +kernel
theorem d_Mo_turned_78 : decode c_Mo_turned 78 = .ok (.ixor, 1) := by decide +kernel
theorem d_Mo_turned_79 : decode c_Mo_turned 79 = .ok (.istore 4, 2) := by decide +kernel
theorem d_Mo_turned_81 : decode c_Mo_turned 81 = .ok (.iload_n 2, 1) := by decide +kernel
theorem d_Mo_turned_82 : decode c_Mo_turned 82 = .ok (.iload 4, 2) := by decide +kernel
theorem d_Mo_turned_84 : decode c_Mo_turned 84 = .ok (.iconst 1, 1) := by decide +kernel
theorem d_Mo_turned_85 : decode c_Mo_turned 85 = .ok (.iand, 1) := by decide +kernel
theorem d_Mo_turned_86 : decode c_Mo_turned 86 = .ok (.iload_n 3, 1) := by decide +kernel
theorem d_Mo_turned_87 : decode c_Mo_turned 87 = .ok (.ishl, 1) := by decide +kernel
theorem d_Mo_turned_88 : decode c_Mo_turned 88 = .ok (.iadd, 1) := by decide +kernel
theorem d_Mo_turned_89 : decode c_Mo_turned 89 = .ok (.istore_n 2, 1) := by decide +kernel
theorem d_Mo_turned_90 : decode c_Mo_turned 90 = .ok (.iinc 3 1, 3) := by decide +kernel
theorem d_Mo_turned_93 : decode c_Mo_turned 93 = .ok (.goto (-66), 3) := by decide +kernel
theorem d_Mo_turned_96 : decode c_Mo_turned 96 = .ok (.iload_n 2, 1) := by decide +kernel
theorem d_Mo_turned_97 : decode c_Mo_turned 97 = .ok (.ireturn, 1) := by decide +kernel
theorem d_Mo_s_0 : decode c_Mo_s 0 = .ok (.iconst 0, 1) := by decide +kernel
theorem d_Mo_s_1 : decode c_Mo_s 1 = .ok (.istore_n 2, 1) := by decide +kernel
theorem d_Mo_s_2 : decode c_Mo_s 2 = .ok (.iload_n 2, 1) := by decide +kernel
theorem d_Mo_s_3 : decode c_Mo_s 3 = .ok (.sipush 256, 3) := by decide +kernel
theorem d_Mo_s_6 : decode c_Mo_s 6 = .ok (.if_icmp .ge 26, 3) := by decide +kernel
theorem d_Mo_s_9 : decode c_Mo_s 9 = .ok (.aload_n 0, 1) := by decide +kernel
theorem d_Mo_s_10 : decode c_Mo_s 10 = .ok (.getfield 168, 3) := by decide +kernel
theorem d_Mo_s_13 : decode c_Mo_s 13 = .ok (.ifCond .ne 19, 3) := by decide +kernel
theorem d_Mo_s_16 : decode c_Mo_s 16 = .ok (.aload_n 0, 1) := by decide +kernel
theorem d_Mo_s_17 : decode c_Mo_s 17 = .ok (.getfield 60, 3) := by decide +kernel
theorem d_Mo_s_20 : decode c_Mo_s 20 = .ok (.iload_n 2, 1) := by decide +kernel
theorem d_Mo_s_21 : decode c_Mo_s 21 = .ok (.iload_n 2, 1) := by decide +kernel
theorem d_Mo_s_22 : decode c_Mo_s 22 = .ok (.invokestatic 172, 3) := by decide +kernel
theorem d_Mo_s_25 : decode c_Mo_s 25 = .ok (.iastore, 1) := by decide +kernel
theorem d_Mo_s_26 : decode c_Mo_s 26 = .ok (.iinc 2 1, 3) := by decide +kernel
theorem d_Mo_s_29 : decode c_Mo_s 29 = .ok (.goto (-27), 3) := by decide +kernel
theorem d_Mo_s_32 : decode c_Mo_s 32 = .ok (.aload_n 0, 1) := by decide +kernel
theorem d_Mo_s_33 : decode c_Mo_s 33 = .ok (.iconst 1, 1) := by decide +kernel
theorem d_Mo_s_34 : decode c_Mo_s 34 = .ok (.putfield 168, 3) := by decide +kernel
theorem d_Mo_s_37 : decode c_Mo_s 37 = .ok (.aload_n 0, 1) := by decide +kernel
theorem d_Mo_s_38 : decode c_Mo_s 38 = .ok (.getfield 60, 3) := by decide +kernel
theorem d_Mo_s_41 : decode c_Mo_s 41 = .ok (.iload_n 1, 1) := by decide +kernel
theorem d_Mo_s_42 : decode c_Mo_s 42 = .ok (.iaload, 1) := by decide +kernel
theorem d_Mo_s_43 : decode c_Mo_s 43 = .ok (.ireturn, 1) := by decide +kernel
theorem d_Mo_schedules_0 : decode c_Mo_schedules 0 = .ok (.iconst 1, 1) := by decide +kernel
theorem d_Mo_schedules_1 : decode c_Mo_schedules 1 = .ok (.istore_n 1, 1) := by decide +kernel
theorem d_Mo_schedules_2 : decode c_Mo_schedules 2 = .ok (.iconst 0, 1) := by decide +kernel
theorem d_Mo_schedules_3 : decode c_Mo_schedules 3 = .ok (.istore_n 2, 1) := by decide +kernel
theorem d_Mo_schedules_4 : decode c_Mo_schedules 4 = .ok (.iload_n 2, 1) := by decide +kernel
theorem d_Mo_schedules_5 : decode c_Mo_schedules 5 = .ok (.sipush 176, 3) := by decide +kernel
theorem d_Mo_schedules_8 : decode c_Mo_schedules 8 = .ok (.if_icmp .ge 123, 3) := by decide +kernel
theorem d_Mo_schedules_11 : decode c_Mo_schedules 11 = .ok (.iload_n 2, 1) := by decide +kernel
theorem d_Mo_schedules_12 : decode c_Mo_schedules 12 = .ok (.bipush 16, 2) := by decide +kernel
theorem d_Mo_schedules_14 : decode c_Mo_schedules 14 = .ok (.if_icmp .ge 18, 3) := by decide +kernel
theorem d_Mo_schedules_17 : decode c_Mo_schedules 17 = .ok (.aload_n 0, 1) := by decide +kernel
theorem d_Mo_schedules_18 : decode c_Mo_schedules 18 = .ok (.getfield 57, 3) := by decide +kernel
theorem d_Mo_schedules_21 : decode c_Mo_schedules 21 = .ok (.iload_n 2, 1) := by decide +kernel
theorem d_Mo_schedules_22 : decode c_Mo_schedules 22 = .ok (.aload_n 0, 1) := by decide +kernel
theorem d_Mo_schedules_23 : decode c_Mo_schedules 23 = .ok (.getfield 7, 3) := by decide +kernel
theorem d_Mo_schedules_26 : decode c_Mo_schedules 26 = .ok (.iload_n 2, 1) := by decide +kernel
theorem d_Mo_schedules_27 : decode c_Mo_schedules 27 = .ok (.iaload, 1) := by decide +kernel
theorem d_Mo_schedules_28 : decode c_Mo_schedules 28 = .ok (.iastore, 1) := by decide +kernel
theorem d_Mo_schedules_29 : decode c_Mo_schedules 29 = .ok (.goto 96, 3) := by decide +kernel
theorem d_Mo_schedules_32 : decode c_Mo_schedules 32 = .ok (.iload_n 2, 1) := by decide +kernel
theorem d_Mo_schedules_33 : decode c_Mo_schedules 33 = .ok (.iconst 4, 1) := by decide +kernel
theorem d_Mo_schedules_34 : decode c_Mo_schedules 34 = .ok (.idiv, 1) := by decide +kernel
theorem d_Mo_schedules_35 : decode c_Mo_schedules 35 = .ok (.istore_n 3, 1) := by decide +kernel
theorem d_Mo_schedules_36 : decode c_Mo_schedules 36 = .ok (.iload_n 2, 1) := by decide +kernel
theorem d_Mo_schedules_37 : decode c_Mo_schedules 37 = .ok (.iconst 4, 1) := by decide +kernel
theorem d_Mo_schedules_38 : decode c_Mo_schedules 38 = .ok (.irem, 1) := by decide +kernel
theorem d_Mo_schedules_39 : decode c_Mo_schedules 39 = .ok (.istore 4, 2) := by decide +kernel
theorem d_Mo_schedules_41 : decode c_Mo_schedules 41 = .ok (.aload_n 0, 1) := by decide +kernel
theorem d_Mo_schedules_42 : decode c_Mo_schedules 42 = .ok (.getfield 57, 3) := by decide +kernel
theorem d_Mo_schedules_45 : decode c_Mo_schedules 45 = .ok (.iload_n 2, 1) := by decide +kernel
theorem d_Mo_schedules_46 : decode c_Mo_schedules 46 = .ok (.iconst 4, 1) := by decide +kernel
theorem d_Mo_schedules_47 : decode c_Mo_schedules 47 = .ok (.isub, 1) := by decide +kernel
theorem d_Mo_schedules_48 : decode c_Mo_schedules 48 = .ok (.iaload, 1) := by decide +kernel
theorem d_Mo_schedules_49 : decode c_Mo_schedules 49 = .ok (.istore 5, 2) := by decide +kernel
theorem d_Mo_schedules_51 : decode c_Mo_schedules 51 = .ok (.iload_n 3, 1) := by decide +kernel
theorem d_Mo_schedules_52 : decode c_Mo_schedules 52 = .ok (.iconst 4, 1) := by decide +kernel
theorem d_Mo_schedules_53 : decode c_Mo_schedules 53 = .ok (.irem, 1) := by decide +kernel
theorem d_Mo_schedules_54 : decode c_Mo_schedules 54 = .ok (.ifCond .ne 53, 3) := by decide +kernel
theorem d_Mo_schedules_57 : decode c_Mo_schedules 57 = .ok (.aload_n 0, 1) := by decide +kernel
theorem d_Mo_schedules_58 : decode c_Mo_schedules 58 = .ok (.aload_n 0, 1) := by decide +kernel
theorem d_Mo_schedules_59 : decode c_Mo_schedules 59 = .ok (.getfield 57, 3) := by decide +kernel
theorem d_Mo_schedules_62 : decode c_Mo_schedules 62 = .ok (.iconst 4, 1) := by decide +kernel
theorem d_Mo_schedules_63 : decode c_Mo_schedules 63 = .ok (.iload_n 3, 1) := by decide +kernel
theorem d_Mo_schedules_64 : decode c_Mo_schedules 64 = .ok (.imul, 1) := by decide +kernel
theorem d_Mo_schedules_65 : decode c_Mo_schedules 65 = .ok (.iconst 4, 1) := by decide +kernel
theorem d_Mo_schedules_66 : decode c_Mo_schedules 66 = .ok (.isub, 1) := by decide +kernel
theorem d_Mo_schedules_67 : decode c_Mo_schedules 67 = .ok (.iload 4, 2) := by decide +kernel
theorem d_Mo_schedules_69 : decode c_Mo_schedules 69 = .ok (.iconst 1, 1) := by decide +kernel
theorem d_Mo_schedules_70 : decode c_Mo_schedules 70 = .ok (.iadd, 1) := by decide +kernel
theorem d_Mo_schedules_71 : decode c_Mo_schedules 71 = .ok (.iconst 4, 1) := by decide +kernel
theorem d_Mo_schedules_72 : decode c_Mo_schedules 72 = .ok (.irem, 1) := by decide +kernel
theorem d_Mo_schedules_73 : decode c_Mo_schedules 73 = .ok (.iadd, 1) := by decide +kernel
theorem d_Mo_schedules_74 : decode c_Mo_schedules 74 = .ok (.iaload, 1) := by decide +kernel
theorem d_Mo_schedules_75 : decode c_Mo_schedules 75 = .ok (.invokevirtual 175, 3) := by decide +kernel
theorem d_Mo_schedules_78 : decode c_Mo_schedules 78 = .ok (.iload 4, 2) := by decide +kernel
theorem d_Mo_schedules_80 : decode c_Mo_schedules 80 = .ok (.ifCond .ne 7, 3) := by decide +kernel
theorem d_Mo_schedules_83 : decode c_Mo_schedules 83 = .ok (.iload_n 1, 1) := by decide +kernel
theorem d_Mo_schedules_84 : decode c_Mo_schedules 84 = .ok (.goto 4, 3) := by decide +kernel
theorem d_Mo_schedules_87 : decode c_Mo_schedules 87 = .ok (.iconst 0, 1) := by decide +kernel
theorem d_Mo_schedules_88 : decode c_Mo_schedules 88 = .ok (.ixor, 1) := by decide +kernel
theorem d_Mo_schedules_89 : decode c_Mo_schedules 89 = .ok (.istore 5, 2) := by decide +kernel
theorem d_Mo_schedules_91 : decode c_Mo_schedules 91 = .ok (.iload 4, 2) := by decide +kernel
theorem d_Mo_schedules_93 : decode c_Mo_schedules 93 = .ok (.iconst 3, 1) := by decide +kernel
theorem d_Mo_schedules_94 : decode c_Mo_schedules 94 = .ok (.if_icmp .ne 11, 3) := by decide +kernel
theorem d_Mo_schedules_97 : decode c_Mo_schedules 97 = .ok (.iload_n 1, 1) := by decide +kernel
theorem d_Mo_schedules_98 : decode c_Mo_schedules 98 = .ok (.iconst 2, 1) := by decide +kernel
theorem d_Mo_schedules_99 : decode c_Mo_schedules 99 = .ok (.invokestatic 165, 3) := by decide +kernel
theorem d_Mo_schedules_102 : decode c_Mo_schedules 102 = .ok (.goto 4, 3) := by decide +kernel
theorem d_Mo_schedules_105 : decode c_Mo_schedules 105 = .ok (.iload_n 1, 1) := by decide +kernel
theorem d_Mo_schedules_106 : decode c_Mo_schedules 106 = .ok (.istore_n 1, 1) := by decide +kernel
theorem d_Mo_schedules_107 : decode c_Mo_schedules 107 = .ok (.aload_n 0, 1) := by decide +kernel
theorem d_Mo_schedules_108 : decode c_Mo_schedules 108 = .ok (.getfield 57, 3) := by decide +kernel
theorem d_Mo_schedules_111 : decode c_Mo_schedules 111 = .ok (.iload_n 2, 1) := by decide +kernel
theorem d_Mo_schedules_112 : decode c_Mo_schedules 112 = .ok (.aload_n 0, 1) := by decide +kernel
theorem d_Mo_schedules_113 : decode c_Mo_schedules 113 = .ok (.getfield 57, 3) := by decide +kernel
theorem d_Mo_schedules_116 : decode c_Mo_schedules 116 = .ok (.iload_n 2, 1) := by decide +kernel
theorem d_Mo_schedules_117 : decode c_Mo_schedules 117 = .ok (.bipush 16, 2) := by decide +kernel
theorem d_Mo_schedules_119 : decode c_Mo_schedules 119 = .ok (.isub, 1) := by decide +kernel
theorem d_Mo_schedules_120 : decode c_Mo_schedules 120 = .ok (.iaload, 1) := by decide +kernel
theorem d_Mo_schedules_121 : decode c_Mo_schedules 121 = .ok (.iload 5, 2) := by decide +kernel
theorem d_Mo_schedules_123 : decode c_Mo_schedules 123 = .ok (.ixor, 1) := by decide +kernel
theorem d_Mo_schedules_124 : decode c_Mo_schedules 124 = .ok (.iastore, 1) := by decide +kernel
theorem d_Mo_schedules_125 : decode c_Mo_schedules 125 = .ok (.iinc 2 1, 3) := by decide +kernel
theorem d_Mo_schedules_128 : decode c_Mo_schedules 128 = .ok (.goto (-124), 3) := by decide +kernel
theorem d_Mo_schedules_131 : decode c_Mo_schedules 131 = .ok (.return_, 1) := by decide +kernel
theorem d_Mo_generates_0 : decode c_Mo_generates 0 = .ok (.aload_n 0, 1) := by decide +kernel
theorem d_Mo_generates_1 : decode c_Mo_generates 1 = .ok (.invokevirtual 178, 3) := by decide +kernel
theorem d_Mo_generates_4 : decode c_Mo_generates 4 = .ok (.iconst 0, 1) := by decide +kernel
theorem d_Mo_generates_5 : decode c_Mo_generates 5 = .ok (.istore_n 2, 1) := by decide +kernel
theorem d_Mo_generates_6 : decode c_Mo_generates 6 = .ok (.iload_n 2, 1) := by decide +kernel
theorem d_Mo_generates_7 : decode c_Mo_generates 7 = .ok (.bipush 16, 2) := by decide +kernel
theorem d_Mo_generates_9 : decode c_Mo_generates 9 = .ok (.if_icmp .ge 28, 3) := by decide +kernel
theorem d_Mo_generates_12 : decode c_Mo_generates 12 = .ok (.aload_n 0, 1) := by decide +kernel
theorem d_Mo_generates_13 : decode c_Mo_generates 13 = .ok (.getfield 51, 3) := by decide +kernel
theorem d_Mo_generates_16 : decode c_Mo_generates 16 = .ok (.iload_n 2, 1) := by decide +kernel
theorem d_Mo_generates_17 : decode c_Mo_generates 17 = .ok (.aload_n 0, 1) := by decide +kernel
theorem d_Mo_generates_18 : decode c_Mo_generates 18 = .ok (.getfield 13, 3) := by decide +kernel
theorem d_Mo_generates_21 : decode c_Mo_generates 21 = .ok (.iload_n 2, 1) := by decide +kernel
theorem d_Mo_generates_22 : decode c_Mo_generates 22 = .ok (.iaload, 1) := by decide +kernel
theorem d_Mo_generates_23 : decode c_Mo_generates 23 = .ok (.aload_n 0, 1) := by decide +kernel
theorem d_Mo_generates_24 : decode c_Mo_generates 24 = .ok (.getfield 57, 3) := by decide +kernel
theorem d_Mo_generates_27 : decode c_Mo_generates 27 = .ok (.iload_n 2, 1) := by decide +kernel
theorem d_Mo_generates_28 : decode c_Mo_generates 28 = .ok (.iaload, 1) := by decide +kernel
theorem d_Mo_generates_29 : decode c_Mo_generates 29 = .ok (.ixor, 1) := by decide +kernel
theorem d_Mo_generates_30 : decode c_Mo_generates 30 = .ok (.iastore, 1) := by decide +kernel
theorem d_Mo_generates_31 : decode c_Mo_generates 31 = .ok (.iinc 2 1, 3) := by decide +kernel
theorem d_Mo_generates_34 : decode c_Mo_generates 34 = .ok (.goto (-28), 3) := by decide +kernel
theorem d_Mo_generates_37 : decode c_Mo_generates 37 = .ok (.iconst 1, 1) := by decide +kernel
theorem d_Mo_generates_38 : decode c_Mo_generates 38 = .ok (.istore_n 2, 1) := by decide +kernel
theorem d_Mo_generates_39 : decode c_Mo_generates 39 = .ok (.iload_n 2, 1) := by decide +kernel
theorem d_Mo_generates_40 : decode c_Mo_generates 40 = .ok (.bipush 11, 2) := by decide +kernel
theorem d_Mo_generates_42 : decode c_Mo_generates 42 = .ok (.if_icmp .ge 194, 3) := by decide +kernel
theorem d_Mo_generates_45 : decode c_Mo_generates 45 = .ok (.iconst 0, 1) := by decide +kernel
theorem d_Mo_generates_46 : decode c_Mo_generates 46 = .ok (.istore_n 3, 1) := by decide +kernel
theorem d_Mo_generates_47 : decode c_Mo_generates 47 = .ok (.iload_n 3, 1) := by decide +kernel
theorem d_Mo_generates_48 : decode c_Mo_generates 48 = .ok (.iconst 4, 1) := by decide +kernel
theorem d_Mo_generates_49 : decode c_Mo_generates 49 = .ok (.if_icmp .ge 55, 3) := by decide +kernel
theorem d_Mo_generates_52 : decode c_Mo_generates 52 = .ok (.iconst 0, 1) := by decide +kernel
theorem d_Mo_generates_53 : decode c_Mo_generates 53 = .ok (.istore 4, 2) := by decide +kernel
theorem d_Mo_generates_55 : decode c_Mo_generates 55 = .ok (.iload 4, 2) := by decide +kernel
theorem d_Mo_generates_57 : decode c_Mo_generates 57 = .ok (.iconst 4, 1) := by decide +kernel
theorem d_Mo_generates_58 : decode c_Mo_generates 58 = .ok (.if_icmp .ge 40, 3) := by decide +kernel
theorem d_Mo_generates_61 : decode c_Mo_generates 61 = .ok (.aload_n 0, 1) := by decide +kernel
theorem d_Mo_generates_62 : decode c_Mo_generates 62 = .ok (.getfield 54, 3) := by decide +kernel
theorem d_Mo_generates_65 : decode c_Mo_generates 65 = .ok (.iconst 4, 1) := by decide +kernel
theorem d_Mo_generates_66 : decode c_Mo_generates 66 = .ok (.iload_n 3, 1) := by decide +kernel
theorem d_Mo_generates_67 : decode c_Mo_generates 67 = .ok (.imul, 1) := by decide +kernel
theorem d_Mo_generates_68 : decode c_Mo_generates 68 = .ok (.iload 4, 2) := by decide +kernel
theorem d_Mo_generates_70 : decode c_Mo_generates 70 = .ok (.iadd, 1) := by decide +kernel
theorem d_Mo_generates_71 : decode c_Mo_generates 71 = .ok (.aload_n 0, 1) := by decide +kernel
theorem d_Mo_generates_72 : decode c_Mo_generates 72 = .ok (.aload_n 0, 1) := by decide +kernel
theorem d_Mo_generates_73 : decode c_Mo_generates 73 = .ok (.getfield 51, 3) := by decide +kernel
theorem d_Mo_generates_76 : decode c_Mo_generates 76 = .ok (.iconst 4, 1) := by decide +kernel
theorem d_Mo_generates_77 : decode c_Mo_generates 77 = .ok (.iload_n 3, 1) := by decide +kernel
theorem d_Mo_generates_78 : decode c_Mo_generates 78 = .ok (.iload 4, 2) := by decide +kernel
theorem d_Mo_generates_80 : decode c_Mo_generates 80 = .ok (.iadd, 1) := by decide +kernel
theorem d_Mo_generates_81 : decode c_Mo_generates 81 = .ok (.iconst 4, 1) := by decide +kernel
theorem d_Mo_generates_82 : decode c_Mo_generates 82 = .ok (.irem, 1) := by decide +kernel
theorem d_Mo_generates_83 : decode c_Mo_generates 83 = .ok (.imul, 1) := by decide +kernel
theorem d_Mo_generates_84 : decode c_Mo_generates 84 = .ok (.iload 4, 2) := by decide +kernel
theorem d_Mo_generates_86 : decode c_Mo_generates 86 = .ok (.iadd, 1) := by decide +kernel
theorem d_Mo_generates_87 : decode c_Mo_generates 87 = .ok (.iaload, 1) := by decide +kernel
theorem d_Mo_generates_88 : decode c_Mo_generates 88 = .ok (.invokevirtual 175, 3) := by decide +kernel
theorem d_Mo_generates_91 : decode c_Mo_generates 91 = .ok (.iastore, 1) := by decide +kernel
theorem d_Mo_generates_92 : decode c_Mo_generates 92 = .ok (.iinc 4 1, 3) := by decide +kernel
theorem d_Mo_generates_95 : decode c_Mo_generates 95 = .ok (.goto (-40), 3) := by decide +kernel
theorem d_Mo_generates_98 : decode c_Mo_generates 98 = .ok (.iinc 3 1, 3) := by decide +kernel
theorem d_Mo_generates_101 : decode c_Mo_generates 101 = .ok (.goto (-54), 3) := by decide +kernel
theorem d_Mo_generates_104 : decode c_Mo_generates 104 = .ok (.iconst 0, 1) := by decide +kernel
theorem d_Mo_generates_105 : decode c_Mo_generates 105 = .ok (.istore_n 3, 1) := by decide +kernel
theorem d_Mo_generates_106 : decode c_Mo_generates 106 = .ok (.iload_n 3, 1) := by decide +kernel
theorem d_Mo_generates_107 : decode c_Mo_generates 107 = .ok (.bipush 16, 2) := by decide +kernel
theorem d_Mo_generates_109 : decode c_Mo_generates 109 = .ok (.if_icmp .ge 121, 3) := by decide +kernel
theorem d_Mo_generates_112 : decode c_Mo_generates 112 = .ok (.iload_n 3, 1) := by decide +kernel
theorem d_Mo_generates_113 : decode c_Mo_generates 113 = .ok (.iconst 4, 1) := by decide +kernel
theorem d_Mo_generates_114 : decode c_Mo_generates 114 = .ok (.idiv, 1) := by decide +kernel
theorem d_Mo_generates_115 : decode c_Mo_generates 115 = .ok (.iconst 4, 1) := by decide +kernel
theorem d_Mo_generates_116 : decode c_Mo_generates 116 = .ok (.imul, 1) := by decide +kernel
theorem d_Mo_generates_117 : decode c_Mo_generates 117 = .ok (.istore 4, 2) := by decide +kernel
theorem d_Mo_generates_119 : decode c_Mo_generates 119 = .ok (.iload_n 3, 1) := by decide +kernel
theorem d_Mo_generates_120 : decode c_Mo_generates 120 = .ok (.iconst 4, 1) := by decide +kernel
theorem d_Mo_generates_121 : decode c_Mo_generates 121 = .ok (.irem, 1) := by decide +kernel
theorem d_Mo_generates_122 : decode c_Mo_generates 122 = .ok (.istore 5, 2) := by decide +kernel
theorem d_Mo_generates_124 : decode c_Mo_generates 124 = .ok (.aload_n 0, 1) := by decide +kernel
theorem d_Mo_generates_125 : decode c_Mo_generates 125 = .ok (.getfield 54, 3) := by decide +kernel
theorem d_Mo_generates_128 : decode c_Mo_generates 128 = .ok (.iload 4, 2) := by decide +kernel
theorem d_Mo_generates_130 : decode c_Mo_generates 130 = .ok (.iload 5, 2) := by decide +kernel
theorem d_Mo_generates_132 : decode c_Mo_generates 132 = .ok (.iadd, 1) := by decide +kernel
theorem d_Mo_generates_133 : decode c_Mo_generates 133 = .ok (.iaload, 1) := by decide +kernel
theorem d_Mo_generates_134 : decode c_Mo_generates 134 = .ok (.iconst 2, 1) := by decide +kernel
theorem d_Mo_generates_135 : decode c_Mo_generates 135 = .ok (.invokestatic 165, 3) := by decide +kernel
theorem d_Mo_generates_138 : decode c_Mo_generates 138 = .ok (.aload_n 0, 1) := by decide +kernel
theorem d_Mo_generates_139 : decode c_Mo_generates 139 = .ok (.getfield 54, 3) := by decide +kernel
theorem d_Mo_generates_142 : decode c_Mo_generates 142 = .ok (.iload 4, 2) := by decide +kernel
theorem d_Mo_generates_144 : decode c_Mo_generates 144 = .ok (.iload 5, 2) := by decide +kernel
theorem d_Mo_generates_146 : decode c_Mo_generates 146 = .ok (.iconst 1, 1) := by decide +kernel
theorem d_Mo_generates_147 : decode c_Mo_generates 147 = .ok (.iadd, 1) := by decide +kernel
theorem d_Mo_generates_148 : decode c_Mo_generates 148 = .ok (.iconst 4, 1) := by decide +kernel
theorem d_Mo_generates_149 : decode c_Mo_generates 149 = .ok (.irem, 1) := by decide +kernel
theorem d_Mo_generates_150 : decode c_Mo_generates 150 = .ok (.iadd, 1) := by decide +kernel
theorem d_Mo_generates_151 : decode c_Mo_generates 151 = .ok (.iaload, 1) := by decide +kernel
theorem d_Mo_generates_152 : decode c_Mo_generates 152 = .ok (.iconst 3, 1) := by decide +kernel
theorem d_Mo_generates_153 : decode c_Mo_generates 153 = .ok (.invokestatic 165, 3) := by decide +kernel
theorem d_Mo_generates_156 : decode c_Mo_generates 156 = .ok (.ixor, 1) := by decide +kernel
theorem d_Mo_generates_157 : decode c_Mo_generates 157 = .ok (.aload_n 0, 1) := by decide +kernel
theorem d_Mo_generates_158 : decode c_Mo_generates 158 = .ok (.getfield 54, 3) := by decide +kernel
theorem d_Mo_generates_161 : decode c_Mo_generates 161 = .ok (.iload 4, 2) := by decide +kernel
theorem d_Mo_generates_163 : decode c_Mo_generates 163 = .ok (.iload 5, 2) := by decide +kernel
theorem d_Mo_generates_165 : decode c_Mo_generates 165 = .ok (.iconst 2, 1) := by decide +kernel
theorem d_Mo_generates_166 : decode c_Mo_generates 166 = .ok (.iadd, 1) := by decide +kernel
theorem d_Mo_generates_167 : decode c_Mo_generates 167 = .ok (.iconst 4, 1) := by decide +kernel
theorem d_Mo_generates_168 : decode c_Mo_generates 168 = .ok (.irem, 1) := by decide +kernel
theorem d_Mo_generates_169 : decode c_Mo_generates 169 = .ok (.iadd, 1) := by decide +kernel
theorem d_Mo_generates_170 : decode c_Mo_generates 170 = .ok (.iaload, 1) := by decide +kernel
theorem d_Mo_generates_171 : decode c_Mo_generates 171 = .ok (.ixor, 1) := by decide +kernel
theorem d_Mo_generates_172 : decode c_Mo_generates 172 = .ok (.aload_n 0, 1) := by decide +kernel
theorem d_Mo_generates_173 : decode c_Mo_generates 173 = .ok (.getfield 54, 3) := by decide +kernel
theorem d_Mo_generates_176 : decode c_Mo_generates 176 = .ok (.iload 4, 2) := by decide +kernel
theorem d_Mo_generates_178 : decode c_Mo_generates 178 = .ok (.iload 5, 2) := by decide +kernel
theorem d_Mo_generates_180 : decode c_Mo_generates 180 = .ok (.iconst 3, 1) := by decide +kernel
theorem d_Mo_generates_181 : decode c_Mo_generates 181 = .ok (.iadd, 1) := by decide +kernel
theorem d_Mo_generates_182 : decode c_Mo_generates 182 = .ok (.iconst 4, 1) := by decide +kernel
theorem d_Mo_generates_183 : decode c_Mo_generates 183 = .ok (.irem, 1) := by decide +kernel
theorem d_Mo_generates_184 : decode c_Mo_generates 184 = .ok (.iadd, 1) := by decide +kernel
theorem d_Mo_generates_185 : decode c_Mo_generates 185 = .ok (.iaload, 1) := by decide +kernel
theorem d_Mo_generates_186 : decode c_Mo_generates 186 = .ok (.ixor, 1) := by decide +kernel
theorem d_Mo_generates_187 : decode c_Mo_generates 187 = .ok (.istore 6, 2) := by decide +kernel
theorem d_Mo_generates_189 : decode c_Mo_generates 189 = .ok (.aload_n 0, 1) := by decide +kernel
theorem d_Mo_generates_190 : decode c_Mo_generates 190 = .ok (.getfield 51, 3) := by decide +kernel
theorem d_Mo_generates_193 : decode c_Mo_generates 193 = .ok (.iload_n 3, 1) := by decide +kernel
theorem d_Mo_generates_194 : decode c_Mo_generates 194 = .ok (.iload_n 2, 1) := by decide +kernel
theorem d_Mo_generates_195 : decode c_Mo_generates 195 = .ok (.bipush 10, 2) := by decide +kernel
theorem d_Mo_generates_197 : decode c_Mo_generates 197 = .ok (.if_icmp .ne 12, 3) := by decide +kernel
theorem d_Mo_generates_200 : decode c_Mo_generates 200 = .ok (.aload_n 0, 1) := by decide +kernel
theorem d_Mo_generates_201 : decode c_Mo_generates 201 = .ok (.getfield 54, 3) := by decide +kernel
theorem d_Mo_generates_204 : decode c_Mo_generates 204 = .ok (.iload_n 3, 1) := by decide +kernel
theorem d_Mo_generates_205 : decode c_Mo_generates 205 = .ok (.iaload, 1) := by decide +kernel
theorem d_Mo_generates_206 : decode c_Mo_generates 206 = .ok (.goto 5, 3) := by decide +kernel
theorem d_Mo_generates_209 : decode c_Mo_generates 209 = .ok (.iload 6, 2) := by decide +kernel
theorem d_Mo_generates_211 : decode c_Mo_generates 211 = .ok (.aload_n 0, 1) := by decide +kernel
theorem d_Mo_generates_212 : decode c_Mo_generates 212 = .ok (.getfield 57, 3) := by decide +kernel
theorem d_Mo_generates_215 : decode c_Mo_generates 215 = .ok (.bipush 16, 2) := by decide +kernel
theorem d_Mo_generates_217 : decode c_Mo_generates 217 = .ok (.iload_n 2, 1) := by decide +kernel
theorem d_Mo_generates_218 : decode c_Mo_generates 218 = .ok (.imul, 1) := by decide +kernel
theorem d_Mo_generates_219 : decode c_Mo_generates 219 = .ok (.iload_n 3, 1) := by decide +kernel
theorem d_Mo_generates_220 : decode c_Mo_generates 220 = .ok (.iadd, 1) := by decide +kernel
theorem d_Mo_generates_221 : decode c_Mo_generates 221 = .ok (.iaload, 1) := by decide +kernel
theorem d_Mo_generates_222 : decode c_Mo_generates 222 = .ok (.ixor, 1) := by decide +kernel
theorem d_Mo_generates_223 : decode c_Mo_generates 223 = .ok (.iastore, 1) := by decide +kernel
theorem d_Mo_generates_224 : decode c_Mo_generates 224 = .ok (.iinc 3 1, 3) := by decide +kernel
theorem d_Mo_generates_227 : decode c_Mo_generates 227 = .ok (.goto (-121), 3) := by decide +kernel
theorem d_Mo_generates_230 : decode c_Mo_generates 230 = .ok (.iinc 2 1, 3) := by decide +kernel
theorem d_Mo_generates_233 : decode c_Mo_generates 233 = .ok (.goto (-194), 3) := by decide +kernel
theorem d_Mo_generates_236 : decode c_Mo_generates 236 = .ok (.iconst 0, 1) := by decide +kernel
theorem d_Mo_generates_237 : decode c_Mo_generates 237 = .ok (.istore_n 2, 1) := by decide +kernel
theorem d_Mo_generates_238 : decode c_Mo_generates 238 = .ok (.iload_n 2, 1) := by decide +kernel
theorem d_Mo_generates_239 : decode c_Mo_generates 239 = .ok (.bipush 16, 2) := by decide +kernel
theorem d_Mo_generates_241 : decode c_Mo_generates 241 = .ok (.if_icmp .ge 23, 3) := by decide +kernel
theorem d_Mo_generates_244 : decode c_Mo_generates 244 = .ok (.aload_n 0, 1) := by decide +kernel
theorem d_Mo_generates_245 : decode c_Mo_generates 245 = .ok (.getfield 48, 3) := by decide +kernel
theorem d_Mo_generates_248 : decode c_Mo_generates 248 = .ok (.iload_n 1, 1) := by decide +kernel
theorem d_Mo_generates_249 : decode c_Mo_generates 249 = .ok (.iload_n 2, 1) := by decide +kernel
theorem d_Mo_generates_250 : decode c_Mo_generates 250 = .ok (.iadd, 1) := by decide +kernel
theorem d_Mo_generates_251 : decode c_Mo_generates 251 = .ok (.aload_n 0, 1) := by decide +kernel
theorem d_Mo_generates_252 : decode c_Mo_generates 252 = .ok (.getfield 51, 3) := by decide +kernel
theorem d_Mo_generates_255 : decode c_Mo_generates 255 = .ok (.iload_n 2, 1) := by decide +kernel
theorem d_Mo_generates_256 : decode c_Mo_generates 256 = .ok (.iaload, 1) := by decide +kernel
theorem d_Mo_generates_257 : decode c_Mo_generates 257 = .ok (.iastore, 1) := by decide +kernel
theorem d_Mo_generates_258 : decode c_Mo_generates 258 = .ok (.iinc 2 1, 3) := by decide +kernel
theorem d_Mo_generates_261 : decode c_Mo_generates 261 = .ok (.goto (-23), 3) := by decide +kernel
theorem d_Mo_generates_264 : decode c_Mo_generates 264 = .ok (.aload_n 0, 1) := by decide +kernel
theorem d_Mo_generates_265 : decode c_Mo_generates 265 = .ok (.invokevirtual 181, 3) := by decide +kernel
theorem d_Mo_generates_268 : decode c_Mo_generates 268 = .ok (.return_, 1) := by decide +kernel
theorem d_Mo_counts_0 : decode c_Mo_counts 0 = .ok (.iconst 0, 1) := by decide +kernel
theorem d_Mo_counts_1 : decode c_Mo_counts 1 = .ok (.istore_n 1, 1) := by decide +kernel
theorem d_Mo_counts_2 : decode c_Mo_counts 2 = .ok (.iload_n 1, 1) := by decide +kernel
theorem d_Mo_counts_3 : decode c_Mo_counts 3 = .ok (.bipush 16, 2) := by decide +kernel
theorem d_Mo_counts_5 : decode c_Mo_counts 5 = .ok (.if_icmp .ge 28, 3) := by decide +kernel
theorem d_Mo_counts_8 : decode c_Mo_counts 8 = .ok (.aload_n 0, 1) := by decide +kernel
theorem d_Mo_counts_9 : decode c_Mo_counts 9 = .ok (.getfield 13, 3) := by decide +kernel
theorem d_Mo_counts_12 : decode c_Mo_counts 12 = .ok (.iload_n 1, 1) := by decide +kernel
theorem d_Mo_counts_13 : decode c_Mo_counts 13 = .ok (.iaload, 1) := by decide +kernel
theorem d_Mo_counts_14 : decode c_Mo_counts 14 = .ok (.sipush 255, 3) := by decide +kernel
theorem d_Mo_counts_17 : decode c_Mo_counts 17 = .ok (.if_icmp .ne 16, 3) := by decide +kernel
theorem d_Mo_counts_20 : decode c_Mo_counts 20 = .ok (.aload_n 0, 1) := by decide +kernel
theorem d_Mo_counts_21 : decode c_Mo_counts 21 = .ok (.getfield 13, 3) := by decide +kernel
theorem d_Mo_counts_24 : decode c_Mo_counts 24 = .ok (.iload_n 1, 1) := by decide +kernel
theorem d_Mo_counts_25 : decode c_Mo_counts 25 = .ok (.iconst 0, 1) := by decide +kernel
theorem d_Mo_counts_26 : decode c_Mo_counts 26 = .ok (.iastore, 1) := by decide +kernel
theorem d_Mo_counts_27 : decode c_Mo_counts 27 = .ok (.iinc 1 1, 3) := by decide +kernel
theorem d_Mo_counts_30 : decode c_Mo_counts 30 = .ok (.goto (-28), 3) := by decide +kernel
theorem d_Mo_counts_33 : decode c_Mo_counts 33 = .ok (.iload_n 1, 1) := by decide +kernel
theorem d_Mo_counts_34 : decode c_Mo_counts 34 = .ok (.bipush 16, 2) := by decide +kernel
theorem d_Mo_counts_36 : decode c_Mo_counts 36 = .ok (.if_icmp .ge 13, 3) := by decide +kernel
theorem d_Mo_counts_39 : decode c_Mo_counts 39 = .ok (.aload_n 0, 1) := by decide +kernel
theorem d_Mo_counts_40 : decode c_Mo_counts 40 = .ok (.getfield 13, 3) := by decide +kernel
theorem d_Mo_counts_43 : decode c_Mo_counts 43 = .ok (.iload_n 1, 1) := by decide +kernel
theorem d_Mo_counts_44 : decode c_Mo_counts 44 = .ok (.dup2, 1) := by decide +kernel
theorem d_Mo_counts_45 : decode c_Mo_counts 45 = .ok (.iaload, 1) := by decide +kernel
theorem d_Mo_counts_46 : decode c_Mo_counts 46 = .ok (.iconst 1, 1) := by decide +kernel
theorem d_Mo_counts_47 : decode c_Mo_counts 47 = .ok (.iadd, 1) := by decide +kernel
theorem d_Mo_counts_48 : decode c_Mo_counts 48 = .ok (.iastore, 1) := by decide +kernel
theorem d_Mo_counts_49 : decode c_Mo_counts 49 = .ok (.return_, 1) := by decide +kernel
theorem d_Mo_isSeeded_0 : decode c_Mo_isSeeded 0 = .ok (.iconst 0, 1) := by decide +kernel
theorem d_Mo_isSeeded_1 : decode c_Mo_isSeeded 1 = .ok (.istore_n 1, 1) := by decide +kernel
theorem d_Mo_isSeeded_2 : decode c_Mo_isSeeded 2 = .ok (.iconst 0, 1) := by decide +kernel
theorem d_Mo_isSeeded_3 : decode c_Mo_isSeeded 3 = .ok (.istore_n 2, 1) := by decide +kernel
theorem d_Mo_isSeeded_4 : decode c_Mo_isSeeded 4 = .ok (.iload_n 2, 1) := by decide +kernel
theorem d_Mo_isSeeded_5 : decode c_Mo_isSeeded 5 = .ok (.bipush 16, 2) := by decide +kernel
theorem d_Mo_isSeeded_7 : decode c_Mo_isSeeded 7 = .ok (.if_icmp .ge 18, 3) := by decide +kernel
theorem d_Mo_isSeeded_10 : decode c_Mo_isSeeded 10 = .ok (.iload_n 1, 1) := by decide +kernel
theorem d_Mo_isSeeded_11 : decode c_Mo_isSeeded 11 = .ok (.aload_n 0, 1) := by decide +kernel
theorem d_Mo_isSeeded_12 : decode c_Mo_isSeeded 12 = .ok (.getfield 13, 3) := by decide +kernel
theorem d_Mo_isSeeded_15 : decode c_Mo_isSeeded 15 = .ok (.iload_n 2, 1) := by decide +kernel
theorem d_Mo_isSeeded_16 : decode c_Mo_isSeeded 16 = .ok (.iaload, 1) := by decide +kernel
theorem d_Mo_isSeeded_17 : decode c_Mo_isSeeded 17 = .ok (.iadd, 1) := by decide +kernel
theorem d_Mo_isSeeded_18 : decode c_Mo_isSeeded 18 = .ok (.istore_n 1, 1) := by decide +kernel
theorem d_Mo_isSeeded_19 : decode c_Mo_isSeeded 19 = .ok (.iinc 2 1, 3) := by decide +kernel
theorem d_Mo_isSeeded_22 : decode c_Mo_isSeeded 22 = .ok (.goto (-18), 3) := by decide +kernel
theorem d_Mo_isSeeded_25 : decode c_Mo_isSeeded 25 = .ok (.iload_n 1, 1) := by decide +kernel
theorem d_Mo_isSeeded_26 : decode c_Mo_isSeeded 26 = .ok (.ifCond .le 7, 3) := by decide +kernel
theorem d_Mo_isSeeded_29 : decode c_Mo_isSeeded 29 = .ok (.iconst 1, 1) := by decide +kernel
theorem d_Mo_isSeeded_30 : decode c_Mo_isSeeded 30 = .ok (.goto 4, 3) := by decide +kernel
theorem d_Mo_isSeeded_33 : decode c_Mo_isSeeded 33 = .ok (.iconst 0, 1) := by decide +kernel
theorem d_Mo_isSeeded_34 : decode c_Mo_isSeeded 34 = .ok (.ireturn, 1) := by decide +kernel
theorem d_Mo_generatesAll_0 : decode c_Mo_generatesAll 0 = .ok (.iload_n 1, 1) := by decide +kernel
theorem d_Mo_generatesAll_1 : decode c_Mo_generatesAll 1 = .ok (.bipush 15, 2) := by decide +kernel
theorem d_Mo_generatesAll_3 : decode c_Mo_generatesAll 3 = .ok (.iadd, 1) := by decide +kernel
theorem d_Mo_generatesAll_4 : decode c_Mo_generatesAll 4 = .ok (.bipush 16, 2) := by decide +kernel
theorem d_Mo_generatesAll_6 : decode c_Mo_generatesAll 6 = .ok (.idiv, 1) := by decide +kernel
theorem d_Mo_generatesAll_7 : decode c_Mo_generatesAll 7 = .ok (.istore_n 2, 1) := by decide +kernel
theorem d_Mo_generatesAll_8 : decode c_Mo_generatesAll 8 = .ok (.iconst 0, 1) := by decide +kernel
theorem d_Mo_generatesAll_9 : decode c_Mo_generatesAll 9 = .ok (.istore_n 3, 1) := by decide +kernel
theorem d_Mo_generatesAll_10 : decode c_Mo_generatesAll 10 = .ok (.iload_n 3, 1) := by decide +kernel
theorem d_Mo_generatesAll_11 : decode c_Mo_generatesAll 11 = .ok (.iload_n 2, 1) := by decide +kernel
theorem d_Mo_generatesAll_12 : decode c_Mo_generatesAll 12 = .ok (.if_icmp .ge 17, 3) := by decide +kernel
theorem d_Mo_generatesAll_15 : decode c_Mo_generatesAll 15 = .ok (.aload_n 0, 1) := by decide +kernel
theorem d_Mo_generatesAll_16 : decode c_Mo_generatesAll 16 = .ok (.bipush 16, 2) := by decide +kernel
theorem d_Mo_generatesAll_18 : decode c_Mo_generatesAll 18 = .ok (.iload_n 3, 1) := by decide +kernel
theorem d_Mo_generatesAll_19 : decode c_Mo_generatesAll 19 = .ok (.imul, 1) := by decide +kernel
theorem d_Mo_generatesAll_20 : decode c_Mo_generatesAll 20 = .ok (.invokevirtual 184, 3) := by decide +kernel
theorem d_Mo_generatesAll_23 : decode c_Mo_generatesAll 23 = .ok (.iinc 3 1, 3) := by decide +kernel
theorem d_Mo_generatesAll_26 : decode c_Mo_generatesAll 26 = .ok (.goto (-16), 3) := by decide +kernel
theorem d_Mo_generatesAll_29 : decode c_Mo_generatesAll 29 = .ok (.aload_n 0, 1) := by decide +kernel
theorem d_Mo_generatesAll_30 : decode c_Mo_generatesAll 30 = .ok (.sipush 256, 3) := by decide +kernel
theorem d_Mo_generatesAll_33 : decode c_Mo_generatesAll 33 = .ok (.invokevirtual 184, 3) := by decide +kernel
theorem d_Mo_generatesAll_36 : decode c_Mo_generatesAll 36 = .ok (.iconst 0, 1) := by decide +kernel
theorem d_Mo_generatesAll_37 : decode c_Mo_generatesAll 37 = .ok (.istore_n 3, 1) := by decide +kernel
theorem d_Mo_generatesAll_38 : decode c_Mo_generatesAll 38 = .ok (.iload_n 3, 1) := by decide +kernel
theorem d_Mo_generatesAll_39 : decode c_Mo_generatesAll 39 = .ok (.bipush 16, 2) := by decide +kernel
theorem d_Mo_generatesAll_41 : decode c_Mo_generatesAll 41 = .ok (.if_icmp .ge 25, 3) := by decide +kernel
theorem d_Mo_generatesAll_44 : decode c_Mo_generatesAll 44 = .ok (.aload_n 0, 1) := by decide +kernel
theorem d_Mo_generatesAll_45 : decode c_Mo_generatesAll 45 = .ok (.getfield 7, 3) := by decide +kernel
theorem d_Mo_generatesAll_48 : decode c_Mo_generatesAll 48 = .ok (.iload_n 3, 1) := by decide +kernel
theorem d_Mo_generatesAll_49 : decode c_Mo_generatesAll 49 = .ok (.aload_n 0, 1) := by decide +kernel
theorem d_Mo_generatesAll_50 : decode c_Mo_generatesAll 50 = .ok (.getfield 48, 3) := by decide +kernel
theorem d_Mo_generatesAll_53 : decode c_Mo_generatesAll 53 = .ok (.sipush 256, 3) := by decide +kernel
theorem d_Mo_generatesAll_56 : decode c_Mo_generatesAll 56 = .ok (.iload_n 3, 1) := by decide +kernel
theorem d_Mo_generatesAll_57 : decode c_Mo_generatesAll 57 = .ok (.iadd, 1) := by decide +kernel
theorem d_Mo_generatesAll_58 : decode c_Mo_generatesAll 58 = .ok (.iaload, 1) := by decide +kernel
theorem d_Mo_generatesAll_59 : decode c_Mo_generatesAll 59 = .ok (.iastore, 1) := by decide +kernel
theorem d_Mo_generatesAll_60 : decode c_Mo_generatesAll 60 = .ok (.iinc 3 1, 3) := by decide +kernel
theorem d_Mo_generatesAll_63 : decode c_Mo_generatesAll 63 = .ok (.goto (-25), 3) := by decide +kernel
theorem d_Mo_generatesAll_66 : decode c_Mo_generatesAll 66 = .ok (.return_, 1) := by decide +kernel
theorem d_Mo_reseeds_0 : decode c_Mo_reseeds 0 = .ok (.aload_n 0, 1) := by decide +kernel
theorem d_Mo_reseeds_1 : decode c_Mo_reseeds 1 = .ok (.bipush 16, 2) := by decide +kernel
theorem d_Mo_reseeds_3 : decode c_Mo_reseeds 3 = .ok (.iload_n 1, 1) := by decide +kernel
theorem d_Mo_reseeds_4 : decode c_Mo_reseeds 4 = .ok (.iadd, 1) := by decide +kernel
theorem d_Mo_reseeds_5 : decode c_Mo_reseeds 5 = .ok (.putfield 138, 3) := by decide +kernel
theorem d_Mo_reseeds_8 : decode c_Mo_reseeds 8 = .ok (.iconst 0, 1) := by decide +kernel
theorem d_Mo_reseeds_9 : decode c_Mo_reseeds 9 = .ok (.istore_n 2, 1) := by decide +kernel
theorem d_Mo_reseeds_10 : decode c_Mo_reseeds 10 = .ok (.iload_n 2, 1) := by decide +kernel
theorem d_Mo_reseeds_11 : decode c_Mo_reseeds 11 = .ok (.bipush 16, 2) := by decide +kernel
theorem d_Mo_reseeds_13 : decode c_Mo_reseeds 13 = .ok (.if_icmp .ge 21, 3) := by decide +kernel
theorem d_Mo_reseeds_16 : decode c_Mo_reseeds 16 = .ok (.aload_n 0, 1) := by decide +kernel
theorem d_Mo_reseeds_17 : decode c_Mo_reseeds 17 = .ok (.getfield 33, 3) := by decide +kernel
theorem d_Mo_reseeds_20 : decode c_Mo_reseeds 20 = .ok (.iload_n 2, 1) := by decide +kernel
theorem d_Mo_reseeds_21 : decode c_Mo_reseeds 21 = .ok (.aload_n 0, 1) := by decide +kernel
theorem d_Mo_reseeds_22 : decode c_Mo_reseeds 22 = .ok (.getfield 7, 3) := by decide +kernel
theorem d_Mo_reseeds_25 : decode c_Mo_reseeds 25 = .ok (.iload_n 2, 1) := by decide +kernel
theorem d_Mo_reseeds_26 : decode c_Mo_reseeds 26 = .ok (.iaload, 1) := by decide +kernel
theorem d_Mo_reseeds_27 : decode c_Mo_reseeds 27 = .ok (.iastore, 1) := by decide +kernel
theorem d_Mo_reseeds_28 : decode c_Mo_reseeds 28 = .ok (.iinc 2 1, 3) := by decide +kernel
theorem d_Mo_reseeds_31 : decode c_Mo_reseeds 31 = .ok (.goto (-21), 3) := by decide +kernel
theorem d_Mo_reseeds_34 : decode c_Mo_reseeds 34 = .ok (.iconst 0, 1) := by decide +kernel
theorem d_Mo_reseeds_35 : decode c_Mo_reseeds 35 = .ok (.istore_n 2, 1) := by decide +kernel
theorem d_Mo_reseeds_36 : decode c_Mo_reseeds 36 = .ok (.iload_n 2, 1) := by decide +kernel
theorem d_Mo_reseeds_37 : decode c_Mo_reseeds 37 = .ok (.iload_n 1, 1) := by decide +kernel
theorem d_Mo_reseeds_38 : decode c_Mo_reseeds 38 = .ok (.if_icmp .ge 24, 3) := by decide +kernel
theorem d_Mo_reseeds_41 : decode c_Mo_reseeds 41 = .ok (.aload_n 0, 1) := by decide +kernel
theorem d_Mo_reseeds_42 : decode c_Mo_reseeds 42 = .ok (.getfield 33, 3) := by decide +kernel
theorem d_Mo_reseeds_45 : decode c_Mo_reseeds 45 = .ok (.bipush 16, 2) := by decide +kernel
theorem d_Mo_reseeds_47 : decode c_Mo_reseeds 47 = .ok (.iload_n 2, 1) := by decide +kernel
theorem d_Mo_reseeds_48 : decode c_Mo_reseeds 48 = .ok (.iadd, 1) := by decide +kernel
theorem d_Mo_reseeds_49 : decode c_Mo_reseeds 49 = .ok (.aload_n 0, 1) := by decide +kernel
theorem d_Mo_reseeds_50 : decode c_Mo_reseeds 50 = .ok (.getfield 45, 3) := by decide +kernel
theorem d_Mo_reseeds_53 : decode c_Mo_reseeds 53 = .ok (.iload_n 2, 1) := by decide +kernel
theorem d_Mo_reseeds_54 : decode c_Mo_reseeds 54 = .ok (.iaload, 1) := by decide +kernel
theorem d_Mo_reseeds_55 : decode c_Mo_reseeds 55 = .ok (.iastore, 1) := by decide +kernel
theorem d_Mo_reseeds_56 : decode c_Mo_reseeds 56 = .ok (.iinc 2 1, 3) := by decide +kernel
theorem d_Mo_reseeds_59 : decode c_Mo_reseeds 59 = .ok (.goto (-23), 3) := by decide +kernel
theorem d_Mo_reseeds_62 : decode c_Mo_reseeds 62 = .ok (.aload_n 0, 1) := by decide +kernel
theorem d_Mo_reseeds_63 : decode c_Mo_reseeds 63 = .ok (.invokevirtual 162, 3) := by decide +kernel
theorem d_Mo_reseeds_66 : decode c_Mo_reseeds 66 = .ok (.iconst 0, 1) := by decide +kernel
theorem d_Mo_reseeds_67 : decode c_Mo_reseeds 67 = .ok (.istore_n 2, 1) := by decide +kernel
theorem d_Mo_reseeds_68 : decode c_Mo_reseeds 68 = .ok (.iload_n 2, 1) := by decide +kernel
theorem d_Mo_reseeds_69 : decode c_Mo_reseeds 69 = .ok (.bipush 16, 2) := by decide +kernel
theorem d_Mo_reseeds_71 : decode c_Mo_reseeds 71 = .ok (.if_icmp .ge 21, 3) := by decide +kernel
theorem d_Mo_reseeds_74 : decode c_Mo_reseeds 74 = .ok (.aload_n 0, 1) := by decide +kernel
theorem d_Mo_reseeds_75 : decode c_Mo_reseeds 75 = .ok (.getfield 7, 3) := by decide +kernel
theorem d_Mo_reseeds_78 : decode c_Mo_reseeds 78 = .ok (.iload_n 2, 1) := by decide +kernel
theorem d_Mo_reseeds_79 : decode c_Mo_reseeds 79 = .ok (.aload_n 0, 1) := by decide +kernel
theorem d_Mo_reseeds_80 : decode c_Mo_reseeds 80 = .ok (.getfield 42, 3) := by decide +kernel
theorem d_Mo_reseeds_83 : decode c_Mo_reseeds 83 = .ok (.iload_n 2, 1) := by decide +kernel
theorem d_Mo_reseeds_84 : decode c_Mo_reseeds 84 = .ok (.iaload, 1) := by decide +kernel
theorem d_Mo_reseeds_85 : decode c_Mo_reseeds 85 = .ok (.iastore, 1) := by decide +kernel
theorem d_Mo_reseeds_86 : decode c_Mo_reseeds 86 = .ok (.iinc 2 1, 3) := by decide +kernel
theorem d_Mo_reseeds_89 : decode c_Mo_reseeds 89 = .ok (.goto (-21), 3) := by decide +kernel
theorem d_Mo_reseeds_92 : decode c_Mo_reseeds 92 = .ok (.aload_n 0, 1) := by decide +kernel
theorem d_Mo_reseeds_93 : decode c_Mo_reseeds 93 = .ok (.invokevirtual 181, 3) := by decide +kernel
theorem d_Mo_reseeds_96 : decode c_Mo_reseeds 96 = .ok (.return_, 1) := by decide +kernel
theorem d_Mo_first_0 : decode c_Mo_first 0 = .ok (.iconst 0, 1) := by decide +kernel
theorem d_Mo_first_1 : decode c_Mo_first 1 = .ok (.istore_n 1, 1) := by decide +kernel
theorem d_Mo_first_2 : decode c_Mo_first 2 = .ok (.iload_n 1, 1) := by decide +kernel
theorem d_Mo_first_3 : decode c_Mo_first 3 = .ok (.bipush 16, 2) := by decide +kernel
theorem d_Mo_first_5 : decode c_Mo_first 5 = .ok (.if_icmp .ge 23, 3) := by decide +kernel
theorem d_Mo_first_8 : decode c_Mo_first 8 = .ok (.aload_n 0, 1) := by decide +kernel
theorem d_Mo_first_9 : decode c_Mo_first 9 = .ok (.getfield 7, 3) := by decide +kernel
theorem d_Mo_first_12 : decode c_Mo_first 12 = .ok (.iload_n 1, 1) := by decide +kernel
theorem d_Mo_first_13 : decode c_Mo_first 13 = .ok (.iconst 0, 1) := by decide +kernel
theorem d_Mo_first_14 : decode c_Mo_first 14 = .ok (.iastore, 1) := by decide +kernel
theorem d_Mo_first_15 : decode c_Mo_first 15 = .ok (.aload_n 0, 1) := by decide +kernel
theorem d_Mo_first_16 : decode c_Mo_first 16 = .ok (.getfield 13, 3) := by decide +kernel
theorem d_Mo_first_19 : decode c_Mo_first 19 = .ok (.iload_n 1, 1) := by decide +kernel
theorem d_Mo_first_20 : decode c_Mo_first 20 = .ok (.iconst 0, 1) := by decide +kernel
theorem d_Mo_first_21 : decode c_Mo_first 21 = .ok (.iastore, 1) := by decide +kernel
theorem d_Mo_first_22 : decode c_Mo_first 22 = .ok (.iinc 1 1, 3) := by decide +kernel
theorem d_Mo_first_25 : decode c_Mo_first 25 = .ok (.goto (-23), 3) := by decide +kernel
theorem d_Mo_first_28 : decode c_Mo_first 28 = .ok (.iconst 0, 1) := by decide +kernel
theorem d_Mo_first_29 : decode c_Mo_first 29 = .ok (.istore_n 1, 1) := by decide +kernel
theorem d_Mo_first_30 : decode c_Mo_first 30 = .ok (.iload_n 1, 1) := by decide +kernel
theorem d_Mo_first_31 : decode c_Mo_first 31 = .ok (.bipush 32, 2) := by decide +kernel
theorem d_Mo_first_33 : decode c_Mo_first 33 = .ok (.if_icmp .ge 16, 3) := by decide +kernel
theorem d_Mo_first_36 : decode c_Mo_first 36 = .ok (.aload_n 0, 1) := by decide +kernel
theorem d_Mo_first_37 : decode c_Mo_first 37 = .ok (.getfield 20, 3) := by decide +kernel
theorem d_Mo_first_40 : decode c_Mo_first 40 = .ok (.iload_n 1, 1) := by decide +kernel
theorem d_Mo_first_41 : decode c_Mo_first 41 = .ok (.iconst 0, 1) := by decide +kernel
theorem d_Mo_first_42 : decode c_Mo_first 42 = .ok (.iastore, 1) := by decide +kernel
theorem d_Mo_first_43 : decode c_Mo_first 43 = .ok (.iinc 1 1, 3) := by decide +kernel
theorem d_Mo_first_46 : decode c_Mo_first 46 = .ok (.goto (-16), 3) := by decide +kernel
theorem d_Mo_first_49 : decode c_Mo_first 49 = .ok (.aload_n 0, 1) := by decide +kernel
theorem d_Mo_first_50 : decode c_Mo_first 50 = .ok (.iconst 0, 1) := by decide +kernel
theorem d_Mo_first_51 : decode c_Mo_first 51 = .ok (.putfield 188, 3) := by decide +kernel
theorem d_Mo_first_54 : decode c_Mo_first 54 = .ok (.aload_n 0, 1) := by decide +kernel
theorem d_Mo_first_55 : decode c_Mo_first 55 = .ok (.iconst 0, 1) := by decide +kernel
theorem d_Mo_first_56 : decode c_Mo_first 56 = .ok (.putfield 191, 3) := by decide +kernel
theorem d_Mo_first_59 : decode c_Mo_first 59 = .ok (.aload_n 0, 1) := by decide +kernel
theorem d_Mo_first_60 : decode c_Mo_first 60 = .ok (.iconst (-1), 1) := by decide +kernel
theorem d_Mo_first_61 : decode c_Mo_first 61 = .ok (.putfield 16, 3) := by decide +kernel
theorem d_Mo_first_64 : decode c_Mo_first 64 = .ok (.aload_n 0, 1) := by decide +kernel
theorem d_Mo_first_65 : decode c_Mo_first 65 = .ok (.iconst 0, 1) := by decide +kernel
theorem d_Mo_first_66 : decode c_Mo_first 66 = .ok (.putfield 194, 3) := by decide +kernel
theorem d_Mo_first_69 : decode c_Mo_first 69 = .ok (.aload_n 0, 1) := by decide +kernel
theorem d_Mo_first_70 : decode c_Mo_first 70 = .ok (.iconst 0, 1) := by decide +kernel
theorem d_Mo_first_71 : decode c_Mo_first 71 = .ok (.putfield 197, 3) := by decide +kernel
theorem d_Mo_first_74 : decode c_Mo_first 74 = .ok (.return_, 1) := by decide +kernel
theorem d_Mo_init_0 : decode c_Mo_init 0 = .ok (.aload_n 0, 1) := by decide +kernel
theorem d_Mo_init_1 : decode c_Mo_init 1 = .ok (.iconst 0, 1) := by decide +kernel
theorem d_Mo_init_2 : decode c_Mo_init 2 = .ok (.putfield 63, 3) := by decide +kernel
theorem d_Mo_init_5 : decode c_Mo_init 5 = .ok (.aload_n 0, 1) := by decide +kernel
theorem d_Mo_init_6 : decode c_Mo_init 6 = .ok (.invokevirtual 200, 3) := by decide +kernel
theorem d_Mo_init_9 : decode c_Mo_init 9 = .ok (.return_, 1) := by decide +kernel
theorem d_Mo_event_0 : decode c_Mo_event 0 = .ok (.aload_n 0, 1) := by decide +kernel
theorem d_Mo_event_1 : decode c_Mo_event 1 = .ok (.iconst 0, 1) := by decide +kernel
theorem d_Mo_event_2 : decode c_Mo_event 2 = .ok (.putfield 63, 3) := by decide +kernel
theorem d_Mo_event_5 : decode c_Mo_event 5 = .ok (.iload_n 1, 1) := by decide +kernel
theorem d_Mo_event_6 : decode c_Mo_event 6 = .ok (.sipush 256, 3) := by decide +kernel
theorem d_Mo_event_9 : decode c_Mo_event 9 = .ok (.invokestatic 203, 3) := by decide +kernel
theorem d_Mo_event_12 : decode c_Mo_event 12 = .ok (.ifCond .eq 22, 3) := by decide +kernel
theorem d_Mo_event_15 : decode c_Mo_event 15 = .ok (.iload_n 2, 1) := by decide +kernel
theorem d_Mo_event_16 : decode c_Mo_event 16 = .ok (.bipush 32, 2) := by decide +kernel
theorem d_Mo_event_18 : decode c_Mo_event 18 = .ok (.invokestatic 203, 3) := by decide +kernel
theorem d_Mo_event_21 : decode c_Mo_event 21 = .ok (.ifCond .eq 13, 3) := by decide +kernel
theorem d_Mo_event_24 : decode c_Mo_event 24 = .ok (.iload_n 3, 1) := by decide +kernel
theorem d_Mo_event_25 : decode c_Mo_event 25 = .ok (.sipush 256, 3) := by decide +kernel
theorem d_Mo_event_28 : decode c_Mo_event 28 = .ok (.invokestatic 203, 3) := by decide +kernel
theorem d_Mo_event_31 : decode c_Mo_event 31 = .ok (.ifCond .ne 5, 3) := by decide +kernel
theorem d_Mo_event_34 : decode c_Mo_event 34 = .ok (.iconst 0, 1) := by decide +kernel
theorem d_Mo_event_35 : decode c_Mo_event 35 = .ok (.ireturn, 1) := by decide +kernel
theorem d_Mo_event_36 : decode c_Mo_event 36 = .ok (.sipush 1600, 3) := by decide +kernel
theorem d_Mo_event_39 : decode c_Mo_event 39 = .ok (.iload_n 2, 1) := by decide +kernel
theorem d_Mo_event_40 : decode c_Mo_event 40 = .ok (.imul, 1) := by decide +kernel
theorem d_Mo_event_41 : decode c_Mo_event 41 = .ok (.aload_n 0, 1) := by decide +kernel
theorem d_Mo_event_42 : decode c_Mo_event 42 = .ok (.getfield 20, 3) := by decide +kernel
theorem d_Mo_event_45 : decode c_Mo_event 45 = .ok (.iload_n 2, 1) := by decide +kernel
theorem d_Mo_event_46 : decode c_Mo_event 46 = .ok (.iaload, 1) := by decide +kernel
theorem d_Mo_event_47 : decode c_Mo_event 47 = .ok (.iadd, 1) := by decide +kernel
theorem d_Mo_event_48 : decode c_Mo_event 48 = .ok (.istore 4, 2) := by decide +kernel
theorem d_Mo_event_50 : decode c_Mo_event 50 = .ok (.aload_n 0, 1) := by decide +kernel
theorem d_Mo_event_51 : decode c_Mo_event 51 = .ok (.getfield 24, 3) := by decide +kernel
theorem d_Mo_event_54 : decode c_Mo_event 54 = .ok (.iload 4, 2) := by decide +kernel
theorem d_Mo_event_56 : decode c_Mo_event 56 = .ok (.iload_n 1, 1) := by decide +kernel
theorem d_Mo_event_57 : decode c_Mo_event 57 = .ok (.iastore, 1) := by decide +kernel
theorem d_Mo_event_58 : decode c_Mo_event 58 = .ok (.aload_n 0, 1) := by decide +kernel
theorem d_Mo_event_59 : decode c_Mo_event 59 = .ok (.getfield 24, 3) := by decide +kernel
theorem d_Mo_event_62 : decode c_Mo_event 62 = .ok (.iload 4, 2) := by decide +kernel
theorem d_Mo_event_64 : decode c_Mo_event 64 = .ok (.iconst 1, 1) := by decide +kernel
theorem d_Mo_event_65 : decode c_Mo_event 65 = .ok (.iadd, 1) := by decide +kernel
theorem d_Mo_event_66 : decode c_Mo_event 66 = .ok (.iconst 1, 1) := by decide +kernel
theorem d_Mo_event_67 : decode c_Mo_event 67 = .ok (.iastore, 1) := by decide +kernel
theorem d_Mo_event_68 : decode c_Mo_event 68 = .ok (.aload_n 0, 1) := by decide +kernel
theorem d_Mo_event_69 : decode c_Mo_event 69 = .ok (.getfield 24, 3) := by decide +kernel
theorem d_Mo_event_72 : decode c_Mo_event 72 = .ok (.iload 4, 2) := by decide +kernel
theorem d_Mo_event_74 : decode c_Mo_event 74 = .ok (.iconst 2, 1) := by decide +kernel
theorem d_Mo_event_75 : decode c_Mo_event 75 = .ok (.iadd, 1) := by decide +kernel
theorem d_Mo_event_76 : decode c_Mo_event 76 = .ok (.iload_n 3, 1) := by decide +kernel
theorem d_Mo_event_77 : decode c_Mo_event 77 = .ok (.iastore, 1) := by decide +kernel
theorem d_Mo_event_78 : decode c_Mo_event 78 = .ok (.aload_n 0, 1) := by decide +kernel
theorem d_Mo_event_79 : decode c_Mo_event 79 = .ok (.getfield 20, 3) := by decide +kernel
theorem d_Mo_event_82 : decode c_Mo_event 82 = .ok (.iload_n 2, 1) := by decide +kernel
theorem d_Mo_event_83 : decode c_Mo_event 83 = .ok (.dup2, 1) := by decide +kernel
theorem d_Mo_event_84 : decode c_Mo_event 84 = .ok (.iaload, 1) := by decide +kernel
theorem d_Mo_event_85 : decode c_Mo_event 85 = .ok (.iconst 3, 1) := by decide +kernel
theorem d_Mo_event_86 : decode c_Mo_event 86 = .ok (.iadd, 1) := by decide +kernel
theorem d_Mo_event_87 : decode c_Mo_event 87 = .ok (.iastore, 1) := by decide +kernel
theorem d_Mo_event_88 : decode c_Mo_event 88 = .ok (.iconst 1, 1) := by decide +kernel
theorem d_Mo_event_89 : decode c_Mo_event 89 = .ok (.ireturn, 1) := by decide +kernel
theorem d_Mo_tick_0 : decode c_Mo_tick 0 = .ok (.aload_n 0, 1) := by decide +kernel
theorem d_Mo_tick_1 : decode c_Mo_tick 1 = .ok (.iconst 0, 1) := by decide +kernel
theorem d_Mo_tick_2 : decode c_Mo_tick 2 = .ok (.putfield 63, 3) := by decide +kernel
theorem d_Mo_tick_5 : decode c_Mo_tick 5 = .ok (.aload_n 0, 1) := by decide +kernel
theorem d_Mo_tick_6 : decode c_Mo_tick 6 = .ok (.dup, 1) := by decide +kernel
theorem d_Mo_tick_7 : decode c_Mo_tick 7 = .ok (.getfield 191, 3) := by decide +kernel
theorem d_Mo_tick_10 : decode c_Mo_tick 10 = .ok (.iload_n 1, 1) := by decide +kernel
theorem d_Mo_tick_11 : decode c_Mo_tick 11 = .ok (.ifCond .le 18, 3) := by decide +kernel
theorem d_Mo_tick_14 : decode c_Mo_tick 14 = .ok (.iload_n 1, 1) := by decide +kernel
theorem d_Mo_tick_15 : decode c_Mo_tick 15 = .ok (.ldc 207, 2) := by decide +kernel
theorem d_Mo_tick_17 : decode c_Mo_tick 17 = .ok (.aload_n 0, 1) := by decide +kernel
theorem d_Mo_tick_18 : decode c_Mo_tick 18 = .ok (.getfield 191, 3) := by decide +kernel
theorem d_Mo_tick_21 : decode c_Mo_tick 21 = .ok (.isub, 1) := by decide +kernel
theorem d_Mo_tick_22 : decode c_Mo_tick 22 = .ok (.if_icmp .gt 7, 3) := by decide +kernel
theorem d_Mo_tick_25 : decode c_Mo_tick 25 = .ok (.iload_n 1, 1) := by decide +kernel
theorem d_Mo_tick_26 : decode c_Mo_tick 26 = .ok (.goto 4, 3) := by decide +kernel
theorem d_Mo_tick_29 : decode c_Mo_tick 29 = .ok (.iconst 0, 1) := by decide +kernel
theorem d_Mo_tick_30 : decode c_Mo_tick 30 = .ok (.iadd, 1) := by decide +kernel
theorem d_Mo_tick_31 : decode c_Mo_tick 31 = .ok (.putfield 191, 3) := by decide +kernel
theorem d_Mo_tick_34 : decode c_Mo_tick 34 = .ok (.aload_n 0, 1) := by decide +kernel
theorem d_Mo_tick_35 : decode c_Mo_tick 35 = .ok (.getfield 191, 3) := by decide +kernel
theorem d_Mo_tick_38 : decode c_Mo_tick 38 = .ok (.ireturn, 1) := by decide +kernel
theorem d_Mo_draws_0 : decode c_Mo_draws 0 = .ok (.aload_n 0, 1) := by decide +kernel
theorem d_Mo_draws_1 : decode c_Mo_draws 1 = .ok (.dup, 1) := by decide +kernel
theorem d_Mo_draws_2 : decode c_Mo_draws 2 = .ok (.getfield 188, 3) := by decide +kernel
theorem d_Mo_draws_5 : decode c_Mo_draws 5 = .ok (.iconst 1, 1) := by decide +kernel
theorem d_Mo_draws_6 : decode c_Mo_draws 6 = .ok (.iadd, 1) := by decide +kernel
theorem d_Mo_draws_7 : decode c_Mo_draws 7 = .ok (.putfield 188, 3) := by decide +kernel
theorem d_Mo_draws_10 : decode c_Mo_draws 10 = .ok (.iconst 0, 1) := by decide +kernel
theorem d_Mo_draws_11 : decode c_Mo_draws 11 = .ok (.istore_n 1, 1) := by decide +kernel
theorem d_Mo_draws_12 : decode c_Mo_draws 12 = .ok (.iconst 1, 1) := by decide +kernel
theorem d_Mo_draws_13 : decode c_Mo_draws 13 = .ok (.istore_n 2, 1) := by decide +kernel
theorem d_Mo_draws_14 : decode c_Mo_draws 14 = .ok (.iconst 0, 1) := by decide +kernel
theorem d_Mo_draws_15 : decode c_Mo_draws 15 = .ok (.istore_n 3, 1) := by decide +kernel
theorem d_Mo_draws_16 : decode c_Mo_draws 16 = .ok (.iload_n 3, 1) := by decide +kernel
theorem d_Mo_draws_17 : decode c_Mo_draws 17 = .ok (.bipush 32, 2) := by decide +kernel
theorem d_Mo_draws_19 : decode c_Mo_draws 19 = .ok (.if_icmp .ge 79, 3) := by decide +kernel
theorem d_Mo_draws_22 : decode c_Mo_draws 22 = .ok (.aload_n 0, 1) := by decide +kernel
theorem d_Mo_draws_23 : decode c_Mo_draws 23 = .ok (.getfield 188, 3) := by decide +kernel
theorem d_Mo_draws_26 : decode c_Mo_draws 26 = .ok (.iload_n 2, 1) := by decide +kernel
theorem d_Mo_draws_27 : decode c_Mo_draws 27 = .ok (.irem, 1) := by decide +kernel
theorem d_Mo_draws_28 : decode c_Mo_draws 28 = .ok (.ifCond .ne 70, 3) := by decide +kernel
theorem d_Mo_draws_31 : decode c_Mo_draws 31 = .ok (.aload_n 0, 1) := by decide +kernel
theorem d_Mo_draws_32 : decode c_Mo_draws 32 = .ok (.iload_n 3, 1) := by decide +kernel
theorem d_Mo_draws_33 : decode c_Mo_draws 33 = .ok (.invokevirtual 208, 3) := by decide +kernel
theorem d_Mo_draws_36 : decode c_Mo_draws 36 = .ok (.iconst 0, 1) := by decide +kernel
theorem d_Mo_draws_37 : decode c_Mo_draws 37 = .ok (.istore 4, 2) := by decide +kernel
theorem d_Mo_draws_39 : decode c_Mo_draws 39 = .ok (.iload 4, 2) := by decide +kernel
theorem d_Mo_draws_41 : decode c_Mo_draws 41 = .ok (.bipush 32, 2) := by decide +kernel
theorem d_Mo_draws_43 : decode c_Mo_draws 43 = .ok (.if_icmp .ge 25, 3) := by decide +kernel
theorem d_Mo_draws_46 : decode c_Mo_draws 46 = .ok (.aload_n 0, 1) := by decide +kernel
theorem d_Mo_draws_47 : decode c_Mo_draws 47 = .ok (.getfield 45, 3) := by decide +kernel
theorem d_Mo_draws_50 : decode c_Mo_draws 50 = .ok (.iload_n 1, 1) := by decide +kernel
theorem d_Mo_draws_51 : decode c_Mo_draws 51 = .ok (.iload 4, 2) := by decide +kernel
theorem d_Mo_draws_53 : decode c_Mo_draws 53 = .ok (.iadd, 1) := by decide +kernel
theorem d_Mo_draws_54 : decode c_Mo_draws 54 = .ok (.aload_n 0, 1) := by decide +kernel
theorem d_Mo_draws_55 : decode c_Mo_draws 55 = .ok (.getfield 42, 3) := by decide +kernel
theorem d_Mo_draws_58 : decode c_Mo_draws 58 = .ok (.iload 4, 2) := by decide +kernel
theorem d_Mo_draws_60 : decode c_Mo_draws 60 = .ok (.iaload, 1) := by decide +kernel
theorem d_Mo_draws_61 : decode c_Mo_draws 61 = .ok (.iastore, 1) := by decide +kernel
theorem d_Mo_draws_62 : decode c_Mo_draws 62 = .ok (.iinc 4 1, 3) := by decide +kernel
theorem d_Mo_draws_65 : decode c_Mo_draws 65 = .ok (.goto (-26), 3) := by decide +kernel
theorem d_Mo_draws_68 : decode c_Mo_draws 68 = .ok (.iinc 1 32, 3) := by decide +kernel
theorem d_Mo_draws_71 : decode c_Mo_draws 71 = .ok (.aload_n 0, 1) := by decide +kernel
theorem d_Mo_draws_72 : decode c_Mo_draws 72 = .ok (.getfield 20, 3) := by decide +kernel
theorem d_Mo_draws_75 : decode c_Mo_draws 75 = .ok (.iload_n 3, 1) := by decide +kernel
theorem d_Mo_draws_76 : decode c_Mo_draws 76 = .ok (.iconst 0, 1) := by decide +kernel
theorem d_Mo_draws_77 : decode c_Mo_draws 77 = .ok (.iastore, 1) := by decide +kernel
theorem d_Mo_draws_78 : decode c_Mo_draws 78 = .ok (.iload_n 3, 1) := by decide +kernel
theorem d_Mo_draws_79 : decode c_Mo_draws 79 = .ok (.bipush 30, 2) := by decide +kernel
theorem d_Mo_draws_81 : decode c_Mo_draws 81 = .ok (.if_icmp .ge 9, 3) := by decide +kernel
theorem d_Mo_draws_84 : decode c_Mo_draws 84 = .ok (.iconst 2, 1) := by decide +kernel
theorem d_Mo_draws_85 : decode c_Mo_draws 85 = .ok (.iload_n 2, 1) := by decide +kernel
theorem d_Mo_draws_86 : decode c_Mo_draws 86 = .ok (.imul, 1) := by decide +kernel
theorem d_Mo_draws_87 : decode c_Mo_draws 87 = .ok (.goto 4, 3) := by decide +kernel
theorem d_Mo_draws_90 : decode c_Mo_draws 90 = .ok (.iload_n 2, 1) := by decide +kernel
theorem d_Mo_draws_91 : decode c_Mo_draws 91 = .ok (.istore_n 2, 1) := by decide +kernel
theorem d_Mo_draws_92 : decode c_Mo_draws 92 = .ok (.iinc 3 1, 3) := by decide +kernel
theorem d_Mo_draws_95 : decode c_Mo_draws 95 = .ok (.goto (-79), 3) := by decide +kernel
theorem d_Mo_draws_98 : decode c_Mo_draws 98 = .ok (.aload_n 0, 1) := by decide +kernel
theorem d_Mo_draws_99 : decode c_Mo_draws 99 = .ok (.iload_n 1, 1) := by decide +kernel
theorem d_Mo_draws_100 : decode c_Mo_draws 100 = .ok (.invokevirtual 211, 3) := by decide +kernel
theorem d_Mo_draws_103 : decode c_Mo_draws 103 = .ok (.aload_n 0, 1) := by decide +kernel
theorem d_Mo_draws_104 : decode c_Mo_draws 104 = .ok (.aload_n 0, 1) := by decide +kernel
theorem d_Mo_draws_105 : decode c_Mo_draws 105 = .ok (.getfield 191, 3) := by decide +kernel
theorem d_Mo_draws_108 : decode c_Mo_draws 108 = .ok (.putfield 16, 3) := by decide +kernel
theorem d_Mo_draws_111 : decode c_Mo_draws 111 = .ok (.return_, 1) := by decide +kernel
theorem d_Mo_request_0 : decode c_Mo_request 0 = .ok (.aload_n 0, 1) := by decide +kernel
theorem d_Mo_request_1 : decode c_Mo_request 1 = .ok (.iconst 0, 1) := by decide +kernel
theorem d_Mo_request_2 : decode c_Mo_request 2 = .ok (.putfield 63, 3) := by decide +kernel
theorem d_Mo_request_5 : decode c_Mo_request 5 = .ok (.iload_n 1, 1) := by decide +kernel
theorem d_Mo_request_6 : decode c_Mo_request 6 = .ok (.iconst 1, 1) := by decide +kernel
theorem d_Mo_request_7 : decode c_Mo_request 7 = .ok (.if_icmp .lt 10, 3) := by decide +kernel
theorem d_Mo_request_10 : decode c_Mo_request 10 = .ok (.iload_n 1, 1) := by decide +kernel
theorem d_Mo_request_11 : decode c_Mo_request 11 = .ok (.sipush 256, 3) := by decide +kernel
theorem d_Mo_request_14 : decode c_Mo_request 14 = .ok (.if_icmp .le 5, 3) := by decide +kernel
theorem d_Mo_request_17 : decode c_Mo_request 17 = .ok (.iconst (-1), 1) := by decide +kernel
theorem d_Mo_request_18 : decode c_Mo_request 18 = .ok (.ireturn, 1) := by decide +kernel
theorem d_Mo_request_19 : decode c_Mo_request 19 = .ok (.aload_n 0, 1) := by decide +kernel
theorem d_Mo_request_20 : decode c_Mo_request 20 = .ok (.getfield 20, 3) := by decide +kernel
theorem d_Mo_request_23 : decode c_Mo_request 23 = .ok (.iconst 0, 1) := by decide +kernel
theorem d_Mo_request_24 : decode c_Mo_request 24 = .ok (.iaload, 1) := by decide +kernel
theorem d_Mo_request_25 : decode c_Mo_request 25 = .ok (.bipush 32, 2) := by decide +kernel
theorem d_Mo_request_27 : decode c_Mo_request 27 = .ok (.if_icmp .lt 29, 3) := by decide +kernel
theorem d_Mo_request_30 : decode c_Mo_request 30 = .ok (.aload_n 0, 1) := by decide +kernel
theorem d_Mo_request_31 : decode c_Mo_request 31 = .ok (.getfield 16, 3) := by decide +kernel
theorem d_Mo_request_34 : decode c_Mo_request 34 = .ok (.iconst (-1), 1) := by decide +kernel
theorem d_Mo_request_35 : decode c_Mo_request 35 = .ok (.if_icmp .eq 17, 3) := by decide +kernel
theorem d_Mo_request_38 : decode c_Mo_request 38 = .ok (.aload_n 0, 1) := by decide +kernel
theorem d_Mo_request_39 : decode c_Mo_request 39 = .ok (.getfield 191, 3) := by decide +kernel
theorem d_Mo_request_42 : decode c_Mo_request 42 = .ok (.aload_n 0, 1) := by decide +kernel
theorem d_Mo_request_43 : decode c_Mo_request 43 = .ok (.getfield 16, 3) := by decide +kernel
theorem d_Mo_request_46 : decode c_Mo_request 46 = .ok (.isub, 1) := by decide +kernel
theorem d_Mo_request_47 : decode c_Mo_request 47 = .ok (.bipush 100, 2) := by decide +kernel
theorem d_Mo_request_49 : decode c_Mo_request 49 = .ok (.if_icmp .lt 7, 3) := by decide +kernel
theorem d_Mo_request_52 : decode c_Mo_request 52 = .ok (.aload_n 0, 1) := by decide +kernel
theorem d_Mo_request_53 : decode c_Mo_request 53 = .ok (.invokevirtual 213, 3) := by decide +kernel
theorem d_Mo_request_56 : decode c_Mo_request 56 = .ok (.aload_n 0, 1) := by decide +kernel
theorem d_Mo_request_57 : decode c_Mo_request 57 = .ok (.invokevirtual 216, 3) := by decide +kernel
theorem d_Mo_request_60 : decode c_Mo_request 60 = .ok (.ifCond .ne 6, 3) := by decide +kernel
theorem d_Mo_request_63 : decode c_Mo_request 63 = .ok (.bipush (-2), 2) := by decide +kernel
theorem d_Mo_request_65 : decode c_Mo_request 65 = .ok (.ireturn, 1) := by decide +kernel
theorem d_Mo_request_66 : decode c_Mo_request 66 = .ok (.aload_n 0, 1) := by decide +kernel
theorem d_Mo_request_67 : decode c_Mo_request 67 = .ok (.iload_n 1, 1) := by decide +kernel
theorem d_Mo_request_68 : decode c_Mo_request 68 = .ok (.invokevirtual 220, 3) := by decide +kernel
theorem d_Mo_request_71 : decode c_Mo_request 71 = .ok (.aload_n 0, 1) := by decide +kernel
theorem d_Mo_request_72 : decode c_Mo_request 72 = .ok (.iload_n 1, 1) := by decide +kernel
theorem d_Mo_request_73 : decode c_Mo_request 73 = .ok (.putfield 194, 3) := by decide +kernel
theorem d_Mo_request_76 : decode c_Mo_request 76 = .ok (.iconst 0, 1) := by decide +kernel
theorem d_Mo_request_77 : decode c_Mo_request 77 = .ok (.istore_n 2, 1) := by decide +kernel
theorem d_Mo_request_78 : decode c_Mo_request 78 = .ok (.iload_n 2, 1) := by decide +kernel
theorem d_Mo_request_79 : decode c_Mo_request 79 = .ok (.iload_n 1, 1) := by decide +kernel
theorem d_Mo_request_80 : decode c_Mo_request 80 = .ok (.if_icmp .ge 21, 3) := by decide +kernel
theorem d_Mo_request_83 : decode c_Mo_request 83 = .ok (.aload_n 0, 1) := by decide +kernel
theorem d_Mo_request_84 : decode c_Mo_request 84 = .ok (.getfield 27, 3) := by decide +kernel
theorem d_Mo_request_87 : decode c_Mo_request 87 = .ok (.iload_n 2, 1) := by decide +kernel
theorem d_Mo_request_88 : decode c_Mo_request 88 = .ok (.aload_n 0, 1) := by decide +kernel
theorem d_Mo_request_89 : decode c_Mo_request 89 = .ok (.getfield 48, 3) := by decide +kernel
theorem d_Mo_request_92 : decode c_Mo_request 92 = .ok (.iload_n 2, 1) := by decide +kernel
theorem d_Mo_request_93 : decode c_Mo_request 93 = .ok (.iaload, 1) := by decide +kernel
theorem d_Mo_request_94 : decode c_Mo_request 94 = .ok (.iastore, 1) := by decide +kernel
theorem d_Mo_request_95 : decode c_Mo_request 95 = .ok (.iinc 2 1, 3) := by decide +kernel
theorem d_Mo_request_98 : decode c_Mo_request 98 = .ok (.goto (-20), 3) := by decide +kernel
theorem d_Mo_request_101 : decode c_Mo_request 101 = .ok (.iload_n 1, 1) := by decide +kernel
theorem d_Mo_request_102 : decode c_Mo_request 102 = .ok (.ireturn, 1) := by decide +kernel
theorem d_Mo_out_0 : decode c_Mo_out 0 = .ok (.aload_n 0, 1) := by decide +kernel
theorem d_Mo_out_1 : decode c_Mo_out 1 = .ok (.iconst 0, 1) := by decide +kernel
theorem d_Mo_out_2 : decode c_Mo_out 2 = .ok (.putfield 63, 3) := by decide +kernel
theorem d_Mo_out_5 : decode c_Mo_out 5 = .ok (.iload_n 1, 1) := by decide +kernel
theorem d_Mo_out_6 : decode c_Mo_out 6 = .ok (.aload_n 0, 1) := by decide +kernel
theorem d_Mo_out_7 : decode c_Mo_out 7 = .ok (.getfield 194, 3) := by decide +kernel
theorem d_Mo_out_10 : decode c_Mo_out 10 = .ok (.invokestatic 203, 3) := by decide +kernel
theorem d_Mo_out_13 : decode c_Mo_out 13 = .ok (.ifCond .eq 12, 3) := by decide +kernel
theorem d_Mo_out_16 : decode c_Mo_out 16 = .ok (.aload_n 0, 1) := by decide +kernel
theorem d_Mo_out_17 : decode c_Mo_out 17 = .ok (.getfield 27, 3) := by decide +kernel
theorem d_Mo_out_20 : decode c_Mo_out 20 = .ok (.iload_n 1, 1) := by decide +kernel
theorem d_Mo_out_21 : decode c_Mo_out 21 = .ok (.iaload, 1) := by decide +kernel
theorem d_Mo_out_22 : decode c_Mo_out 22 = .ok (.goto 4, 3) := by decide +kernel
theorem d_Mo_out_25 : decode c_Mo_out 25 = .ok (.iconst (-1), 1) := by decide +kernel
theorem d_Mo_out_26 : decode c_Mo_out 26 = .ok (.ireturn, 1) := by decide +kernel
theorem d_Mo_writes_0 : decode c_Mo_writes 0 = .ok (.aload_n 0, 1) := by decide +kernel
theorem d_Mo_writes_1 : decode c_Mo_writes 1 = .ok (.getfield 197, 3) := by decide +kernel
theorem d_Mo_writes_4 : decode c_Mo_writes 4 = .ok (.iconst 1, 1) := by decide +kernel
theorem d_Mo_writes_5 : decode c_Mo_writes 5 = .ok (.if_icmp .ne 9, 3) := by decide +kernel
theorem d_Mo_writes_8 : decode c_Mo_writes 8 = .ok (.aload_n 0, 1) := by decide +kernel
theorem d_Mo_writes_9 : decode c_Mo_writes 9 = .ok (.invokevirtual 200, 3) := by decide +kernel
theorem d_Mo_writes_12 : decode c_Mo_writes 12 = .ok (.iconst 0, 1) := by decide +kernel
theorem d_Mo_writes_13 : decode c_Mo_writes 13 = .ok (.ireturn, 1) := by decide +kernel
theorem d_Mo_writes_14 : decode c_Mo_writes 14 = .ok (.aload_n 0, 1) := by decide +kernel
theorem d_Mo_writes_15 : decode c_Mo_writes 15 = .ok (.dup, 1) := by decide +kernel
theorem d_Mo_writes_16 : decode c_Mo_writes 16 = .ok (.getfield 197, 3) := by decide +kernel
theorem d_Mo_writes_19 : decode c_Mo_writes 19 = .ok (.aload_n 0, 1) := by decide +kernel
theorem d_Mo_writes_20 : decode c_Mo_writes 20 = .ok (.getfield 197, 3) := by decide +kernel
theorem d_Mo_writes_23 : decode c_Mo_writes 23 = .ok (.ifCond .le 7, 3) := by decide +kernel
theorem d_Mo_writes_26 : decode c_Mo_writes 26 = .ok (.iconst 1, 1) := by decide +kernel
theorem d_Mo_writes_27 : decode c_Mo_writes 27 = .ok (.goto 4, 3) := by decide +kernel
theorem d_Mo_writes_30 : decode c_Mo_writes 30 = .ok (.iconst 0, 1) := by decide +kernel
theorem d_Mo_writes_31 : decode c_Mo_writes 31 = .ok (.isub, 1) := by decide +kernel
theorem d_Mo_writes_32 : decode c_Mo_writes 32 = .ok (.putfield 197, 3) := by decide +kernel
theorem d_Mo_writes_35 : decode c_Mo_writes 35 = .ok (.aload_n 0, 1) := by decide +kernel
theorem d_Mo_writes_36 : decode c_Mo_writes 36 = .ok (.getfield 30, 3) := by decide +kernel
theorem d_Mo_writes_39 : decode c_Mo_writes 39 = .ok (.iload_n 1, 1) := by decide +kernel
theorem d_Mo_writes_40 : decode c_Mo_writes 40 = .ok (.iload_n 2, 1) := by decide +kernel
theorem d_Mo_writes_41 : decode c_Mo_writes 41 = .ok (.iastore, 1) := by decide +kernel
theorem d_Mo_writes_42 : decode c_Mo_writes 42 = .ok (.aload_n 0, 1) := by decide +kernel
theorem d_Mo_writes_43 : decode c_Mo_writes 43 = .ok (.dup, 1) := by decide +kernel
theorem d_Mo_writes_44 : decode c_Mo_writes 44 = .ok (.getfield 223, 3) := by decide +kernel
theorem d_Mo_writes_47 : decode c_Mo_writes 47 = .ok (.iconst 1, 1) := by decide +kernel
theorem d_Mo_writes_48 : decode c_Mo_writes 48 = .ok (.iadd, 1) := by decide +kernel
theorem d_Mo_writes_49 : decode c_Mo_writes 49 = .ok (.putfield 223, 3) := by decide +kernel
theorem d_Mo_writes_52 : decode c_Mo_writes 52 = .ok (.iconst 1, 1) := by decide +kernel
theorem d_Mo_writes_53 : decode c_Mo_writes 53 = .ok (.ireturn, 1) := by decide +kernel
theorem d_Mo_saves_0 : decode c_Mo_saves 0 = .ok (.aload_n 0, 1) := by decide +kernel
theorem d_Mo_saves_1 : decode c_Mo_saves 1 = .ok (.bipush 64, 2) := by decide +kernel
theorem d_Mo_saves_3 : decode c_Mo_saves 3 = .ok (.invokevirtual 220, 3) := by decide +kernel
theorem d_Mo_saves_6 : decode c_Mo_saves 6 = .ok (.aload_n 0, 1) := by decide +kernel
theorem d_Mo_saves_7 : decode c_Mo_saves 7 = .ok (.getfield 30, 3) := by decide +kernel
theorem d_Mo_saves_10 : decode c_Mo_saves 10 = .ok (.iconst 0, 1) := by decide +kernel
theorem d_Mo_saves_11 : decode c_Mo_saves 11 = .ok (.iaload, 1) := by decide +kernel
theorem d_Mo_saves_12 : decode c_Mo_saves 12 = .ok (.iconst 1, 1) := by decide +kernel
theorem d_Mo_saves_13 : decode c_Mo_saves 13 = .ok (.if_icmp .ne 8, 3) := by decide +kernel
theorem d_Mo_saves_16 : decode c_Mo_saves 16 = .ok (.bipush 65, 2) := by decide +kernel
theorem d_Mo_saves_18 : decode c_Mo_saves 18 = .ok (.goto 4, 3) := by decide +kernel
theorem d_Mo_saves_21 : decode c_Mo_saves 21 = .ok (.iconst 1, 1) := by decide +kernel
theorem d_Mo_saves_22 : decode c_Mo_saves 22 = .ok (.istore_n 1, 1) := by decide +kernel
theorem d_Mo_saves_23 : decode c_Mo_saves 23 = .ok (.iconst 0, 1) := by decide +kernel
theorem d_Mo_saves_24 : decode c_Mo_saves 24 = .ok (.istore_n 2, 1) := by decide +kernel
theorem d_Mo_saves_25 : decode c_Mo_saves 25 = .ok (.iload_n 2, 1) := by decide +kernel
theorem d_Mo_saves_26 : decode c_Mo_saves 26 = .ok (.bipush 64, 2) := by decide +kernel
theorem d_Mo_saves_28 : decode c_Mo_saves 28 = .ok (.if_icmp .ge 27, 3) := by decide +kernel
theorem d_Mo_saves_31 : decode c_Mo_saves 31 = .ok (.aload_n 0, 1) := by decide +kernel
theorem d_Mo_saves_32 : decode c_Mo_saves 32 = .ok (.iload_n 1, 1) := by decide +kernel
theorem d_Mo_saves_33 : decode c_Mo_saves 33 = .ok (.iload_n 2, 1) := by decide +kernel
theorem d_Mo_saves_34 : decode c_Mo_saves 34 = .ok (.iadd, 1) := by decide +kernel
theorem d_Mo_saves_35 : decode c_Mo_saves 35 = .ok (.aload_n 0, 1) := by decide +kernel
theorem d_Mo_saves_36 : decode c_Mo_saves 36 = .ok (.getfield 48, 3) := by decide +kernel
theorem d_Mo_saves_39 : decode c_Mo_saves 39 = .ok (.iload_n 2, 1) := by decide +kernel
theorem d_Mo_saves_40 : decode c_Mo_saves 40 = .ok (.iaload, 1) := by decide +kernel
theorem d_Mo_saves_41 : decode c_Mo_saves 41 = .ok (.invokevirtual 226, 3) := by decide +kernel
theorem d_Mo_saves_44 : decode c_Mo_saves 44 = .ok (.ifCond .ne 5, 3) := by decide +kernel
theorem d_Mo_saves_47 : decode c_Mo_saves 47 = .ok (.iconst 5, 1) := by decide +kernel
theorem d_Mo_saves_48 : decode c_Mo_saves 48 = .ok (.ireturn, 1) := by decide +kernel
theorem d_Mo_saves_49 : decode c_Mo_saves 49 = .ok (.iinc 2 1, 3) := by decide +kernel
theorem d_Mo_saves_52 : decode c_Mo_saves 52 = .ok (.goto (-27), 3) := by decide +kernel
theorem d_Mo_saves_55 : decode c_Mo_saves 55 = .ok (.aload_n 0, 1) := by decide +kernel
theorem d_Mo_saves_56 : decode c_Mo_saves 56 = .ok (.iconst 0, 1) := by decide +kernel
theorem d_Mo_saves_57 : decode c_Mo_saves 57 = .ok (.iload_n 1, 1) := by decide +kernel
theorem d_Mo_saves_58 : decode c_Mo_saves 58 = .ok (.iconst 1, 1) := by decide +kernel
theorem d_Mo_saves_59 : decode c_Mo_saves 59 = .ok (.if_icmp .ne 7, 3) := by decide +kernel
theorem d_Mo_saves_62 : decode c_Mo_saves 62 = .ok (.iconst 1, 1) := by decide +kernel
theorem d_Mo_saves_63 : decode c_Mo_saves 63 = .ok (.goto 4, 3) := by decide +kernel
theorem d_Mo_saves_66 : decode c_Mo_saves 66 = .ok (.iconst 2, 1) := by decide +kernel
theorem d_Mo_saves_67 : decode c_Mo_saves 67 = .ok (.invokevirtual 226, 3) := by decide +kernel
theorem d_Mo_saves_70 : decode c_Mo_saves 70 = .ok (.ifCond .eq 7, 3) := by decide +kernel
theorem d_Mo_saves_73 : decode c_Mo_saves 73 = .ok (.iconst 0, 1) := by decide +kernel
theorem d_Mo_saves_74 : decode c_Mo_saves 74 = .ok (.goto 4, 3) := by decide +kernel
theorem d_Mo_saves_77 : decode c_Mo_saves 77 = .ok (.iconst 5, 1) := by decide +kernel
theorem d_Mo_saves_78 : decode c_Mo_saves 78 = .ok (.ireturn, 1) := by decide +kernel
theorem d_Mo_save_0 : decode c_Mo_save 0 = .ok (.aload_n 0, 1) := by decide +kernel
theorem d_Mo_save_1 : decode c_Mo_save 1 = .ok (.iconst 0, 1) := by decide +kernel
theorem d_Mo_save_2 : decode c_Mo_save 2 = .ok (.putfield 63, 3) := by decide +kernel
theorem d_Mo_save_5 : decode c_Mo_save 5 = .ok (.aload_n 0, 1) := by decide +kernel
theorem d_Mo_save_6 : decode c_Mo_save 6 = .ok (.invokevirtual 216, 3) := by decide +kernel
theorem d_Mo_save_9 : decode c_Mo_save 9 = .ok (.ifCond .eq 10, 3) := by decide +kernel
theorem d_Mo_save_12 : decode c_Mo_save 12 = .ok (.aload_n 0, 1) := by decide +kernel
theorem d_Mo_save_13 : decode c_Mo_save 13 = .ok (.invokevirtual 228, 3) := by decide +kernel
theorem d_Mo_save_16 : decode c_Mo_save 16 = .ok (.goto 5, 3) := by decide +kernel
theorem d_Mo_save_19 : decode c_Mo_save 19 = .ok (.bipush (-2), 2) := by decide +kernel
theorem d_Mo_save_21 : decode c_Mo_save 21 = .ok (.ireturn, 1) := by decide +kernel
theorem d_Mo_load_0 : decode c_Mo_load 0 = .ok (.aload_n 0, 1) := by decide +kernel
theorem d_Mo_load_1 : decode c_Mo_load 1 = .ok (.iconst 0, 1) := by decide +kernel
theorem d_Mo_load_2 : decode c_Mo_load 2 = .ok (.putfield 63, 3) := by decide +kernel
theorem d_Mo_load_5 : decode c_Mo_load 5 = .ok (.aload_n 0, 1) := by decide +kernel
theorem d_Mo_load_6 : decode c_Mo_load 6 = .ok (.getfield 30, 3) := by decide +kernel
theorem d_Mo_load_9 : decode c_Mo_load 9 = .ok (.iconst 0, 1) := by decide +kernel
theorem d_Mo_load_10 : decode c_Mo_load 10 = .ok (.iaload, 1) := by decide +kernel
theorem d_Mo_load_11 : decode c_Mo_load 11 = .ok (.iconst 1, 1) := by decide +kernel
theorem d_Mo_load_12 : decode c_Mo_load 12 = .ok (.if_icmp .eq 15, 3) := by decide +kernel
theorem d_Mo_load_15 : decode c_Mo_load 15 = .ok (.aload_n 0, 1) := by decide +kernel
theorem d_Mo_load_16 : decode c_Mo_load 16 = .ok (.getfield 30, 3) := by decide +kernel
theorem d_Mo_load_19 : decode c_Mo_load 19 = .ok (.iconst 0, 1) := by decide +kernel
theorem d_Mo_load_20 : decode c_Mo_load 20 = .ok (.iaload, 1) := by decide +kernel
theorem d_Mo_load_21 : decode c_Mo_load 21 = .ok (.iconst 2, 1) := by decide +kernel
theorem d_Mo_load_22 : decode c_Mo_load 22 = .ok (.if_icmp .eq 5, 3) := by decide +kernel
theorem d_Mo_load_25 : decode c_Mo_load 25 = .ok (.iconst 1, 1) := by decide +kernel
theorem d_Mo_load_26 : decode c_Mo_load 26 = .ok (.ireturn, 1) := by decide +kernel
theorem d_Mo_load_27 : decode c_Mo_load 27 = .ok (.iconst 0, 1) := by decide +kernel
theorem d_Mo_load_28 : decode c_Mo_load 28 = .ok (.istore_n 1, 1) := by decide +kernel
theorem d_Mo_load_29 : decode c_Mo_load 29 = .ok (.iload_n 1, 1) := by decide +kernel
theorem d_Mo_load_30 : decode c_Mo_load 30 = .ok (.bipush 64, 2) := by decide +kernel
theorem d_Mo_load_32 : decode c_Mo_load 32 = .ok (.if_icmp .ge 34, 3) := by decide +kernel
theorem d_Mo_load_35 : decode c_Mo_load 35 = .ok (.aload_n 0, 1) := by decide +kernel
theorem d_Mo_load_36 : decode c_Mo_load 36 = .ok (.getfield 45, 3) := by decide +kernel
theorem d_Mo_load_39 : decode c_Mo_load 39 = .ok (.iload_n 1, 1) := by decide +kernel
theorem d_Mo_load_40 : decode c_Mo_load 40 = .ok (.aload_n 0, 1) := by decide +kernel
theorem d_Mo_load_41 : decode c_Mo_load 41 = .ok (.getfield 30, 3) := by decide +kernel
theorem d_Mo_load_44 : decode c_Mo_load 44 = .ok (.bipush 64, 2) := by decide +kernel
theorem d_Mo_load_46 : decode c_Mo_load 46 = .ok (.aload_n 0, 1) := by decide +kernel
theorem d_Mo_load_47 : decode c_Mo_load 47 = .ok (.getfield 30, 3) := by decide +kernel
theorem d_Mo_load_50 : decode c_Mo_load 50 = .ok (.iconst 0, 1) := by decide +kernel
theorem d_Mo_load_51 : decode c_Mo_load 51 = .ok (.iaload, 1) := by decide +kernel
theorem d_Mo_load_52 : decode c_Mo_load 52 = .ok (.imul, 1) := by decide +kernel
theorem d_Mo_load_53 : decode c_Mo_load 53 = .ok (.bipush 63, 2) := by decide +kernel
theorem d_Mo_load_55 : decode c_Mo_load 55 = .ok (.isub, 1) := by decide +kernel
theorem d_Mo_load_56 : decode c_Mo_load 56 = .ok (.iload_n 1, 1) := by decide +kernel
theorem d_Mo_load_57 : decode c_Mo_load 57 = .ok (.iadd, 1) := by decide +kernel
theorem d_Mo_load_58 : decode c_Mo_load 58 = .ok (.iaload, 1) := by decide +kernel
theorem d_Mo_load_59 : decode c_Mo_load 59 = .ok (.iastore, 1) := by decide +kernel
theorem d_Mo_load_60 : decode c_Mo_load 60 = .ok (.iinc 1 1, 3) := by decide +kernel
theorem d_Mo_load_63 : decode c_Mo_load 63 = .ok (.goto (-34), 3) := by decide +kernel
theorem d_Mo_load_66 : decode c_Mo_load 66 = .ok (.aload_n 0, 1) := by decide +kernel
theorem d_Mo_load_67 : decode c_Mo_load 67 = .ok (.bipush 64, 2) := by decide +kernel
theorem d_Mo_load_69 : decode c_Mo_load 69 = .ok (.invokevirtual 211, 3) := by decide +kernel
theorem d_Mo_load_72 : decode c_Mo_load 72 = .ok (.aload_n 0, 1) := by decide +kernel
theorem d_Mo_load_73 : decode c_Mo_load 73 = .ok (.invokevirtual 228, 3) := by decide +kernel
theorem d_Mo_load_76 : decode c_Mo_load 76 = .ok (.ireturn, 1) := by decide +kernel
theorem d_Mo_crash_0 : decode c_Mo_crash 0 = .ok (.aload_n 0, 1) := by decide +kernel
theorem d_Mo_crash_1 : decode c_Mo_crash 1 = .ok (.iconst 0, 1) := by decide +kernel
theorem d_Mo_crash_2 : decode c_Mo_crash 2 = .ok (.putfield 63, 3) := by decide +kernel
theorem d_Mo_crash_5 : decode c_Mo_crash 5 = .ok (.aload_n 0, 1) := by decide +kernel
theorem d_Mo_crash_6 : decode c_Mo_crash 6 = .ok (.iload_n 1, 1) := by decide +kernel
theorem d_Mo_crash_7 : decode c_Mo_crash 7 = .ok (.iconst 1, 1) := by decide +kernel
theorem d_Mo_crash_8 : decode c_Mo_crash 8 = .ok (.if_icmp .ge 7, 3) := by decide +kernel
theorem d_Mo_crash_11 : decode c_Mo_crash 11 = .ok (.iconst 0, 1) := by decide +kernel
theorem d_Mo_crash_12 : decode c_Mo_crash 12 = .ok (.goto 4, 3) := by decide +kernel
theorem d_Mo_crash_15 : decode c_Mo_crash 15 = .ok (.iload_n 1, 1) := by decide +kernel
theorem d_Mo_crash_16 : decode c_Mo_crash 16 = .ok (.putfield 197, 3) := by decide +kernel
theorem d_Mo_crash_19 : decode c_Mo_crash 19 = .ok (.return_, 1) := by decide +kernel
theorem d_Mo_byteOf_0 : decode c_Mo_byteOf 0 = .ok (.aload_n 0, 1) := by decide +kernel
theorem d_Mo_byteOf_1 : decode c_Mo_byteOf 1 = .ok (.iconst 0, 1) := by decide +kernel
theorem d_Mo_byteOf_2 : decode c_Mo_byteOf 2 = .ok (.putfield 63, 3) := by decide +kernel
theorem d_Mo_byteOf_5 : decode c_Mo_byteOf 5 = .ok (.iload_n 1, 1) := by decide +kernel
theorem d_Mo_byteOf_6 : decode c_Mo_byteOf 6 = .ok (.iconst 2, 1) := by decide +kernel
theorem d_Mo_byteOf_7 : decode c_Mo_byteOf 7 = .ok (.if_icmp .ne 24, 3) := by decide +kernel
theorem d_Mo_byteOf_10 : decode c_Mo_byteOf 10 = .ok (.iload_n 2, 1) := by decide +kernel
theorem d_Mo_byteOf_11 : decode c_Mo_byteOf 11 = .ok (.sipush 129, 3) := by decide +kernel
theorem d_Mo_byteOf_14 : decode c_Mo_byteOf 14 = .ok (.invokestatic 203, 3) := by decide +kernel
theorem d_Mo_byteOf_17 : decode c_Mo_byteOf 17 = .ok (.ifCond .eq 12, 3) := by decide +kernel
theorem d_Mo_byteOf_20 : decode c_Mo_byteOf 20 = .ok (.aload_n 0, 1) := by decide +kernel
theorem d_Mo_byteOf_21 : decode c_Mo_byteOf 21 = .ok (.getfield 30, 3) := by decide +kernel
theorem d_Mo_byteOf_24 : decode c_Mo_byteOf 24 = .ok (.iload_n 2, 1) := by decide +kernel
theorem d_Mo_byteOf_25 : decode c_Mo_byteOf 25 = .ok (.iaload, 1) := by decide +kernel
theorem d_Mo_byteOf_26 : decode c_Mo_byteOf 26 = .ok (.goto 4, 3) := by decide +kernel
theorem d_Mo_byteOf_29 : decode c_Mo_byteOf 29 = .ok (.iconst (-1), 1) := by decide +kernel
theorem d_Mo_byteOf_30 : decode c_Mo_byteOf 30 = .ok (.ireturn, 1) := by decide +kernel
theorem d_Mo_byteOf_31 : decode c_Mo_byteOf 31 = .ok (.iload_n 1, 1) := by decide +kernel
theorem d_Mo_byteOf_32 : decode c_Mo_byteOf 32 = .ok (.ifCond .lt 29, 3) := by decide +kernel
theorem d_Mo_byteOf_35 : decode c_Mo_byteOf 35 = .ok (.iload_n 1, 1) := by decide +kernel
theorem d_Mo_byteOf_36 : decode c_Mo_byteOf 36 = .ok (.bipush 34, 2) := by decide +kernel
theorem d_Mo_byteOf_38 : decode c_Mo_byteOf 38 = .ok (.if_icmp .gt 23, 3) := by decide +kernel
theorem d_Mo_byteOf_41 : decode c_Mo_byteOf 41 = .ok (.iload_n 2, 1) := by decide +kernel
theorem d_Mo_byteOf_42 : decode c_Mo_byteOf 42 = .ok (.ifCond .lt 19, 3) := by decide +kernel
theorem d_Mo_byteOf_45 : decode c_Mo_byteOf 45 = .ok (.iload_n 2, 1) := by decide +kernel
theorem d_Mo_byteOf_46 : decode c_Mo_byteOf 46 = .ok (.iload_n 1, 1) := by decide +kernel
theorem d_Mo_byteOf_47 : decode c_Mo_byteOf 47 = .ok (.iconst 2, 1) := by decide +kernel
theorem d_Mo_byteOf_48 : decode c_Mo_byteOf 48 = .ok (.if_icmp .ge 8, 3) := by decide +kernel
theorem d_Mo_byteOf_51 : decode c_Mo_byteOf 51 = .ok (.bipush 16, 2) := by decide +kernel
theorem d_Mo_byteOf_53 : decode c_Mo_byteOf 53 = .ok (.goto 5, 3) := by decide +kernel
theorem d_Mo_byteOf_56 : decode c_Mo_byteOf 56 = .ok (.bipush 32, 2) := by decide +kernel
theorem d_Mo_byteOf_58 : decode c_Mo_byteOf 58 = .ok (.if_icmp .lt 5, 3) := by decide +kernel
theorem d_Mo_byteOf_61 : decode c_Mo_byteOf 61 = .ok (.iconst (-1), 1) := by decide +kernel
theorem d_Mo_byteOf_62 : decode c_Mo_byteOf 62 = .ok (.ireturn, 1) := by decide +kernel
theorem d_Mo_byteOf_63 : decode c_Mo_byteOf 63 = .ok (.iload_n 1, 1) := by decide +kernel
theorem d_Mo_byteOf_64 : decode c_Mo_byteOf 64 = .ok (.iconst 2, 1) := by decide +kernel
theorem d_Mo_byteOf_65 : decode c_Mo_byteOf 65 = .ok (.if_icmp .le 10, 3) := by decide +kernel
theorem d_Mo_byteOf_68 : decode c_Mo_byteOf 68 = .ok (.aload_n 0, 1) := by decide +kernel
theorem d_Mo_byteOf_69 : decode c_Mo_byteOf 69 = .ok (.iload_n 1, 1) := by decide +kernel
theorem d_Mo_byteOf_70 : decode c_Mo_byteOf 70 = .ok (.iconst 3, 1) := by decide +kernel
theorem d_Mo_byteOf_71 : decode c_Mo_byteOf 71 = .ok (.isub, 1) := by decide +kernel
theorem d_Mo_byteOf_72 : decode c_Mo_byteOf 72 = .ok (.invokevirtual 208, 3) := by decide +kernel
theorem d_Mo_byteOf_75 : decode c_Mo_byteOf 75 = .ok (.iload_n 1, 1) := by decide +kernel
theorem d_Mo_byteOf_76 : decode c_Mo_byteOf 76 = .ok (.ifCond .ne 12, 3) := by decide +kernel
theorem d_Mo_byteOf_79 : decode c_Mo_byteOf 79 = .ok (.aload_n 0, 1) := by decide +kernel
theorem d_Mo_byteOf_80 : decode c_Mo_byteOf 80 = .ok (.getfield 7, 3) := by decide +kernel
theorem d_Mo_byteOf_83 : decode c_Mo_byteOf 83 = .ok (.iload_n 2, 1) := by decide +kernel
theorem d_Mo_byteOf_84 : decode c_Mo_byteOf 84 = .ok (.iaload, 1) := by decide +kernel
theorem d_Mo_byteOf_85 : decode c_Mo_byteOf 85 = .ok (.goto 23, 3) := by decide +kernel
theorem d_Mo_byteOf_88 : decode c_Mo_byteOf 88 = .ok (.iload_n 1, 1) := by decide +kernel
theorem d_Mo_byteOf_89 : decode c_Mo_byteOf 89 = .ok (.iconst 1, 1) := by decide +kernel
theorem d_Mo_byteOf_90 : decode c_Mo_byteOf 90 = .ok (.if_icmp .ne 12, 3) := by decide +kernel
theorem d_Mo_byteOf_93 : decode c_Mo_byteOf 93 = .ok (.aload_n 0, 1) := by decide +kernel
theorem d_Mo_byteOf_94 : decode c_Mo_byteOf 94 = .ok (.getfield 13, 3) := by decide +kernel
theorem d_Mo_byteOf_97 : decode c_Mo_byteOf 97 = .ok (.iload_n 2, 1) := by decide +kernel
theorem d_Mo_byteOf_98 : decode c_Mo_byteOf 98 = .ok (.iaload, 1) := by decide +kernel
theorem d_Mo_byteOf_99 : decode c_Mo_byteOf 99 = .ok (.goto 9, 3) := by decide +kernel
theorem d_Mo_byteOf_102 : decode c_Mo_byteOf 102 = .ok (.aload_n 0, 1) := by decide +kernel
theorem d_Mo_byteOf_103 : decode c_Mo_byteOf 103 = .ok (.getfield 42, 3) := by decide +kernel
theorem d_Mo_byteOf_106 : decode c_Mo_byteOf 106 = .ok (.iload_n 2, 1) := by decide +kernel
theorem d_Mo_byteOf_107 : decode c_Mo_byteOf 107 = .ok (.iaload, 1) := by decide +kernel
theorem d_Mo_byteOf_108 : decode c_Mo_byteOf 108 = .ok (.ireturn, 1) := by decide +kernel
theorem d_Mo_spoil_0 : decode c_Mo_spoil 0 = .ok (.aload_n 0, 1) := by decide +kernel
theorem d_Mo_spoil_1 : decode c_Mo_spoil 1 = .ok (.iconst 0, 1) := by decide +kernel
theorem d_Mo_spoil_2 : decode c_Mo_spoil 2 = .ok (.putfield 63, 3) := by decide +kernel
theorem d_Mo_spoil_5 : decode c_Mo_spoil 5 = .ok (.iload_n 1, 1) := by decide +kernel
theorem d_Mo_spoil_6 : decode c_Mo_spoil 6 = .ok (.sipush 129, 3) := by decide +kernel
theorem d_Mo_spoil_9 : decode c_Mo_spoil 9 = .ok (.invokestatic 203, 3) := by decide +kernel
theorem d_Mo_spoil_12 : decode c_Mo_spoil 12 = .ok (.ifCond .eq 13, 3) := by decide +kernel
theorem d_Mo_spoil_15 : decode c_Mo_spoil 15 = .ok (.iload_n 2, 1) := by decide +kernel
theorem d_Mo_spoil_16 : decode c_Mo_spoil 16 = .ok (.sipush 256, 3) := by decide +kernel
theorem d_Mo_spoil_19 : decode c_Mo_spoil 19 = .ok (.invokestatic 203, 3) := by decide +kernel
theorem d_Mo_spoil_22 : decode c_Mo_spoil 22 = .ok (.ifCond .ne 5, 3) := by decide +kernel
theorem d_Mo_spoil_25 : decode c_Mo_spoil 25 = .ok (.iconst 0, 1) := by decide +kernel
theorem d_Mo_spoil_26 : decode c_Mo_spoil 26 = .ok (.ireturn, 1) := by decide +kernel
theorem d_Mo_spoil_27 : decode c_Mo_spoil 27 = .ok (.aload_n 0, 1) := by decide +kernel
theorem d_Mo_spoil_28 : decode c_Mo_spoil 28 = .ok (.getfield 30, 3) := by decide +kernel
theorem d_Mo_spoil_31 : decode c_Mo_spoil 31 = .ok (.iload_n 1, 1) := by decide +kernel
theorem d_Mo_spoil_32 : decode c_Mo_spoil 32 = .ok (.iload_n 2, 1) := by decide +kernel
theorem d_Mo_spoil_33 : decode c_Mo_spoil 33 = .ok (.iastore, 1) := by decide +kernel
theorem d_Mo_spoil_34 : decode c_Mo_spoil 34 = .ok (.iconst 1, 1) := by decide +kernel
theorem d_Mo_spoil_35 : decode c_Mo_spoil 35 = .ok (.ireturn, 1) := by decide +kernel
theorem d_Mo_about_0 : decode c_Mo_about 0 = .ok (.aload_n 0, 1) := by decide +kernel
theorem d_Mo_about_1 : decode c_Mo_about 1 = .ok (.iconst 0, 1) := by decide +kernel
theorem d_Mo_about_2 : decode c_Mo_about 2 = .ok (.putfield 63, 3) := by decide +kernel
theorem d_Mo_about_5 : decode c_Mo_about 5 = .ok (.iload_n 1, 1) := by decide +kernel
theorem d_Mo_about_6 : decode c_Mo_about 6 = .ok (.tableswitch 76 0 5 #[38, 43, 48, 53, 58, 63], 38) := by decide +kernel
theorem d_Mo_about_44 : decode c_Mo_about 44 = .ok (.aload_n 0, 1) := by decide +kernel
theorem d_Mo_about_45 : decode c_Mo_about 45 = .ok (.getfield 188, 3) := by decide +kernel
theorem d_Mo_about_48 : decode c_Mo_about 48 = .ok (.ireturn, 1) := by decide +kernel
theorem d_Mo_about_49 : decode c_Mo_about 49 = .ok (.aload_n 0, 1) := by decide +kernel
theorem d_Mo_about_50 : decode c_Mo_about 50 = .ok (.getfield 191, 3) := by decide +kernel
theorem d_Mo_about_53 : decode c_Mo_about 53 = .ok (.ireturn, 1) := by decide +kernel
theorem d_Mo_about_54 : decode c_Mo_about 54 = .ok (.aload_n 0, 1) := by decide +kernel
theorem d_Mo_about_55 : decode c_Mo_about 55 = .ok (.getfield 16, 3) := by decide +kernel
theorem d_Mo_about_58 : decode c_Mo_about 58 = .ok (.ireturn, 1) := by decide +kernel
theorem d_Mo_about_59 : decode c_Mo_about 59 = .ok (.aload_n 0, 1) := by decide +kernel
theorem d_Mo_about_60 : decode c_Mo_about 60 = .ok (.getfield 197, 3) := by decide +kernel
theorem d_Mo_about_63 : decode c_Mo_about 63 = .ok (.ireturn, 1) := by decide +kernel
theorem d_Mo_about_64 : decode c_Mo_about 64 = .ok (.aload_n 0, 1) := by decide +kernel
theorem d_Mo_about_65 : decode c_Mo_about 65 = .ok (.getfield 223, 3) := by decide +kernel
theorem d_Mo_about_68 : decode c_Mo_about 68 = .ok (.ireturn, 1) := by decide +kernel
theorem d_Mo_about_69 : decode c_Mo_about 69 = .ok (.aload_n 0, 1) := by decide +kernel
theorem d_Mo_about_70 : decode c_Mo_about 70 = .ok (.invokevirtual 216, 3) := by decide +kernel
theorem d_Mo_about_73 : decode c_Mo_about 73 = .ok (.ifCond .eq 7, 3) := by decide +kernel
theorem d_Mo_about_76 : decode c_Mo_about 76 = .ok (.iconst 1, 1) := by decide +kernel
theorem d_Mo_about_77 : decode c_Mo_about 77 = .ok (.goto 4, 3) := by decide +kernel
theorem d_Mo_about_80 : decode c_Mo_about 80 = .ok (.iconst 0, 1) := by decide +kernel
theorem d_Mo_about_81 : decode c_Mo_about 81 = .ok (.ireturn, 1) := by decide +kernel
theorem d_Mo_about_82 : decode c_Mo_about 82 = .ok (.iload_n 1, 1) := by decide +kernel
theorem d_Mo_about_83 : decode c_Mo_about 83 = .ok (.bipush 6, 2) := by decide +kernel
theorem d_Mo_about_85 : decode c_Mo_about 85 = .ok (.if_icmp .lt 9, 3) := by decide +kernel
theorem d_Mo_about_88 : decode c_Mo_about 88 = .ok (.iload_n 1, 1) := by decide +kernel
theorem d_Mo_about_89 : decode c_Mo_about 89 = .ok (.bipush 37, 2) := by decide +kernel
theorem d_Mo_about_91 : decode c_Mo_about 91 = .ok (.if_icmp .le 7, 3) := by decide +kernel
theorem d_Mo_about_94 : decode c_Mo_about 94 = .ok (.iconst (-1), 1) := by decide +kernel
theorem d_Mo_about_95 : decode c_Mo_about 95 = .ok (.goto 12, 3) := by decide +kernel
theorem d_Mo_about_98 : decode c_Mo_about 98 = .ok (.aload_n 0, 1) := by decide +kernel
theorem d_Mo_about_99 : decode c_Mo_about 99 = .ok (.getfield 20, 3) := by decide +kernel
theorem d_Mo_about_102 : decode c_Mo_about 102 = .ok (.iload_n 1, 1) := by decide +kernel
theorem d_Mo_about_103 : decode c_Mo_about 103 = .ok (.bipush 6, 2) := by decide +kernel
theorem d_Mo_about_105 : decode c_Mo_about 105 = .ok (.isub, 1) := by decide +kernel
theorem d_Mo_about_106 : decode c_Mo_about 106 = .ok (.iaload, 1) := by decide +kernel
theorem d_Mo_about_107 : decode c_Mo_about 107 = .ok (.ireturn, 1) := by decide +kernel
theorem d_In_rotateRight_0 : decode c_In_rotateRight 0 = .ok (.iload_n 0, 1) := by decide +kernel
theorem d_In_rotateRight_1 : decode c_In_rotateRight 1 = .ok (.iload_n 1, 1) := by decide +kernel
theorem d_In_rotateRight_2 : decode c_In_rotateRight 2 = .ok (.iushr, 1) := by decide +kernel
theorem d_In_rotateRight_3 : decode c_In_rotateRight 3 = .ok (.iload_n 0, 1) := by decide +kernel
theorem d_In_rotateRight_4 : decode c_In_rotateRight 4 = .ok (.iload_n 1, 1) := by decide +kernel
theorem d_In_rotateRight_5 : decode c_In_rotateRight 5 = .ok (.ineg, 1) := by decide +kernel
theorem d_In_rotateRight_6 : decode c_In_rotateRight 6 = .ok (.ishl, 1) := by decide +kernel
theorem d_In_rotateRight_7 : decode c_In_rotateRight 7 = .ok (.ior, 1) := by decide +kernel
theorem d_In_rotateRight_8 : decode c_In_rotateRight 8 = .ok (.ireturn, 1) := by decide +kernel
theorem d_La_law_0 : decode c_La_law 0 = .ok (.new 7, 3) := by decide +kernel
theorem d_La_law_3 : decode c_La_law 3 = .ok (.dup, 1) := by decide +kernel
theorem d_La_law_4 : decode c_La_law 4 = .ok (.invokespecial 9, 3) := by decide +kernel
theorem d_La_law_7 : decode c_La_law 7 = .ok (.astore_n 1, 1) := by decide +kernel
theorem d_La_law_8 : decode c_La_law 8 = .ok (.new 10, 3) := by decide +kernel
theorem d_La_law_11 : decode c_La_law 11 = .ok (.dup, 1) := by decide +kernel
theorem d_La_law_12 : decode c_La_law 12 = .ok (.invokespecial 12, 3) := by decide +kernel
theorem d_La_law_15 : decode c_La_law 15 = .ok (.astore_n 2, 1) := by decide +kernel
theorem d_La_law_16 : decode c_La_law 16 = .ok (.iconst 0, 1) := by decide +kernel
theorem d_La_law_17 : decode c_La_law 17 = .ok (.istore_n 3, 1) := by decide +kernel
theorem d_La_law_18 : decode c_La_law 18 = .ok (.iload_n 3, 1) := by decide +kernel
theorem d_La_law_19 : decode c_La_law 19 = .ok (.aload_n 0, 1) := by decide +kernel
theorem d_La_law_20 : decode c_La_law 20 = .ok (.arraylength, 1) := by decide +kernel
theorem d_La_law_21 : decode c_La_law 21 = .ok (.iconst 4, 1) := by decide +kernel
theorem d_La_law_22 : decode c_La_law 22 = .ok (.isub, 1) := by decide +kernel
theorem d_La_law_23 : decode c_La_law 23 = .ok (.if_icmp .gt 334, 3) := by decide +kernel
theorem d_La_law_26 : decode c_La_law 26 = .ok (.aload_n 0, 1) := by decide +kernel
theorem d_La_law_27 : decode c_La_law 27 = .ok (.iload_n 3, 1) := by decide +kernel
theorem d_La_law_28 : decode c_La_law 28 = .ok (.iaload, 1) := by decide +kernel
theorem d_La_law_29 : decode c_La_law 29 = .ok (.bipush 15, 2) := by decide +kernel
theorem d_La_law_31 : decode c_La_law 31 = .ok (.iand, 1) := by decide +kernel
theorem d_La_law_32 : decode c_La_law 32 = .ok (.tableswitch 319 0 10 #[60, 71, 114, 137, 160, 183, 196, 209, 230, 263, 296], 60) := by decide +kernel
theorem d_La_law_92 : decode c_La_law 92 = .ok (.aload_n 1, 1) := by decide +kernel
theorem d_La_law_93 : decode c_La_law 93 = .ok (.invokevirtual 13, 3) := by decide +kernel
theorem d_La_law_96 : decode c_La_law 96 = .ok (.aload_n 2, 1) := by decide +kernel
theorem d_La_law_97 : decode c_La_law 97 = .ok (.invokevirtual 16, 3) := by decide +kernel
theorem d_La_law_100 : decode c_La_law 100 = .ok (.goto 251, 3) := by decide +kernel
theorem d_La_law_103 : decode c_La_law 103 = .ok (.aload_n 1, 1) := by decide +kernel
theorem d_La_law_104 : decode c_La_law 104 = .ok (.aload_n 0, 1) := by decide +kernel
theorem d_La_law_105 : decode c_La_law 105 = .ok (.iload_n 3, 1) := by decide +kernel
theorem d_La_law_106 : decode c_La_law 106 = .ok (.iconst 1, 1) := by decide +kernel
theorem d_La_law_107 : decode c_La_law 107 = .ok (.iadd, 1) := by decide +kernel
theorem d_La_law_108 : decode c_La_law 108 = .ok (.iaload, 1) := by decide +kernel
theorem d_La_law_109 : decode c_La_law 109 = .ok (.aload_n 0, 1) := by decide +kernel
theorem d_La_law_110 : decode c_La_law 110 = .ok (.iload_n 3, 1) := by decide +kernel
theorem d_La_law_111 : decode c_La_law 111 = .ok (.iconst 2, 1) := by decide +kernel
theorem d_La_law_112 : decode c_La_law 112 = .ok (.iadd, 1) := by decide +kernel
theorem d_La_law_113 : decode c_La_law 113 = .ok (.iaload, 1) := by decide +kernel
theorem d_La_law_114 : decode c_La_law 114 = .ok (.aload_n 0, 1) := by decide +kernel
theorem d_La_law_115 : decode c_La_law 115 = .ok (.iload_n 3, 1) := by decide +kernel
theorem d_La_law_116 : decode c_La_law 116 = .ok (.iconst 3, 1) := by decide +kernel
theorem d_La_law_117 : decode c_La_law 117 = .ok (.iadd, 1) := by decide +kernel
theorem d_La_law_118 : decode c_La_law 118 = .ok (.iaload, 1) := by decide +kernel
theorem d_La_law_119 : decode c_La_law 119 = .ok (.invokevirtual 17, 3) := by decide +kernel
theorem d_La_law_122 : decode c_La_law 122 = .ok (.aload_n 2, 1) := by decide +kernel
theorem d_La_law_123 : decode c_La_law 123 = .ok (.aload_n 0, 1) := by decide +kernel
theorem d_La_law_124 : decode c_La_law 124 = .ok (.iload_n 3, 1) := by decide +kernel
theorem d_La_law_125 : decode c_La_law 125 = .ok (.iconst 1, 1) := by decide +kernel
theorem d_La_law_126 : decode c_La_law 126 = .ok (.iadd, 1) := by decide +kernel
theorem d_La_law_127 : decode c_La_law 127 = .ok (.iaload, 1) := by decide +kernel
theorem d_La_law_128 : decode c_La_law 128 = .ok (.aload_n 0, 1) := by decide +kernel
theorem d_La_law_129 : decode c_La_law 129 = .ok (.iload_n 3, 1) := by decide +kernel
theorem d_La_law_130 : decode c_La_law 130 = .ok (.iconst 2, 1) := by decide +kernel
theorem d_La_law_131 : decode c_La_law 131 = .ok (.iadd, 1) := by decide +kernel
theorem d_La_law_132 : decode c_La_law 132 = .ok (.iaload, 1) := by decide +kernel
theorem d_La_law_133 : decode c_La_law 133 = .ok (.aload_n 0, 1) := by decide +kernel
theorem d_La_law_134 : decode c_La_law 134 = .ok (.iload_n 3, 1) := by decide +kernel
theorem d_La_law_135 : decode c_La_law 135 = .ok (.iconst 3, 1) := by decide +kernel
theorem d_La_law_136 : decode c_La_law 136 = .ok (.iadd, 1) := by decide +kernel
theorem d_La_law_137 : decode c_La_law 137 = .ok (.iaload, 1) := by decide +kernel
theorem d_La_law_138 : decode c_La_law 138 = .ok (.invokevirtual 21, 3) := by decide +kernel
theorem d_La_law_141 : decode c_La_law 141 = .ok (.if_icmp .eq 210, 3) := by decide +kernel
theorem d_La_law_144 : decode c_La_law 144 = .ok (.iconst 0, 1) := by decide +kernel
theorem d_La_law_145 : decode c_La_law 145 = .ok (.ireturn, 1) := by decide +kernel
theorem d_La_law_146 : decode c_La_law 146 = .ok (.aload_n 1, 1) := by decide +kernel
theorem d_La_law_147 : decode c_La_law 147 = .ok (.aload_n 0, 1) := by decide +kernel
theorem d_La_law_148 : decode c_La_law 148 = .ok (.iload_n 3, 1) := by decide +kernel
theorem d_La_law_149 : decode c_La_law 149 = .ok (.iconst 1, 1) := by decide +kernel
theorem d_La_law_150 : decode c_La_law 150 = .ok (.iadd, 1) := by decide +kernel
theorem d_La_law_151 : decode c_La_law 151 = .ok (.iaload, 1) := by decide +kernel
theorem d_La_law_152 : decode c_La_law 152 = .ok (.invokevirtual 22, 3) := by decide +kernel
theorem d_La_law_155 : decode c_La_law 155 = .ok (.aload_n 2, 1) := by decide +kernel
theorem d_La_law_156 : decode c_La_law 156 = .ok (.aload_n 0, 1) := by decide +kernel
theorem d_La_law_157 : decode c_La_law 157 = .ok (.iload_n 3, 1) := by decide +kernel
theorem d_La_law_158 : decode c_La_law 158 = .ok (.iconst 1, 1) := by decide +kernel
theorem d_La_law_159 : decode c_La_law 159 = .ok (.iadd, 1) := by decide +kernel
theorem d_La_law_160 : decode c_La_law 160 = .ok (.iaload, 1) := by decide +kernel
theorem d_La_law_161 : decode c_La_law 161 = .ok (.invokevirtual 26, 3) := by decide +kernel
theorem d_La_law_164 : decode c_La_law 164 = .ok (.if_icmp .eq 187, 3) := by decide +kernel
theorem d_La_law_167 : decode c_La_law 167 = .ok (.iconst 0, 1) := by decide +kernel
theorem d_La_law_168 : decode c_La_law 168 = .ok (.ireturn, 1) := by decide +kernel
theorem d_La_law_169 : decode c_La_law 169 = .ok (.aload_n 1, 1) := by decide +kernel
theorem d_La_law_170 : decode c_La_law 170 = .ok (.aload_n 0, 1) := by decide +kernel
theorem d_La_law_171 : decode c_La_law 171 = .ok (.iload_n 3, 1) := by decide +kernel
theorem d_La_law_172 : decode c_La_law 172 = .ok (.iconst 1, 1) := by decide +kernel
theorem d_La_law_173 : decode c_La_law 173 = .ok (.iadd, 1) := by decide +kernel
theorem d_La_law_174 : decode c_La_law 174 = .ok (.iaload, 1) := by decide +kernel
theorem d_La_law_175 : decode c_La_law 175 = .ok (.invokevirtual 27, 3) := by decide +kernel
theorem d_La_law_178 : decode c_La_law 178 = .ok (.aload_n 2, 1) := by decide +kernel
theorem d_La_law_179 : decode c_La_law 179 = .ok (.aload_n 0, 1) := by decide +kernel
theorem d_La_law_180 : decode c_La_law 180 = .ok (.iload_n 3, 1) := by decide +kernel
theorem d_La_law_181 : decode c_La_law 181 = .ok (.iconst 1, 1) := by decide +kernel
theorem d_La_law_182 : decode c_La_law 182 = .ok (.iadd, 1) := by decide +kernel
theorem d_La_law_183 : decode c_La_law 183 = .ok (.iaload, 1) := by decide +kernel
theorem d_La_law_184 : decode c_La_law 184 = .ok (.invokevirtual 30, 3) := by decide +kernel
theorem d_La_law_187 : decode c_La_law 187 = .ok (.if_icmp .eq 164, 3) := by decide +kernel
theorem d_La_law_190 : decode c_La_law 190 = .ok (.iconst 0, 1) := by decide +kernel
theorem d_La_law_191 : decode c_La_law 191 = .ok (.ireturn, 1) := by decide +kernel
theorem d_La_law_192 : decode c_La_law 192 = .ok (.aload_n 1, 1) := by decide +kernel
theorem d_La_law_193 : decode c_La_law 193 = .ok (.aload_n 0, 1) := by decide +kernel
theorem d_La_law_194 : decode c_La_law 194 = .ok (.iload_n 3, 1) := by decide +kernel
theorem d_La_law_195 : decode c_La_law 195 = .ok (.iconst 1, 1) := by decide +kernel
theorem d_La_law_196 : decode c_La_law 196 = .ok (.iadd, 1) := by decide +kernel
theorem d_La_law_197 : decode c_La_law 197 = .ok (.iaload, 1) := by decide +kernel
theorem d_La_law_198 : decode c_La_law 198 = .ok (.invokevirtual 31, 3) := by decide +kernel
theorem d_La_law_201 : decode c_La_law 201 = .ok (.aload_n 2, 1) := by decide +kernel
theorem d_La_law_202 : decode c_La_law 202 = .ok (.aload_n 0, 1) := by decide +kernel
theorem d_La_law_203 : decode c_La_law 203 = .ok (.iload_n 3, 1) := by decide +kernel
theorem d_La_law_204 : decode c_La_law 204 = .ok (.iconst 1, 1) := by decide +kernel
theorem d_La_law_205 : decode c_La_law 205 = .ok (.iadd, 1) := by decide +kernel
theorem d_La_law_206 : decode c_La_law 206 = .ok (.iaload, 1) := by decide +kernel
theorem d_La_law_207 : decode c_La_law 207 = .ok (.invokevirtual 34, 3) := by decide +kernel
theorem d_La_law_210 : decode c_La_law 210 = .ok (.if_icmp .eq 141, 3) := by decide +kernel
theorem d_La_law_213 : decode c_La_law 213 = .ok (.iconst 0, 1) := by decide +kernel
theorem d_La_law_214 : decode c_La_law 214 = .ok (.ireturn, 1) := by decide +kernel
theorem d_La_law_215 : decode c_La_law 215 = .ok (.aload_n 1, 1) := by decide +kernel
theorem d_La_law_216 : decode c_La_law 216 = .ok (.invokevirtual 35, 3) := by decide +kernel
theorem d_La_law_219 : decode c_La_law 219 = .ok (.aload_n 2, 1) := by decide +kernel
theorem d_La_law_220 : decode c_La_law 220 = .ok (.invokevirtual 39, 3) := by decide +kernel
theorem d_La_law_223 : decode c_La_law 223 = .ok (.if_icmp .eq 128, 3) := by decide +kernel
theorem d_La_law_226 : decode c_La_law 226 = .ok (.iconst 0, 1) := by decide +kernel
theorem d_La_law_227 : decode c_La_law 227 = .ok (.ireturn, 1) := by decide +kernel
theorem d_La_law_228 : decode c_La_law 228 = .ok (.aload_n 1, 1) := by decide +kernel
theorem d_La_law_229 : decode c_La_law 229 = .ok (.invokevirtual 40, 3) := by decide +kernel
theorem d_La_law_232 : decode c_La_law 232 = .ok (.aload_n 2, 1) := by decide +kernel
theorem d_La_law_233 : decode c_La_law 233 = .ok (.invokevirtual 43, 3) := by decide +kernel
theorem d_La_law_236 : decode c_La_law 236 = .ok (.if_icmp .eq 115, 3) := by decide +kernel
theorem d_La_law_239 : decode c_La_law 239 = .ok (.iconst 0, 1) := by decide +kernel
theorem d_La_law_240 : decode c_La_law 240 = .ok (.ireturn, 1) := by decide +kernel
theorem d_La_law_241 : decode c_La_law 241 = .ok (.aload_n 1, 1) := by decide +kernel
theorem d_La_law_242 : decode c_La_law 242 = .ok (.aload_n 0, 1) := by decide +kernel
theorem d_La_law_243 : decode c_La_law 243 = .ok (.iload_n 3, 1) := by decide +kernel
theorem d_La_law_244 : decode c_La_law 244 = .ok (.iconst 1, 1) := by decide +kernel
theorem d_La_law_245 : decode c_La_law 245 = .ok (.iadd, 1) := by decide +kernel
theorem d_La_law_246 : decode c_La_law 246 = .ok (.iaload, 1) := by decide +kernel
theorem d_La_law_247 : decode c_La_law 247 = .ok (.invokevirtual 44, 3) := by decide +kernel
theorem d_La_law_250 : decode c_La_law 250 = .ok (.aload_n 2, 1) := by decide +kernel
theorem d_La_law_251 : decode c_La_law 251 = .ok (.aload_n 0, 1) := by decide +kernel
theorem d_La_law_252 : decode c_La_law 252 = .ok (.iload_n 3, 1) := by decide +kernel
theorem d_La_law_253 : decode c_La_law 253 = .ok (.iconst 1, 1) := by decide +kernel
theorem d_La_law_254 : decode c_La_law 254 = .ok (.iadd, 1) := by decide +kernel
theorem d_La_law_255 : decode c_La_law 255 = .ok (.iaload, 1) := by decide +kernel
theorem d_La_law_256 : decode c_La_law 256 = .ok (.invokevirtual 48, 3) := by decide +kernel
theorem d_La_law_259 : decode c_La_law 259 = .ok (.goto 92, 3) := by decide +kernel
theorem d_La_law_262 : decode c_La_law 262 = .ok (.aload_n 1, 1) := by decide +kernel
theorem d_La_law_263 : decode c_La_law 263 = .ok (.aload_n 0, 1) := by decide +kernel
theorem d_La_law_264 : decode c_La_law 264 = .ok (.iload_n 3, 1) := by decide +kernel
theorem d_La_law_265 : decode c_La_law 265 = .ok (.iconst 1, 1) := by decide +kernel
theorem d_La_law_266 : decode c_La_law 266 = .ok (.iadd, 1) := by decide +kernel
theorem d_La_law_267 : decode c_La_law 267 = .ok (.iaload, 1) := by decide +kernel
theorem d_La_law_268 : decode c_La_law 268 = .ok (.aload_n 0, 1) := by decide +kernel
theorem d_La_law_269 : decode c_La_law 269 = .ok (.iload_n 3, 1) := by decide +kernel
theorem d_La_law_270 : decode c_La_law 270 = .ok (.iconst 2, 1) := by decide +kernel
theorem d_La_law_271 : decode c_La_law 271 = .ok (.iadd, 1) := by decide +kernel
theorem d_La_law_272 : decode c_La_law 272 = .ok (.iaload, 1) := by decide +kernel
theorem d_La_law_273 : decode c_La_law 273 = .ok (.invokevirtual 49, 3) := by decide +kernel
theorem d_La_law_276 : decode c_La_law 276 = .ok (.aload_n 2, 1) := by decide +kernel
theorem d_La_law_277 : decode c_La_law 277 = .ok (.aload_n 0, 1) := by decide +kernel
theorem d_La_law_278 : decode c_La_law 278 = .ok (.iload_n 3, 1) := by decide +kernel
theorem d_La_law_279 : decode c_La_law 279 = .ok (.iconst 1, 1) := by decide +kernel
theorem d_La_law_280 : decode c_La_law 280 = .ok (.iadd, 1) := by decide +kernel
theorem d_La_law_281 : decode c_La_law 281 = .ok (.iaload, 1) := by decide +kernel
theorem d_La_law_282 : decode c_La_law 282 = .ok (.aload_n 0, 1) := by decide +kernel
theorem d_La_law_283 : decode c_La_law 283 = .ok (.iload_n 3, 1) := by decide +kernel
theorem d_La_law_284 : decode c_La_law 284 = .ok (.iconst 2, 1) := by decide +kernel
theorem d_La_law_285 : decode c_La_law 285 = .ok (.iadd, 1) := by decide +kernel
theorem d_La_law_286 : decode c_La_law 286 = .ok (.iaload, 1) := by decide +kernel
theorem d_La_law_287 : decode c_La_law 287 = .ok (.invokevirtual 53, 3) := by decide +kernel
theorem d_La_law_290 : decode c_La_law 290 = .ok (.if_icmp .eq 61, 3) := by decide +kernel
theorem d_La_law_293 : decode c_La_law 293 = .ok (.iconst 0, 1) := by decide +kernel
theorem d_La_law_294 : decode c_La_law 294 = .ok (.ireturn, 1) := by decide +kernel
theorem d_La_law_295 : decode c_La_law 295 = .ok (.aload_n 1, 1) := by decide +kernel
theorem d_La_law_296 : decode c_La_law 296 = .ok (.aload_n 0, 1) := by decide +kernel
theorem d_La_law_297 : decode c_La_law 297 = .ok (.iload_n 3, 1) := by decide +kernel
theorem d_La_law_298 : decode c_La_law 298 = .ok (.iconst 1, 1) := by decide +kernel
theorem d_La_law_299 : decode c_La_law 299 = .ok (.iadd, 1) := by decide +kernel
theorem d_La_law_300 : decode c_La_law 300 = .ok (.iaload, 1) := by decide +kernel
theorem d_La_law_301 : decode c_La_law 301 = .ok (.aload_n 0, 1) := by decide +kernel
theorem d_La_law_302 : decode c_La_law 302 = .ok (.iload_n 3, 1) := by decide +kernel
theorem d_La_law_303 : decode c_La_law 303 = .ok (.iconst 2, 1) := by decide +kernel
theorem d_La_law_304 : decode c_La_law 304 = .ok (.iadd, 1) := by decide +kernel
theorem d_La_law_305 : decode c_La_law 305 = .ok (.iaload, 1) := by decide +kernel
theorem d_La_law_306 : decode c_La_law 306 = .ok (.invokevirtual 54, 3) := by decide +kernel
theorem d_La_law_309 : decode c_La_law 309 = .ok (.aload_n 2, 1) := by decide +kernel
theorem d_La_law_310 : decode c_La_law 310 = .ok (.aload_n 0, 1) := by decide +kernel
theorem d_La_law_311 : decode c_La_law 311 = .ok (.iload_n 3, 1) := by decide +kernel
theorem d_La_law_312 : decode c_La_law 312 = .ok (.iconst 1, 1) := by decide +kernel
theorem d_La_law_313 : decode c_La_law 313 = .ok (.iadd, 1) := by decide +kernel
theorem d_La_law_314 : decode c_La_law 314 = .ok (.iaload, 1) := by decide +kernel
theorem d_La_law_315 : decode c_La_law 315 = .ok (.aload_n 0, 1) := by decide +kernel
theorem d_La_law_316 : decode c_La_law 316 = .ok (.iload_n 3, 1) := by decide +kernel
theorem d_La_law_317 : decode c_La_law 317 = .ok (.iconst 2, 1) := by decide +kernel
theorem d_La_law_318 : decode c_La_law 318 = .ok (.iadd, 1) := by decide +kernel
theorem d_La_law_319 : decode c_La_law 319 = .ok (.iaload, 1) := by decide +kernel
theorem d_La_law_320 : decode c_La_law 320 = .ok (.invokevirtual 58, 3) := by decide +kernel
theorem d_La_law_323 : decode c_La_law 323 = .ok (.if_icmp .eq 28, 3) := by decide +kernel
theorem d_La_law_326 : decode c_La_law 326 = .ok (.iconst 0, 1) := by decide +kernel
theorem d_La_law_327 : decode c_La_law 327 = .ok (.ireturn, 1) := by decide +kernel
theorem d_La_law_328 : decode c_La_law 328 = .ok (.aload_n 1, 1) := by decide +kernel
theorem d_La_law_329 : decode c_La_law 329 = .ok (.aload_n 0, 1) := by decide +kernel
theorem d_La_law_330 : decode c_La_law 330 = .ok (.iload_n 3, 1) := by decide +kernel
theorem d_La_law_331 : decode c_La_law 331 = .ok (.iconst 1, 1) := by decide +kernel
theorem d_La_law_332 : decode c_La_law 332 = .ok (.iadd, 1) := by decide +kernel
theorem d_La_law_333 : decode c_La_law 333 = .ok (.iaload, 1) := by decide +kernel
theorem d_La_law_334 : decode c_La_law 334 = .ok (.invokevirtual 59, 3) := by decide +kernel
theorem d_La_law_337 : decode c_La_law 337 = .ok (.aload_n 2, 1) := by decide +kernel
theorem d_La_law_338 : decode c_La_law 338 = .ok (.aload_n 0, 1) := by decide +kernel
theorem d_La_law_339 : decode c_La_law 339 = .ok (.iload_n 3, 1) := by decide +kernel
theorem d_La_law_340 : decode c_La_law 340 = .ok (.iconst 1, 1) := by decide +kernel
theorem d_La_law_341 : decode c_La_law 341 = .ok (.iadd, 1) := by decide +kernel
theorem d_La_law_342 : decode c_La_law 342 = .ok (.iaload, 1) := by decide +kernel
theorem d_La_law_343 : decode c_La_law 343 = .ok (.invokevirtual 62, 3) := by decide +kernel
theorem d_La_law_346 : decode c_La_law 346 = .ok (.if_icmp .eq 5, 3) := by decide +kernel
theorem d_La_law_349 : decode c_La_law 349 = .ok (.iconst 0, 1) := by decide +kernel
theorem d_La_law_350 : decode c_La_law 350 = .ok (.ireturn, 1) := by decide +kernel
theorem d_La_law_351 : decode c_La_law 351 = .ok (.iinc 3 4, 3) := by decide +kernel
theorem d_La_law_354 : decode c_La_law 354 = .ok (.goto (-336), 3) := by decide +kernel
theorem d_La_law_357 : decode c_La_law 357 = .ok (.iconst 1, 1) := by decide +kernel
theorem d_La_law_358 : decode c_La_law 358 = .ok (.ireturn, 1) := by decide +kernel

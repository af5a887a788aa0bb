theorem d_M_access_0 : decode b_M_access 0 = .ok (.aload_n 3, 1) := by decide +kernel
theorem d_M_access_1 : decode b_M_access 1 = .ok (.iload_n 1, 1) := by decide +kernel
theorem d_M_access_2 : decode b_M_access 2 = .ok (.aload_n 2, 1) := by decide +kernel
theorem d_M_access_3 : decode b_M_access 3 = .ok (.invokestatic 188, 3) := by decide +kernel
theorem d_M_access_6 : decode b_M_access 6 = .ok (.lload 4, 2) := by decide +kernel
theorem d_M_access_8 : decode b_M_access 8 = .ok (.iload_n 1, 1) := by decide +kernel
theorem d_M_access_9 : decode b_M_access 9 = .ok (.invokestatic 192, 3) := by decide +kernel
theorem d_M_access_12 : decode b_M_access 12 = .ok (.invokevirtual 90, 3) := by decide +kernel
theorem d_M_access_15 : decode b_M_access 15 = .ok (.istore 6, 2) := by decide +kernel
theorem d_M_access_17 : decode b_M_access 17 = .ok (.iload 6, 2) := by decide +kernel
theorem d_M_access_19 : decode b_M_access 19 = .ok (.ifCond .eq 6, 3) := by decide +kernel
theorem d_M_access_22 : decode b_M_access 22 = .ok (.iload 6, 2) := by decide +kernel
theorem d_M_access_24 : decode b_M_access 24 = .ok (.ireturn, 1) := by decide +kernel
theorem d_M_access_25 : decode b_M_access 25 = .ok (.lload 4, 2) := by decide +kernel
theorem d_M_access_27 : decode b_M_access 27 = .ok (.l2i, 1) := by decide +kernel
theorem d_M_access_28 : decode b_M_access 28 = .ok (.istore 7, 2) := by decide +kernel
theorem d_M_access_30 : decode b_M_access 30 = .ok (.iload_n 1, 1) := by decide +kernel
theorem d_M_access_31 : decode b_M_access 31 = .ok (.tableswitch 95 17 22 #[37, 53, 69, 95, 95, 82], 37) := by decide +kernel
theorem d_M_access_68 : decode b_M_access 68 = .ok (.aload_n 2, 1) := by decide +kernel
theorem d_M_access_69 : decode b_M_access 69 = .ok (.aload_n 0, 1) := by decide +kernel
theorem d_M_access_70 : decode b_M_access 70 = .ok (.getfield 32, 3) := by decide +kernel
theorem d_M_access_73 : decode b_M_access 73 = .ok (.iload 7, 2) := by decide +kernel
theorem d_M_access_75 : decode b_M_access 75 = .ok (.invokevirtual 72, 3) := by decide +kernel
theorem d_M_access_78 : decode b_M_access 78 = .ok (.invokevirtual 102, 3) := by decide +kernel
theorem d_M_access_81 : decode b_M_access 81 = .ok (.goto 62, 3) := by decide +kernel
theorem d_M_access_84 : decode b_M_access 84 = .ok (.aload_n 2, 1) := by decide +kernel
theorem d_M_access_85 : decode b_M_access 85 = .ok (.aload_n 0, 1) := by decide +kernel
theorem d_M_access_86 : decode b_M_access 86 = .ok (.getfield 32, 3) := by decide +kernel
theorem d_M_access_89 : decode b_M_access 89 = .ok (.iload 7, 2) := by decide +kernel
theorem d_M_access_91 : decode b_M_access 91 = .ok (.invokevirtual 195, 3) := by decide +kernel
theorem d_M_access_94 : decode b_M_access 94 = .ok (.invokevirtual 102, 3) := by decide +kernel
theorem d_M_access_97 : decode b_M_access 97 = .ok (.goto 46, 3) := by decide +kernel
theorem d_M_access_100 : decode b_M_access 100 = .ok (.aload_n 0, 1) := by decide +kernel
theorem d_M_access_101 : decode b_M_access 101 = .ok (.getfield 32, 3) := by decide +kernel
theorem d_M_access_104 : decode b_M_access 104 = .ok (.iload 7, 2) := by decide +kernel
theorem d_M_access_106 : decode b_M_access 106 = .ok (.aload_n 2, 1) := by decide +kernel
theorem d_M_access_107 : decode b_M_access 107 = .ok (.invokevirtual 198, 3) := by decide +kernel
theorem d_M_access_110 : decode b_M_access 110 = .ok (.goto 33, 3) := by decide +kernel
theorem d_M_access_113 : decode b_M_access 113 = .ok (.aload_n 0, 1) := by decide +kernel
theorem d_M_access_114 : decode b_M_access 114 = .ok (.getfield 32, 3) := by decide +kernel
theorem d_M_access_117 : decode b_M_access 117 = .ok (.iload 7, 2) := by decide +kernel
theorem d_M_access_119 : decode b_M_access 119 = .ok (.aload_n 2, 1) := by decide +kernel
theorem d_M_access_120 : decode b_M_access 120 = .ok (.invokevirtual 202, 3) := by decide +kernel
theorem d_M_access_123 : decode b_M_access 123 = .ok (.goto 20, 3) := by decide +kernel
theorem d_M_access_126 : decode b_M_access 126 = .ok (.aload_n 0, 1) := by decide +kernel
theorem d_M_access_127 : decode b_M_access 127 = .ok (.getfield 32, 3) := by decide +kernel
theorem d_M_access_130 : decode b_M_access 130 = .ok (.iload 7, 2) := by decide +kernel
theorem d_M_access_132 : decode b_M_access 132 = .ok (.aload_n 2, 1) := by decide +kernel
theorem d_M_access_133 : decode b_M_access 133 = .ok (.getfield 87, 3) := by decide +kernel
theorem d_M_access_136 : decode b_M_access 136 = .ok (.iload_n 1, 1) := by decide +kernel
theorem d_M_access_137 : decode b_M_access 137 = .ok (.invokestatic 192, 3) := by decide +kernel
theorem d_M_access_140 : decode b_M_access 140 = .ok (.invokevirtual 50, 3) := by decide +kernel
theorem d_M_access_143 : decode b_M_access 143 = .ok (.iconst 0, 1) := by decide +kernel
theorem d_M_access_144 : decode b_M_access 144 = .ok (.ireturn, 1) := by decide +kernel
theorem d_M_advance_0 : decode b_M_advance 0 = .ok (.iload_n 1, 1) := by decide +kernel
theorem d_M_advance_1 : decode b_M_advance 1 = .ok (.ifCond .ne 19, 3) := by decide +kernel
theorem d_M_advance_4 : decode b_M_advance 4 = .ok (.aload_n 0, 1) := by decide +kernel
theorem d_M_advance_5 : decode b_M_advance 5 = .ok (.getfield 16, 3) := by decide +kernel
theorem d_M_advance_8 : decode b_M_advance 8 = .ok (.aload_n 0, 1) := by decide +kernel
theorem d_M_advance_9 : decode b_M_advance 9 = .ok (.getfield 16, 3) := by decide +kernel
theorem d_M_advance_12 : decode b_M_advance 12 = .ok (.getfield 87, 3) := by decide +kernel
theorem d_M_advance_15 : decode b_M_advance 15 = .ok (.iconst 4, 1) := by decide +kernel
theorem d_M_advance_16 : decode b_M_advance 16 = .ok (.iadd, 1) := by decide +kernel
theorem d_M_advance_17 : decode b_M_advance 17 = .ok (.invokevirtual 112, 3) := by decide +kernel
theorem d_M_advance_20 : decode b_M_advance 20 = .ok (.iload_n 1, 1) := by decide +kernel
theorem d_M_advance_21 : decode b_M_advance 21 = .ok (.ireturn, 1) := by decide +kernel
theorem d_M_areExact_0 : decode b_M_areExact 0 = .ok (.iload_n 0, 1) := by decide +kernel
theorem d_M_areExact_1 : decode b_M_areExact 1 = .ok (.invokestatic 178, 3) := by decide +kernel
theorem d_M_areExact_4 : decode b_M_areExact 4 = .ok (.iload_n 0, 1) := by decide +kernel
theorem d_M_areExact_5 : decode b_M_areExact 5 = .ok (.if_icmp .ne 15, 3) := by decide +kernel
theorem d_M_areExact_8 : decode b_M_areExact 8 = .ok (.iload_n 1, 1) := by decide +kernel
theorem d_M_areExact_9 : decode b_M_areExact 9 = .ok (.invokestatic 178, 3) := by decide +kernel
theorem d_M_areExact_12 : decode b_M_areExact 12 = .ok (.iload_n 1, 1) := by decide +kernel
theorem d_M_areExact_13 : decode b_M_areExact 13 = .ok (.if_icmp .ne 7, 3) := by decide +kernel
theorem d_M_areExact_16 : decode b_M_areExact 16 = .ok (.iconst 1, 1) := by decide +kernel
theorem d_M_areExact_17 : decode b_M_areExact 17 = .ok (.goto 4, 3) := by decide +kernel
theorem d_M_areExact_20 : decode b_M_areExact 20 = .ok (.iconst 0, 1) := by decide +kernel
theorem d_M_areExact_21 : decode b_M_areExact 21 = .ok (.istore_n 2, 1) := by decide +kernel
theorem d_M_areExact_22 : decode b_M_areExact 22 = .ok (.iload_n 1, 1) := by decide +kernel
theorem d_M_areExact_23 : decode b_M_areExact 23 = .ok (.iload_n 0, 1) := by decide +kernel
theorem d_M_areExact_24 : decode b_M_areExact 24 = .ok (.isub, 1) := by decide +kernel
theorem d_M_areExact_25 : decode b_M_areExact 25 = .ok (.bipush 64, 2) := by decide +kernel
theorem d_M_areExact_27 : decode b_M_areExact 27 = .ok (.if_icmp .le 7, 3) := by decide +kernel
theorem d_M_areExact_30 : decode b_M_areExact 30 = .ok (.iload_n 2, 1) := by decide +kernel
theorem d_M_areExact_31 : decode b_M_areExact 31 = .ok (.ifCond .eq 7, 3) := by decide +kernel
theorem d_M_areExact_34 : decode b_M_areExact 34 = .ok (.iconst 1, 1) := by decide +kernel
theorem d_M_areExact_35 : decode b_M_areExact 35 = .ok (.goto 4, 3) := by decide +kernel
theorem d_M_areExact_38 : decode b_M_areExact 38 = .ok (.iconst 0, 1) := by decide +kernel
theorem d_M_areExact_39 : decode b_M_areExact 39 = .ok (.ireturn, 1) := by decide +kernel
theorem d_M_branch_0 : decode b_M_branch 0 = .ok (.iload_n 1, 1) := by decide +kernel
theorem d_M_branch_1 : decode b_M_branch 1 = .ok (.ifCond .eq 9, 3) := by decide +kernel
theorem d_M_branch_4 : decode b_M_branch 4 = .ok (.iconst 4, 1) := by decide +kernel
theorem d_M_branch_5 : decode b_M_branch 5 = .ok (.iload_n 2, 1) := by decide +kernel
theorem d_M_branch_6 : decode b_M_branch 6 = .ok (.imul, 1) := by decide +kernel
theorem d_M_branch_7 : decode b_M_branch 7 = .ok (.goto 4, 3) := by decide +kernel
theorem d_M_branch_10 : decode b_M_branch 10 = .ok (.iconst 0, 1) := by decide +kernel
theorem d_M_branch_11 : decode b_M_branch 11 = .ok (.istore_n 3, 1) := by decide +kernel
theorem d_M_branch_12 : decode b_M_branch 12 = .ok (.aload_n 0, 1) := by decide +kernel
theorem d_M_branch_13 : decode b_M_branch 13 = .ok (.getfield 16, 3) := by decide +kernel
theorem d_M_branch_16 : decode b_M_branch 16 = .ok (.aload_n 0, 1) := by decide +kernel
theorem d_M_branch_17 : decode b_M_branch 17 = .ok (.getfield 16, 3) := by decide +kernel
theorem d_M_branch_20 : decode b_M_branch 20 = .ok (.getfield 87, 3) := by decide +kernel
theorem d_M_branch_23 : decode b_M_branch 23 = .ok (.iconst 4, 1) := by decide +kernel
theorem d_M_branch_24 : decode b_M_branch 24 = .ok (.iadd, 1) := by decide +kernel
theorem d_M_branch_25 : decode b_M_branch 25 = .ok (.iload_n 3, 1) := by decide +kernel
theorem d_M_branch_26 : decode b_M_branch 26 = .ok (.iadd, 1) := by decide +kernel
theorem d_M_branch_27 : decode b_M_branch 27 = .ok (.invokevirtual 112, 3) := by decide +kernel
theorem d_M_branch_30 : decode b_M_branch 30 = .ok (.iconst 0, 1) := by decide +kernel
theorem d_M_branch_31 : decode b_M_branch 31 = .ok (.ireturn, 1) := by decide +kernel
theorem d_M_bytesOf_0 : decode b_M_bytesOf 0 = .ok (.iload_n 0, 1) := by decide +kernel
theorem d_M_bytesOf_1 : decode b_M_bytesOf 1 = .ok (.tableswitch 39 17 21 #[35, 37, 39, 35, 37], 35) := by decide +kernel
theorem d_M_bytesOf_36 : decode b_M_bytesOf 36 = .ok (.iconst 1, 1) := by decide +kernel
theorem d_M_bytesOf_37 : decode b_M_bytesOf 37 = .ok (.ireturn, 1) := by decide +kernel
theorem d_M_bytesOf_38 : decode b_M_bytesOf 38 = .ok (.iconst 4, 1) := by decide +kernel
theorem d_M_bytesOf_39 : decode b_M_bytesOf 39 = .ok (.ireturn, 1) := by decide +kernel
theorem d_M_bytesOf_40 : decode b_M_bytesOf 40 = .ok (.bipush 8, 2) := by decide +kernel
theorem d_M_bytesOf_42 : decode b_M_bytesOf 42 = .ok (.ireturn, 1) := by decide +kernel
theorem d_M_cause_0 : decode b_M_cause 0 = .ok (.aload_n 0, 1) := by decide +kernel
theorem d_M_cause_1 : decode b_M_cause 1 = .ok (.getfield 44, 3) := by decide +kernel
theorem d_M_cause_4 : decode b_M_cause 4 = .ok (.ireturn, 1) := by decide +kernel
theorem d_M_compute_0 : decode b_M_compute 0 = .ok (.iload_n 1, 1) := by decide +kernel
theorem d_M_compute_1 : decode b_M_compute 1 = .ok (.bipush 17, 2) := by decide +kernel
theorem d_M_compute_3 : decode b_M_compute 3 = .ok (.if_icmp .lt 26, 3) := by decide +kernel
theorem d_M_compute_6 : decode b_M_compute 6 = .ok (.iload_n 1, 1) := by decide +kernel
theorem d_M_compute_7 : decode b_M_compute 7 = .ok (.bipush 22, 2) := by decide +kernel
theorem d_M_compute_9 : decode b_M_compute 9 = .ok (.if_icmp .gt 20, 3) := by decide +kernel
theorem d_M_compute_12 : decode b_M_compute 12 = .ok (.aload_n 0, 1) := by decide +kernel
theorem d_M_compute_13 : decode b_M_compute 13 = .ok (.iload_n 1, 1) := by decide +kernel
theorem d_M_compute_14 : decode b_M_compute 14 = .ok (.aload_n 2, 1) := by decide +kernel
theorem d_M_compute_15 : decode b_M_compute 15 = .ok (.aload_n 3, 1) := by decide +kernel
theorem d_M_compute_16 : decode b_M_compute 16 = .ok (.aload_n 3, 1) := by decide +kernel
theorem d_M_compute_17 : decode b_M_compute 17 = .ok (.getfield 87, 3) := by decide +kernel
theorem d_M_compute_20 : decode b_M_compute 20 = .ok (.i2l, 1) := by decide +kernel
theorem d_M_compute_21 : decode b_M_compute 21 = .ok (.iload 5, 2) := by decide +kernel
theorem d_M_compute_23 : decode b_M_compute 23 = .ok (.i2l, 1) := by decide +kernel
theorem d_M_compute_24 : decode b_M_compute 24 = .ok (.ladd, 1) := by decide +kernel
theorem d_M_compute_25 : decode b_M_compute 25 = .ok (.invokevirtual 122, 3) := by decide +kernel
theorem d_M_compute_28 : decode b_M_compute 28 = .ok (.ireturn, 1) := by decide +kernel
theorem d_M_compute_29 : decode b_M_compute 29 = .ok (.iload_n 1, 1) := by decide +kernel
theorem d_M_compute_30 : decode b_M_compute 30 = .ok (.bipush 23, 2) := by decide +kernel
theorem d_M_compute_32 : decode b_M_compute 32 = .ok (.if_icmp .lt 22, 3) := by decide +kernel
theorem d_M_compute_35 : decode b_M_compute 35 = .ok (.iload_n 1, 1) := by decide +kernel
theorem d_M_compute_36 : decode b_M_compute 36 = .ok (.bipush 28, 2) := by decide +kernel
theorem d_M_compute_38 : decode b_M_compute 38 = .ok (.if_icmp .gt 16, 3) := by decide +kernel
theorem d_M_compute_41 : decode b_M_compute 41 = .ok (.aload_n 2, 1) := by decide +kernel
theorem d_M_compute_42 : decode b_M_compute 42 = .ok (.aload_n 3, 1) := by decide +kernel
theorem d_M_compute_43 : decode b_M_compute 43 = .ok (.iload_n 1, 1) := by decide +kernel
theorem d_M_compute_44 : decode b_M_compute 44 = .ok (.bipush 23, 2) := by decide +kernel
theorem d_M_compute_46 : decode b_M_compute 46 = .ok (.isub, 1) := by decide +kernel
theorem d_M_compute_47 : decode b_M_compute 47 = .ok (.invokevirtual 68, 3) := by decide +kernel
theorem d_M_compute_50 : decode b_M_compute 50 = .ok (.invokestatic 126, 3) := by decide +kernel
theorem d_M_compute_53 : decode b_M_compute 53 = .ok (.ireturn, 1) := by decide +kernel
theorem d_M_compute_54 : decode b_M_compute 54 = .ok (.iload_n 1, 1) := by decide +kernel
theorem d_M_compute_55 : decode b_M_compute 55 = .ok (.tableswitch 306 2 32 #[137, 152, 306, 306, 306, 167, 173, 184, 197, 209, 221, 232, 240, 248, 306, 306, 306, 306, 306, 306, 306, 306, 306, 306, 306, 306, 306, 254, 260, 279, 300], 137) := by decide +kernel
theorem d_M_compute_192 : decode b_M_compute 192 = .ok (.aload_n 2, 1) := by decide +kernel
theorem d_M_compute_193 : decode b_M_compute 193 = .ok (.aload_n 3, 1) := by decide +kernel
theorem d_M_compute_194 : decode b_M_compute 194 = .ok (.getfield 87, 3) := by decide +kernel
theorem d_M_compute_197 : decode b_M_compute 197 = .ok (.aload 4, 2) := by decide +kernel
theorem d_M_compute_199 : decode b_M_compute 199 = .ok (.getfield 87, 3) := by decide +kernel
theorem d_M_compute_202 : decode b_M_compute 202 = .ok (.iadd, 1) := by decide +kernel
theorem d_M_compute_203 : decode b_M_compute 203 = .ok (.invokestatic 126, 3) := by decide +kernel
theorem d_M_compute_206 : decode b_M_compute 206 = .ok (.ireturn, 1) := by decide +kernel
theorem d_M_compute_207 : decode b_M_compute 207 = .ok (.aload_n 2, 1) := by decide +kernel
theorem d_M_compute_208 : decode b_M_compute 208 = .ok (.aload_n 3, 1) := by decide +kernel
theorem d_M_compute_209 : decode b_M_compute 209 = .ok (.getfield 87, 3) := by decide +kernel
theorem d_M_compute_212 : decode b_M_compute 212 = .ok (.aload 4, 2) := by decide +kernel
theorem d_M_compute_214 : decode b_M_compute 214 = .ok (.getfield 87, 3) := by decide +kernel
theorem d_M_compute_217 : decode b_M_compute 217 = .ok (.isub, 1) := by decide +kernel
theorem d_M_compute_218 : decode b_M_compute 218 = .ok (.invokestatic 126, 3) := by decide +kernel
theorem d_M_compute_221 : decode b_M_compute 221 = .ok (.ireturn, 1) := by decide +kernel
theorem d_M_compute_222 : decode b_M_compute 222 = .ok (.aload_n 2, 1) := by decide +kernel
theorem d_M_compute_223 : decode b_M_compute 223 = .ok (.aload_n 3, 1) := by decide +kernel
theorem d_M_compute_224 : decode b_M_compute 224 = .ok (.invokestatic 130, 3) := by decide +kernel
theorem d_M_compute_227 : decode b_M_compute 227 = .ok (.ireturn, 1) := by decide +kernel
theorem d_M_compute_228 : decode b_M_compute 228 = .ok (.aload_n 2, 1) := by decide +kernel
theorem d_M_compute_229 : decode b_M_compute 229 = .ok (.aload_n 3, 1) := by decide +kernel
theorem d_M_compute_230 : decode b_M_compute 230 = .ok (.aload 4, 2) := by decide +kernel
theorem d_M_compute_232 : decode b_M_compute 232 = .ok (.getfield 87, 3) := by decide +kernel
theorem d_M_compute_235 : decode b_M_compute 235 = .ok (.invokestatic 133, 3) := by decide +kernel
theorem d_M_compute_238 : decode b_M_compute 238 = .ok (.ireturn, 1) := by decide +kernel
theorem d_M_compute_239 : decode b_M_compute 239 = .ok (.aload_n 2, 1) := by decide +kernel
theorem d_M_compute_240 : decode b_M_compute 240 = .ok (.aload_n 3, 1) := by decide +kernel
theorem d_M_compute_241 : decode b_M_compute 241 = .ok (.aload_n 3, 1) := by decide +kernel
theorem d_M_compute_242 : decode b_M_compute 242 = .ok (.getfield 87, 3) := by decide +kernel
theorem d_M_compute_245 : decode b_M_compute 245 = .ok (.iload 5, 2) := by decide +kernel
theorem d_M_compute_247 : decode b_M_compute 247 = .ok (.iadd, 1) := by decide +kernel
theorem d_M_compute_248 : decode b_M_compute 248 = .ok (.invokestatic 133, 3) := by decide +kernel
theorem d_M_compute_251 : decode b_M_compute 251 = .ok (.ireturn, 1) := by decide +kernel
theorem d_M_compute_252 : decode b_M_compute 252 = .ok (.aload_n 2, 1) := by decide +kernel
theorem d_M_compute_253 : decode b_M_compute 253 = .ok (.aload_n 3, 1) := by decide +kernel
theorem d_M_compute_254 : decode b_M_compute 254 = .ok (.aload 4, 2) := by decide +kernel
theorem d_M_compute_256 : decode b_M_compute 256 = .ok (.getfield 87, 3) := by decide +kernel
theorem d_M_compute_259 : decode b_M_compute 259 = .ok (.iconst 0, 1) := by decide +kernel
theorem d_M_compute_260 : decode b_M_compute 260 = .ok (.invokestatic 137, 3) := by decide +kernel
theorem d_M_compute_263 : decode b_M_compute 263 = .ok (.ireturn, 1) := by decide +kernel
theorem d_M_compute_264 : decode b_M_compute 264 = .ok (.aload_n 2, 1) := by decide +kernel
theorem d_M_compute_265 : decode b_M_compute 265 = .ok (.aload_n 3, 1) := by decide +kernel
theorem d_M_compute_266 : decode b_M_compute 266 = .ok (.aload 4, 2) := by decide +kernel
theorem d_M_compute_268 : decode b_M_compute 268 = .ok (.getfield 87, 3) := by decide +kernel
theorem d_M_compute_271 : decode b_M_compute 271 = .ok (.iconst 1, 1) := by decide +kernel
theorem d_M_compute_272 : decode b_M_compute 272 = .ok (.invokestatic 137, 3) := by decide +kernel
theorem d_M_compute_275 : decode b_M_compute 275 = .ok (.ireturn, 1) := by decide +kernel
theorem d_M_compute_276 : decode b_M_compute 276 = .ok (.aload_n 2, 1) := by decide +kernel
theorem d_M_compute_277 : decode b_M_compute 277 = .ok (.aload_n 3, 1) := by decide +kernel
theorem d_M_compute_278 : decode b_M_compute 278 = .ok (.aload 4, 2) := by decide +kernel
theorem d_M_compute_280 : decode b_M_compute 280 = .ok (.getfield 87, 3) := by decide +kernel
theorem d_M_compute_283 : decode b_M_compute 283 = .ok (.invokestatic 141, 3) := by decide +kernel
theorem d_M_compute_286 : decode b_M_compute 286 = .ok (.ireturn, 1) := by decide +kernel
theorem d_M_compute_287 : decode b_M_compute 287 = .ok (.aload_n 2, 1) := by decide +kernel
theorem d_M_compute_288 : decode b_M_compute 288 = .ok (.aload_n 3, 1) := by decide +kernel
theorem d_M_compute_289 : decode b_M_compute 289 = .ok (.aload 4, 2) := by decide +kernel
theorem d_M_compute_291 : decode b_M_compute 291 = .ok (.invokestatic 144, 3) := by decide +kernel
theorem d_M_compute_294 : decode b_M_compute 294 = .ok (.ireturn, 1) := by decide +kernel
theorem d_M_compute_295 : decode b_M_compute 295 = .ok (.aload_n 2, 1) := by decide +kernel
theorem d_M_compute_296 : decode b_M_compute 296 = .ok (.aload_n 3, 1) := by decide +kernel
theorem d_M_compute_297 : decode b_M_compute 297 = .ok (.aload 4, 2) := by decide +kernel
theorem d_M_compute_299 : decode b_M_compute 299 = .ok (.invokestatic 148, 3) := by decide +kernel
theorem d_M_compute_302 : decode b_M_compute 302 = .ok (.ireturn, 1) := by decide +kernel
theorem d_M_compute_303 : decode b_M_compute 303 = .ok (.aload_n 2, 1) := by decide +kernel
theorem d_M_compute_304 : decode b_M_compute 304 = .ok (.aload_n 3, 1) := by decide +kernel
theorem d_M_compute_305 : decode b_M_compute 305 = .ok (.invokestatic 151, 3) := by decide +kernel
theorem d_M_compute_308 : decode b_M_compute 308 = .ok (.ireturn, 1) := by decide +kernel
theorem d_M_compute_309 : decode b_M_compute 309 = .ok (.aload_n 2, 1) := by decide +kernel
theorem d_M_compute_310 : decode b_M_compute 310 = .ok (.aload_n 3, 1) := by decide +kernel
theorem d_M_compute_311 : decode b_M_compute 311 = .ok (.invokestatic 154, 3) := by decide +kernel
theorem d_M_compute_314 : decode b_M_compute 314 = .ok (.ireturn, 1) := by decide +kernel
theorem d_M_compute_315 : decode b_M_compute 315 = .ok (.aload_n 2, 1) := by decide +kernel
theorem d_M_compute_316 : decode b_M_compute 316 = .ok (.aload_n 3, 1) := by decide +kernel
theorem d_M_compute_317 : decode b_M_compute 317 = .ok (.aload 4, 2) := by decide +kernel
theorem d_M_compute_319 : decode b_M_compute 319 = .ok (.invokevirtual 157, 3) := by decide +kernel
theorem d_M_compute_322 : decode b_M_compute 322 = .ok (.ifCond .eq 7, 3) := by decide +kernel
theorem d_M_compute_325 : decode b_M_compute 325 = .ok (.iconst 1, 1) := by decide +kernel
theorem d_M_compute_326 : decode b_M_compute 326 = .ok (.goto 4, 3) := by decide +kernel
theorem d_M_compute_329 : decode b_M_compute 329 = .ok (.iconst 0, 1) := by decide +kernel
theorem d_M_compute_330 : decode b_M_compute 330 = .ok (.invokestatic 126, 3) := by decide +kernel
theorem d_M_compute_333 : decode b_M_compute 333 = .ok (.ireturn, 1) := by decide +kernel
theorem d_M_compute_334 : decode b_M_compute 334 = .ok (.aload_n 2, 1) := by decide +kernel
theorem d_M_compute_335 : decode b_M_compute 335 = .ok (.aload_n 0, 1) := by decide +kernel
theorem d_M_compute_336 : decode b_M_compute 336 = .ok (.getfield 16, 3) := by decide +kernel
theorem d_M_compute_339 : decode b_M_compute 339 = .ok (.aload_n 0, 1) := by decide +kernel
theorem d_M_compute_340 : decode b_M_compute 340 = .ok (.getfield 16, 3) := by decide +kernel
theorem d_M_compute_343 : decode b_M_compute 343 = .ok (.getfield 87, 3) := by decide +kernel
theorem d_M_compute_346 : decode b_M_compute 346 = .ok (.iconst 4, 1) := by decide +kernel
theorem d_M_compute_347 : decode b_M_compute 347 = .ok (.iload 5, 2) := by decide +kernel
theorem d_M_compute_349 : decode b_M_compute 349 = .ok (.imul, 1) := by decide +kernel
theorem d_M_compute_350 : decode b_M_compute 350 = .ok (.iadd, 1) := by decide +kernel
theorem d_M_compute_351 : decode b_M_compute 351 = .ok (.invokestatic 133, 3) := by decide +kernel
theorem d_M_compute_354 : decode b_M_compute 354 = .ok (.ireturn, 1) := by decide +kernel
theorem d_M_compute_355 : decode b_M_compute 355 = .ok (.aload_n 0, 1) := by decide +kernel
theorem d_M_compute_356 : decode b_M_compute 356 = .ok (.aload_n 2, 1) := by decide +kernel
theorem d_M_compute_357 : decode b_M_compute 357 = .ok (.invokevirtual 161, 3) := by decide +kernel
theorem d_M_compute_360 : decode b_M_compute 360 = .ok (.ireturn, 1) := by decide +kernel
theorem d_M_compute_361 : decode b_M_compute 361 = .ok (.bipush 8, 2) := by decide +kernel
theorem d_M_compute_363 : decode b_M_compute 363 = .ok (.ireturn, 1) := by decide +kernel
theorem d_M_copy_0 : decode b_M_copy 0 = .ok (.aload_n 0, 1) := by decide +kernel
theorem d_M_copy_1 : decode b_M_copy 1 = .ok (.aload_n 1, 1) := by decide +kernel
theorem d_M_copy_2 : decode b_M_copy 2 = .ok (.invokevirtual 79, 3) := by decide +kernel
theorem d_M_copy_5 : decode b_M_copy 5 = .ok (.iconst 0, 1) := by decide +kernel
theorem d_M_copy_6 : decode b_M_copy 6 = .ok (.ireturn, 1) := by decide +kernel
theorem d_M_grant_0 : decode b_M_grant 0 = .ok (.iload_n 1, 1) := by decide +kernel
theorem d_M_grant_1 : decode b_M_grant 1 = .ok (.ifCond .lt 13, 3) := by decide +kernel
theorem d_M_grant_4 : decode b_M_grant 4 = .ok (.iload_n 1, 1) := by decide +kernel
theorem d_M_grant_5 : decode b_M_grant 5 = .ok (.bipush 9, 2) := by decide +kernel
theorem d_M_grant_7 : decode b_M_grant 7 = .ok (.if_icmp .gt 7, 3) := by decide +kernel
theorem d_M_grant_10 : decode b_M_grant 10 = .ok (.iconst 1, 1) := by decide +kernel
theorem d_M_grant_11 : decode b_M_grant 11 = .ok (.goto 4, 3) := by decide +kernel
theorem d_M_grant_14 : decode b_M_grant 14 = .ok (.iconst 0, 1) := by decide +kernel
theorem d_M_grant_15 : decode b_M_grant 15 = .ok (.istore 6, 2) := by decide +kernel
theorem d_M_grant_17 : decode b_M_grant 17 = .ok (.iload_n 2, 1) := by decide +kernel
theorem d_M_grant_18 : decode b_M_grant 18 = .ok (.ifCond .lt 19, 3) := by decide +kernel
theorem d_M_grant_21 : decode b_M_grant 21 = .ok (.iload_n 2, 1) := by decide +kernel
theorem d_M_grant_22 : decode b_M_grant 22 = .ok (.iload_n 3, 1) := by decide +kernel
theorem d_M_grant_23 : decode b_M_grant 23 = .ok (.if_icmp .gt 14, 3) := by decide +kernel
theorem d_M_grant_26 : decode b_M_grant 26 = .ok (.iload_n 3, 1) := by decide +kernel
theorem d_M_grant_27 : decode b_M_grant 27 = .ok (.sipush 512, 3) := by decide +kernel
theorem d_M_grant_30 : decode b_M_grant 30 = .ok (.if_icmp .gt 7, 3) := by decide +kernel
theorem d_M_grant_33 : decode b_M_grant 33 = .ok (.iconst 1, 1) := by decide +kernel
theorem d_M_grant_34 : decode b_M_grant 34 = .ok (.goto 4, 3) := by decide +kernel
theorem d_M_grant_37 : decode b_M_grant 37 = .ok (.iconst 0, 1) := by decide +kernel
theorem d_M_grant_38 : decode b_M_grant 38 = .ok (.istore 7, 2) := by decide +kernel
theorem d_M_grant_40 : decode b_M_grant 40 = .ok (.iload 5, 2) := by decide +kernel
theorem d_M_grant_42 : decode b_M_grant 42 = .ok (.ifCond .lt 15, 3) := by decide +kernel
theorem d_M_grant_45 : decode b_M_grant 45 = .ok (.iload 5, 2) := by decide +kernel
theorem d_M_grant_47 : decode b_M_grant 47 = .ok (.sipush 255, 3) := by decide +kernel
theorem d_M_grant_50 : decode b_M_grant 50 = .ok (.if_icmp .gt 7, 3) := by decide +kernel
theorem d_M_grant_53 : decode b_M_grant 53 = .ok (.iconst 1, 1) := by decide +kernel
theorem d_M_grant_54 : decode b_M_grant 54 = .ok (.goto 4, 3) := by decide +kernel
theorem d_M_grant_57 : decode b_M_grant 57 = .ok (.iconst 0, 1) := by decide +kernel
theorem d_M_grant_58 : decode b_M_grant 58 = .ok (.istore 8, 2) := by decide +kernel
theorem d_M_grant_60 : decode b_M_grant 60 = .ok (.iload 6, 2) := by decide +kernel
theorem d_M_grant_62 : decode b_M_grant 62 = .ok (.ifCond .eq 13, 3) := by decide +kernel
theorem d_M_grant_65 : decode b_M_grant 65 = .ok (.iload 7, 2) := by decide +kernel
theorem d_M_grant_67 : decode b_M_grant 67 = .ok (.ifCond .eq 8, 3) := by decide +kernel
theorem d_M_grant_70 : decode b_M_grant 70 = .ok (.iload 8, 2) := by decide +kernel
theorem d_M_grant_72 : decode b_M_grant 72 = .ok (.ifCond .ne 11, 3) := by decide +kernel
theorem d_M_grant_75 : decode b_M_grant 75 = .ok (.new 47, 3) := by decide +kernel
theorem d_M_grant_78 : decode b_M_grant 78 = .ok (.dup, 1) := by decide +kernel
theorem d_M_grant_79 : decode b_M_grant 79 = .ok (.invokespecial 49, 3) := by decide +kernel
theorem d_M_grant_82 : decode b_M_grant 82 = .ok (.athrow, 1) := by decide +kernel
theorem d_M_grant_83 : decode b_M_grant 83 = .ok (.aload_n 0, 1) := by decide +kernel
theorem d_M_grant_84 : decode b_M_grant 84 = .ok (.getfield 11, 3) := by decide +kernel
theorem d_M_grant_87 : decode b_M_grant 87 = .ok (.iload_n 1, 1) := by decide +kernel
theorem d_M_grant_88 : decode b_M_grant 88 = .ok (.aaload, 1) := by decide +kernel
theorem d_M_grant_89 : decode b_M_grant 89 = .ok (.iload_n 2, 1) := by decide +kernel
theorem d_M_grant_90 : decode b_M_grant 90 = .ok (.iload_n 3, 1) := by decide +kernel
theorem d_M_grant_91 : decode b_M_grant 91 = .ok (.iload 4, 2) := by decide +kernel
theorem d_M_grant_93 : decode b_M_grant 93 = .ok (.iload 5, 2) := by decide +kernel
theorem d_M_grant_95 : decode b_M_grant 95 = .ok (.invokevirtual 36, 3) := by decide +kernel
theorem d_M_grant_98 : decode b_M_grant 98 = .ok (.aload_n 0, 1) := by decide +kernel
theorem d_M_grant_99 : decode b_M_grant 99 = .ok (.iconst 0, 1) := by decide +kernel
theorem d_M_grant_100 : decode b_M_grant 100 = .ok (.putfield 40, 3) := by decide +kernel
theorem d_M_grant_103 : decode b_M_grant 103 = .ok (.return_, 1) := by decide +kernel
theorem d_M_init_0 : decode b_M_init 0 = .ok (.aload_n 0, 1) := by decide +kernel
theorem d_M_init_1 : decode b_M_init 1 = .ok (.invokespecial 1, 3) := by decide +kernel
theorem d_M_init_4 : decode b_M_init 4 = .ok (.aload_n 0, 1) := by decide +kernel
theorem d_M_init_5 : decode b_M_init 5 = .ok (.bipush 11, 2) := by decide +kernel
theorem d_M_init_7 : decode b_M_init 7 = .ok (.anewarray 9, 3) := by decide +kernel
theorem d_M_init_10 : decode b_M_init 10 = .ok (.putfield 11, 3) := by decide +kernel
theorem d_M_init_13 : decode b_M_init 13 = .ok (.iconst 0, 1) := by decide +kernel
theorem d_M_init_14 : decode b_M_init 14 = .ok (.istore_n 1, 1) := by decide +kernel
theorem d_M_init_15 : decode b_M_init 15 = .ok (.iload_n 1, 1) := by decide +kernel
theorem d_M_init_16 : decode b_M_init 16 = .ok (.bipush 11, 2) := by decide +kernel
theorem d_M_init_18 : decode b_M_init 18 = .ok (.if_icmp .ge 22, 3) := by decide +kernel
theorem d_M_init_21 : decode b_M_init 21 = .ok (.aload_n 0, 1) := by decide +kernel
theorem d_M_init_22 : decode b_M_init 22 = .ok (.getfield 11, 3) := by decide +kernel
theorem d_M_init_25 : decode b_M_init 25 = .ok (.iload_n 1, 1) := by decide +kernel
theorem d_M_init_26 : decode b_M_init 26 = .ok (.new 9, 3) := by decide +kernel
theorem d_M_init_29 : decode b_M_init 29 = .ok (.dup, 1) := by decide +kernel
theorem d_M_init_30 : decode b_M_init 30 = .ok (.invokespecial 15, 3) := by decide +kernel
theorem d_M_init_33 : decode b_M_init 33 = .ok (.aastore, 1) := by decide +kernel
theorem d_M_init_34 : decode b_M_init 34 = .ok (.iinc 1 1, 3) := by decide +kernel
theorem d_M_init_37 : decode b_M_init 37 = .ok (.goto (-22), 3) := by decide +kernel
theorem d_M_init_40 : decode b_M_init 40 = .ok (.aload_n 0, 1) := by decide +kernel
theorem d_M_init_41 : decode b_M_init 41 = .ok (.aload_n 0, 1) := by decide +kernel
theorem d_M_init_42 : decode b_M_init 42 = .ok (.getfield 11, 3) := by decide +kernel
theorem d_M_init_45 : decode b_M_init 45 = .ok (.bipush 8, 2) := by decide +kernel
theorem d_M_init_47 : decode b_M_init 47 = .ok (.aaload, 1) := by decide +kernel
theorem d_M_init_48 : decode b_M_init 48 = .ok (.putfield 16, 3) := by decide +kernel
theorem d_M_init_51 : decode b_M_init 51 = .ok (.aload_n 0, 1) := by decide +kernel
theorem d_M_init_52 : decode b_M_init 52 = .ok (.aload_n 0, 1) := by decide +kernel
theorem d_M_init_53 : decode b_M_init 53 = .ok (.getfield 11, 3) := by decide +kernel
theorem d_M_init_56 : decode b_M_init 56 = .ok (.bipush 9, 2) := by decide +kernel
theorem d_M_init_58 : decode b_M_init 58 = .ok (.aaload, 1) := by decide +kernel
theorem d_M_init_59 : decode b_M_init 59 = .ok (.putfield 20, 3) := by decide +kernel
theorem d_M_init_62 : decode b_M_init 62 = .ok (.aload_n 0, 1) := by decide +kernel
theorem d_M_init_63 : decode b_M_init 63 = .ok (.aload_n 0, 1) := by decide +kernel
theorem d_M_init_64 : decode b_M_init 64 = .ok (.getfield 11, 3) := by decide +kernel
theorem d_M_init_67 : decode b_M_init 67 = .ok (.bipush 10, 2) := by decide +kernel
theorem d_M_init_69 : decode b_M_init 69 = .ok (.aaload, 1) := by decide +kernel
theorem d_M_init_70 : decode b_M_init 70 = .ok (.putfield 23, 3) := by decide +kernel
theorem d_M_init_73 : decode b_M_init 73 = .ok (.aload_n 0, 1) := by decide +kernel
theorem d_M_init_74 : decode b_M_init 74 = .ok (.new 9, 3) := by decide +kernel
theorem d_M_init_77 : decode b_M_init 77 = .ok (.dup, 1) := by decide +kernel
theorem d_M_init_78 : decode b_M_init 78 = .ok (.invokespecial 15, 3) := by decide +kernel
theorem d_M_init_81 : decode b_M_init 81 = .ok (.putfield 26, 3) := by decide +kernel
theorem d_M_init_84 : decode b_M_init 84 = .ok (.aload_n 0, 1) := by decide +kernel
theorem d_M_init_85 : decode b_M_init 85 = .ok (.new 29, 3) := by decide +kernel
theorem d_M_init_88 : decode b_M_init 88 = .ok (.dup, 1) := by decide +kernel
theorem d_M_init_89 : decode b_M_init 89 = .ok (.invokespecial 31, 3) := by decide +kernel
theorem d_M_init_92 : decode b_M_init 92 = .ok (.putfield 32, 3) := by decide +kernel
theorem d_M_init_95 : decode b_M_init 95 = .ok (.aload_n 0, 1) := by decide +kernel
theorem d_M_init_96 : decode b_M_init 96 = .ok (.getfield 16, 3) := by decide +kernel
theorem d_M_init_99 : decode b_M_init 99 = .ok (.iconst 0, 1) := by decide +kernel
theorem d_M_init_100 : decode b_M_init 100 = .ok (.sipush 512, 3) := by decide +kernel
theorem d_M_init_103 : decode b_M_init 103 = .ok (.iconst 0, 1) := by decide +kernel
theorem d_M_init_104 : decode b_M_init 104 = .ok (.sipush 255, 3) := by decide +kernel
theorem d_M_init_107 : decode b_M_init 107 = .ok (.invokevirtual 36, 3) := by decide +kernel
theorem d_M_init_110 : decode b_M_init 110 = .ok (.aload_n 0, 1) := by decide +kernel
theorem d_M_init_111 : decode b_M_init 111 = .ok (.getfield 11, 3) := by decide +kernel
theorem d_M_init_114 : decode b_M_init 114 = .ok (.iconst 1, 1) := by decide +kernel
theorem d_M_init_115 : decode b_M_init 115 = .ok (.aaload, 1) := by decide +kernel
theorem d_M_init_116 : decode b_M_init 116 = .ok (.iconst 0, 1) := by decide +kernel
theorem d_M_init_117 : decode b_M_init 117 = .ok (.sipush 512, 3) := by decide +kernel
theorem d_M_init_120 : decode b_M_init 120 = .ok (.iconst 0, 1) := by decide +kernel
theorem d_M_init_121 : decode b_M_init 121 = .ok (.sipush 255, 3) := by decide +kernel
theorem d_M_init_124 : decode b_M_init 124 = .ok (.invokevirtual 36, 3) := by decide +kernel
theorem d_M_init_127 : decode b_M_init 127 = .ok (.aload_n 0, 1) := by decide +kernel
theorem d_M_init_128 : decode b_M_init 128 = .ok (.iconst 0, 1) := by decide +kernel
theorem d_M_init_129 : decode b_M_init 129 = .ok (.putfield 40, 3) := by decide +kernel
theorem d_M_init_132 : decode b_M_init 132 = .ok (.aload_n 0, 1) := by decide +kernel
theorem d_M_init_133 : decode b_M_init 133 = .ok (.iconst 0, 1) := by decide +kernel
theorem d_M_init_134 : decode b_M_init 134 = .ok (.putfield 44, 3) := by decide +kernel
theorem d_M_init_137 : decode b_M_init 137 = .ok (.return_, 1) := by decide +kernel
theorem d_M_jump_0 : decode b_M_jump 0 = .ok (.aload_n 2, 1) := by decide +kernel
theorem d_M_jump_1 : decode b_M_jump 1 = .ok (.getfield 83, 3) := by decide +kernel
theorem d_M_jump_4 : decode b_M_jump 4 = .ok (.ifCond .ne 5, 3) := by decide +kernel
theorem d_M_jump_7 : decode b_M_jump 7 = .ok (.iconst 1, 1) := by decide +kernel
theorem d_M_jump_8 : decode b_M_jump 8 = .ok (.ireturn, 1) := by decide +kernel
theorem d_M_jump_9 : decode b_M_jump 9 = .ok (.aload_n 2, 1) := by decide +kernel
theorem d_M_jump_10 : decode b_M_jump 10 = .ok (.getfield 115, 3) := by decide +kernel
theorem d_M_jump_13 : decode b_M_jump 13 = .ok (.iconst 1, 1) := by decide +kernel
theorem d_M_jump_14 : decode b_M_jump 14 = .ok (.if_icmp .le 5, 3) := by decide +kernel
theorem d_M_jump_17 : decode b_M_jump 17 = .ok (.iconst 2, 1) := by decide +kernel
theorem d_M_jump_18 : decode b_M_jump 18 = .ok (.ireturn, 1) := by decide +kernel
theorem d_M_jump_19 : decode b_M_jump 19 = .ok (.aload_n 2, 1) := by decide +kernel
theorem d_M_jump_20 : decode b_M_jump 20 = .ok (.iconst 4, 1) := by decide +kernel
theorem d_M_jump_21 : decode b_M_jump 21 = .ok (.invokevirtual 118, 3) := by decide +kernel
theorem d_M_jump_24 : decode b_M_jump 24 = .ok (.ifCond .ne 5, 3) := by decide +kernel
theorem d_M_jump_27 : decode b_M_jump 27 = .ok (.iconst 3, 1) := by decide +kernel
theorem d_M_jump_28 : decode b_M_jump 28 = .ok (.ireturn, 1) := by decide +kernel
theorem d_M_jump_29 : decode b_M_jump 29 = .ok (.aload_n 0, 1) := by decide +kernel
theorem d_M_jump_30 : decode b_M_jump 30 = .ok (.getfield 26, 3) := by decide +kernel
theorem d_M_jump_33 : decode b_M_jump 33 = .ok (.aload_n 0, 1) := by decide +kernel
theorem d_M_jump_34 : decode b_M_jump 34 = .ok (.getfield 16, 3) := by decide +kernel
theorem d_M_jump_37 : decode b_M_jump 37 = .ok (.invokevirtual 79, 3) := by decide +kernel
theorem d_M_jump_40 : decode b_M_jump 40 = .ok (.aload_n 0, 1) := by decide +kernel
theorem d_M_jump_41 : decode b_M_jump 41 = .ok (.getfield 26, 3) := by decide +kernel
theorem d_M_jump_44 : decode b_M_jump 44 = .ok (.aload_n 0, 1) := by decide +kernel
theorem d_M_jump_45 : decode b_M_jump 45 = .ok (.getfield 16, 3) := by decide +kernel
theorem d_M_jump_48 : decode b_M_jump 48 = .ok (.getfield 87, 3) := by decide +kernel
theorem d_M_jump_51 : decode b_M_jump 51 = .ok (.iconst 4, 1) := by decide +kernel
theorem d_M_jump_52 : decode b_M_jump 52 = .ok (.iadd, 1) := by decide +kernel
theorem d_M_jump_53 : decode b_M_jump 53 = .ok (.invokevirtual 112, 3) := by decide +kernel
theorem d_M_jump_56 : decode b_M_jump 56 = .ok (.aload_n 0, 1) := by decide +kernel
theorem d_M_jump_57 : decode b_M_jump 57 = .ok (.getfield 26, 3) := by decide +kernel
theorem d_M_jump_60 : decode b_M_jump 60 = .ok (.iconst 1, 1) := by decide +kernel
theorem d_M_jump_61 : decode b_M_jump 61 = .ok (.putfield 115, 3) := by decide +kernel
theorem d_M_jump_64 : decode b_M_jump 64 = .ok (.aload_n 0, 1) := by decide +kernel
theorem d_M_jump_65 : decode b_M_jump 65 = .ok (.getfield 16, 3) := by decide +kernel
theorem d_M_jump_68 : decode b_M_jump 68 = .ok (.aload_n 2, 1) := by decide +kernel
theorem d_M_jump_69 : decode b_M_jump 69 = .ok (.invokevirtual 79, 3) := by decide +kernel
theorem d_M_jump_72 : decode b_M_jump 72 = .ok (.aload_n 0, 1) := by decide +kernel
theorem d_M_jump_73 : decode b_M_jump 73 = .ok (.getfield 16, 3) := by decide +kernel
theorem d_M_jump_76 : decode b_M_jump 76 = .ok (.iconst 0, 1) := by decide +kernel
theorem d_M_jump_77 : decode b_M_jump 77 = .ok (.putfield 115, 3) := by decide +kernel
theorem d_M_jump_80 : decode b_M_jump 80 = .ok (.aload_n 1, 1) := by decide +kernel
theorem d_M_jump_81 : decode b_M_jump 81 = .ok (.aload_n 0, 1) := by decide +kernel
theorem d_M_jump_82 : decode b_M_jump 82 = .ok (.getfield 26, 3) := by decide +kernel
theorem d_M_jump_85 : decode b_M_jump 85 = .ok (.invokevirtual 79, 3) := by decide +kernel
theorem d_M_jump_88 : decode b_M_jump 88 = .ok (.iconst 0, 1) := by decide +kernel
theorem d_M_jump_89 : decode b_M_jump 89 = .ok (.ireturn, 1) := by decide +kernel
theorem d_M_look_0 : decode b_M_look 0 = .ok (.iload_n 1, 1) := by decide +kernel
theorem d_M_look_1 : decode b_M_look 1 = .ok (.ifCond .lt 18, 3) := by decide +kernel
theorem d_M_look_4 : decode b_M_look 4 = .ok (.iload_n 1, 1) := by decide +kernel
theorem d_M_look_5 : decode b_M_look 5 = .ok (.bipush 11, 2) := by decide +kernel
theorem d_M_look_7 : decode b_M_look 7 = .ok (.if_icmp .ge 12, 3) := by decide +kernel
theorem d_M_look_10 : decode b_M_look 10 = .ok (.iload_n 2, 1) := by decide +kernel
theorem d_M_look_11 : decode b_M_look 11 = .ok (.ifCond .lt 8, 3) := by decide +kernel
theorem d_M_look_14 : decode b_M_look 14 = .ok (.iload_n 2, 1) := by decide +kernel
theorem d_M_look_15 : decode b_M_look 15 = .ok (.iconst 5, 1) := by decide +kernel
theorem d_M_look_16 : decode b_M_look 16 = .ok (.if_icmp .le 11, 3) := by decide +kernel
theorem d_M_look_19 : decode b_M_look 19 = .ok (.new 47, 3) := by decide +kernel
theorem d_M_look_22 : decode b_M_look 22 = .ok (.dup, 1) := by decide +kernel
theorem d_M_look_23 : decode b_M_look 23 = .ok (.invokespecial 49, 3) := by decide +kernel
theorem d_M_look_26 : decode b_M_look 26 = .ok (.athrow, 1) := by decide +kernel
theorem d_M_look_27 : decode b_M_look 27 = .ok (.aload_n 0, 1) := by decide +kernel
theorem d_M_look_28 : decode b_M_look 28 = .ok (.getfield 11, 3) := by decide +kernel
theorem d_M_look_31 : decode b_M_look 31 = .ok (.iload_n 1, 1) := by decide +kernel
theorem d_M_look_32 : decode b_M_look 32 = .ok (.aaload, 1) := by decide +kernel
theorem d_M_look_33 : decode b_M_look 33 = .ok (.iload_n 2, 1) := by decide +kernel
theorem d_M_look_34 : decode b_M_look 34 = .ok (.invokevirtual 68, 3) := by decide +kernel
theorem d_M_look_37 : decode b_M_look 37 = .ok (.ireturn, 1) := by decide +kernel
theorem d_M_makeEntry_0 : decode b_M_makeEntry 0 = .ok (.aload_n 1, 1) := by decide +kernel
theorem d_M_makeEntry_1 : decode b_M_makeEntry 1 = .ok (.getfield 83, 3) := by decide +kernel
theorem d_M_makeEntry_4 : decode b_M_makeEntry 4 = .ok (.ifCond .ne 5, 3) := by decide +kernel
theorem d_M_makeEntry_7 : decode b_M_makeEntry 7 = .ok (.iconst 1, 1) := by decide +kernel
theorem d_M_makeEntry_8 : decode b_M_makeEntry 8 = .ok (.ireturn, 1) := by decide +kernel
theorem d_M_makeEntry_9 : decode b_M_makeEntry 9 = .ok (.aload_n 1, 1) := by decide +kernel
theorem d_M_makeEntry_10 : decode b_M_makeEntry 10 = .ok (.getfield 115, 3) := by decide +kernel
theorem d_M_makeEntry_13 : decode b_M_makeEntry 13 = .ok (.ifCond .eq 5, 3) := by decide +kernel
theorem d_M_makeEntry_16 : decode b_M_makeEntry 16 = .ok (.iconst 2, 1) := by decide +kernel
theorem d_M_makeEntry_17 : decode b_M_makeEntry 17 = .ok (.ireturn, 1) := by decide +kernel
theorem d_M_makeEntry_18 : decode b_M_makeEntry 18 = .ok (.aload_n 1, 1) := by decide +kernel
theorem d_M_makeEntry_19 : decode b_M_makeEntry 19 = .ok (.iconst 4, 1) := by decide +kernel
theorem d_M_makeEntry_20 : decode b_M_makeEntry 20 = .ok (.invokevirtual 118, 3) := by decide +kernel
theorem d_M_makeEntry_23 : decode b_M_makeEntry 23 = .ok (.ifCond .ne 5, 3) := by decide +kernel
theorem d_M_makeEntry_26 : decode b_M_makeEntry 26 = .ok (.iconst 3, 1) := by decide +kernel
theorem d_M_makeEntry_27 : decode b_M_makeEntry 27 = .ok (.ireturn, 1) := by decide +kernel
theorem d_M_makeEntry_28 : decode b_M_makeEntry 28 = .ok (.aload_n 0, 1) := by decide +kernel
theorem d_M_makeEntry_29 : decode b_M_makeEntry 29 = .ok (.aload_n 1, 1) := by decide +kernel
theorem d_M_makeEntry_30 : decode b_M_makeEntry 30 = .ok (.invokevirtual 79, 3) := by decide +kernel
theorem d_M_makeEntry_33 : decode b_M_makeEntry 33 = .ok (.aload_n 0, 1) := by decide +kernel
theorem d_M_makeEntry_34 : decode b_M_makeEntry 34 = .ok (.iconst 1, 1) := by decide +kernel
theorem d_M_makeEntry_35 : decode b_M_makeEntry 35 = .ok (.putfield 115, 3) := by decide +kernel
theorem d_M_makeEntry_38 : decode b_M_makeEntry 38 = .ok (.iconst 0, 1) := by decide +kernel
theorem d_M_makeEntry_39 : decode b_M_makeEntry 39 = .ok (.ireturn, 1) := by decide +kernel
theorem d_M_multipleNotAbove_0 : decode b_M_multipleNotAbove 0 = .ok (.iload_n 0, 1) := by decide +kernel
theorem d_M_multipleNotAbove_1 : decode b_M_multipleNotAbove 1 = .ok (.bipush 8, 2) := by decide +kernel
theorem d_M_multipleNotAbove_3 : decode b_M_multipleNotAbove 3 = .ok (.idiv, 1) := by decide +kernel
theorem d_M_multipleNotAbove_4 : decode b_M_multipleNotAbove 4 = .ok (.bipush 8, 2) := by decide +kernel
theorem d_M_multipleNotAbove_6 : decode b_M_multipleNotAbove 6 = .ok (.imul, 1) := by decide +kernel
theorem d_M_multipleNotAbove_7 : decode b_M_multipleNotAbove 7 = .ok (.ireturn, 1) := by decide +kernel
theorem d_M_multipleNotBelow_0 : decode b_M_multipleNotBelow 0 = .ok (.iload_n 0, 1) := by decide +kernel
theorem d_M_multipleNotBelow_1 : decode b_M_multipleNotBelow 1 = .ok (.bipush 8, 2) := by decide +kernel
theorem d_M_multipleNotBelow_3 : decode b_M_multipleNotBelow 3 = .ok (.iadd, 1) := by decide +kernel
theorem d_M_multipleNotBelow_4 : decode b_M_multipleNotBelow 4 = .ok (.iconst 1, 1) := by decide +kernel
theorem d_M_multipleNotBelow_5 : decode b_M_multipleNotBelow 5 = .ok (.isub, 1) := by decide +kernel
theorem d_M_multipleNotBelow_6 : decode b_M_multipleNotBelow 6 = .ok (.invokestatic 178, 3) := by decide +kernel
theorem d_M_multipleNotBelow_9 : decode b_M_multipleNotBelow 9 = .ok (.ireturn, 1) := by decide +kernel
theorem d_M_number_0 : decode b_M_number 0 = .ok (.aload_n 0, 1) := by decide +kernel
theorem d_M_number_1 : decode b_M_number 1 = .ok (.iload_n 1, 1) := by decide +kernel
theorem d_M_number_2 : decode b_M_number 2 = .ok (.invokevirtual 102, 3) := by decide +kernel
theorem d_M_number_5 : decode b_M_number 5 = .ok (.iconst 0, 1) := by decide +kernel
theorem d_M_number_6 : decode b_M_number 6 = .ok (.ireturn, 1) := by decide +kernel
theorem d_M_peek_0 : decode b_M_peek 0 = .ok (.iload_n 1, 1) := by decide +kernel
theorem d_M_peek_1 : decode b_M_peek 1 = .ok (.ifCond .lt 10, 3) := by decide +kernel
theorem d_M_peek_4 : decode b_M_peek 4 = .ok (.iload_n 1, 1) := by decide +kernel
theorem d_M_peek_5 : decode b_M_peek 5 = .ok (.sipush 512, 3) := by decide +kernel
theorem d_M_peek_8 : decode b_M_peek 8 = .ok (.if_icmp .lt 11, 3) := by decide +kernel
theorem d_M_peek_11 : decode b_M_peek 11 = .ok (.new 47, 3) := by decide +kernel
theorem d_M_peek_14 : decode b_M_peek 14 = .ok (.dup, 1) := by decide +kernel
theorem d_M_peek_15 : decode b_M_peek 15 = .ok (.invokespecial 49, 3) := by decide +kernel
theorem d_M_peek_18 : decode b_M_peek 18 = .ok (.athrow, 1) := by decide +kernel
theorem d_M_peek_19 : decode b_M_peek 19 = .ok (.aload_n 0, 1) := by decide +kernel
theorem d_M_peek_20 : decode b_M_peek 20 = .ok (.getfield 32, 3) := by decide +kernel
theorem d_M_peek_23 : decode b_M_peek 23 = .ok (.iload_n 1, 1) := by decide +kernel
theorem d_M_peek_24 : decode b_M_peek 24 = .ok (.invokevirtual 72, 3) := by decide +kernel
theorem d_M_peek_27 : decode b_M_peek 27 = .ok (.ireturn, 1) := by decide +kernel
theorem d_M_permissionsFor_0 : decode b_M_permissionsFor 0 = .ok (.iload_n 0, 1) := by decide +kernel
theorem d_M_permissionsFor_1 : decode b_M_permissionsFor 1 = .ok (.tableswitch 58 17 22 #[39, 39, 41, 58, 58, 44], 39) := by decide +kernel
theorem d_M_permissionsFor_40 : decode b_M_permissionsFor 40 = .ok (.iconst 1, 1) := by decide +kernel
theorem d_M_permissionsFor_41 : decode b_M_permissionsFor 41 = .ok (.ireturn, 1) := by decide +kernel
theorem d_M_permissionsFor_42 : decode b_M_permissionsFor 42 = .ok (.bipush 9, 2) := by decide +kernel
theorem d_M_permissionsFor_44 : decode b_M_permissionsFor 44 = .ok (.ireturn, 1) := by decide +kernel
theorem d_M_permissionsFor_45 : decode b_M_permissionsFor 45 = .ok (.aload_n 1, 1) := by decide +kernel
theorem d_M_permissionsFor_46 : decode b_M_permissionsFor 46 = .ok (.getfield 83, 3) := by decide +kernel
theorem d_M_permissionsFor_49 : decode b_M_permissionsFor 49 = .ok (.ifCond .eq 8, 3) := by decide +kernel
theorem d_M_permissionsFor_52 : decode b_M_permissionsFor 52 = .ok (.bipush 18, 2) := by decide +kernel
theorem d_M_permissionsFor_54 : decode b_M_permissionsFor 54 = .ok (.goto 4, 3) := by decide +kernel
theorem d_M_permissionsFor_57 : decode b_M_permissionsFor 57 = .ok (.iconst 2, 1) := by decide +kernel
theorem d_M_permissionsFor_58 : decode b_M_permissionsFor 58 = .ok (.ireturn, 1) := by decide +kernel
theorem d_M_permissionsFor_59 : decode b_M_permissionsFor 59 = .ok (.iconst 2, 1) := by decide +kernel
theorem d_M_permissionsFor_60 : decode b_M_permissionsFor 60 = .ok (.ireturn, 1) := by decide +kernel
theorem d_M_poke_0 : decode b_M_poke 0 = .ok (.iload_n 3, 1) := by decide +kernel
theorem d_M_poke_1 : decode b_M_poke 1 = .ok (.iconst 1, 1) := by decide +kernel
theorem d_M_poke_2 : decode b_M_poke 2 = .ok (.if_icmp .lt 21, 3) := by decide +kernel
theorem d_M_poke_5 : decode b_M_poke 5 = .ok (.iload_n 3, 1) := by decide +kernel
theorem d_M_poke_6 : decode b_M_poke 6 = .ok (.iconst 4, 1) := by decide +kernel
theorem d_M_poke_7 : decode b_M_poke 7 = .ok (.if_icmp .gt 16, 3) := by decide +kernel
theorem d_M_poke_10 : decode b_M_poke 10 = .ok (.iload_n 1, 1) := by decide +kernel
theorem d_M_poke_11 : decode b_M_poke 11 = .ok (.ifCond .lt 12, 3) := by decide +kernel
theorem d_M_poke_14 : decode b_M_poke 14 = .ok (.iload_n 1, 1) := by decide +kernel
theorem d_M_poke_15 : decode b_M_poke 15 = .ok (.sipush 512, 3) := by decide +kernel
theorem d_M_poke_18 : decode b_M_poke 18 = .ok (.iload_n 3, 1) := by decide +kernel
theorem d_M_poke_19 : decode b_M_poke 19 = .ok (.isub, 1) := by decide +kernel
theorem d_M_poke_20 : decode b_M_poke 20 = .ok (.if_icmp .le 11, 3) := by decide +kernel
theorem d_M_poke_23 : decode b_M_poke 23 = .ok (.new 47, 3) := by decide +kernel
theorem d_M_poke_26 : decode b_M_poke 26 = .ok (.dup, 1) := by decide +kernel
theorem d_M_poke_27 : decode b_M_poke 27 = .ok (.invokespecial 49, 3) := by decide +kernel
theorem d_M_poke_30 : decode b_M_poke 30 = .ok (.athrow, 1) := by decide +kernel
theorem d_M_poke_31 : decode b_M_poke 31 = .ok (.aload_n 0, 1) := by decide +kernel
theorem d_M_poke_32 : decode b_M_poke 32 = .ok (.getfield 32, 3) := by decide +kernel
theorem d_M_poke_35 : decode b_M_poke 35 = .ok (.iload_n 1, 1) := by decide +kernel
theorem d_M_poke_36 : decode b_M_poke 36 = .ok (.iload_n 2, 1) := by decide +kernel
theorem d_M_poke_37 : decode b_M_poke 37 = .ok (.iload_n 3, 1) := by decide +kernel
theorem d_M_poke_38 : decode b_M_poke 38 = .ok (.invokevirtual 50, 3) := by decide +kernel
theorem d_M_poke_41 : decode b_M_poke 41 = .ok (.return_, 1) := by decide +kernel
theorem d_M_run_0 : decode b_M_run 0 = .ok (.iload_n 1, 1) := by decide +kernel
theorem d_M_run_1 : decode b_M_run 1 = .ok (.sipush 2000, 3) := by decide +kernel
theorem d_M_run_4 : decode b_M_run 4 = .ok (.invokestatic 54, 3) := by decide +kernel
theorem d_M_run_7 : decode b_M_run 7 = .ok (.istore_n 2, 1) := by decide +kernel
theorem d_M_run_8 : decode b_M_run 8 = .ok (.iconst 0, 1) := by decide +kernel
theorem d_M_run_9 : decode b_M_run 9 = .ok (.istore_n 3, 1) := by decide +kernel
theorem d_M_run_10 : decode b_M_run 10 = .ok (.iconst 1, 1) := by decide +kernel
theorem d_M_run_11 : decode b_M_run 11 = .ok (.istore 4, 2) := by decide +kernel
theorem d_M_run_13 : decode b_M_run 13 = .ok (.iload_n 3, 1) := by decide +kernel
theorem d_M_run_14 : decode b_M_run 14 = .ok (.iload_n 2, 1) := by decide +kernel
theorem d_M_run_15 : decode b_M_run 15 = .ok (.if_icmp .ge 41, 3) := by decide +kernel
theorem d_M_run_18 : decode b_M_run 18 = .ok (.iload 4, 2) := by decide +kernel
theorem d_M_run_20 : decode b_M_run 20 = .ok (.ifCond .eq 36, 3) := by decide +kernel
theorem d_M_run_23 : decode b_M_run 23 = .ok (.aload_n 0, 1) := by decide +kernel
theorem d_M_run_24 : decode b_M_run 24 = .ok (.getfield 40, 3) := by decide +kernel
theorem d_M_run_27 : decode b_M_run 27 = .ok (.ifCond .ne 29, 3) := by decide +kernel
theorem d_M_run_30 : decode b_M_run 30 = .ok (.aload_n 0, 1) := by decide +kernel
theorem d_M_run_31 : decode b_M_run 31 = .ok (.invokevirtual 60, 3) := by decide +kernel
theorem d_M_run_34 : decode b_M_run 34 = .ok (.istore 5, 2) := by decide +kernel
theorem d_M_run_36 : decode b_M_run 36 = .ok (.iinc 3 1, 3) := by decide +kernel
theorem d_M_run_39 : decode b_M_run 39 = .ok (.iload 5, 2) := by decide +kernel
theorem d_M_run_41 : decode b_M_run 41 = .ok (.ifCond .eq 12, 3) := by decide +kernel
theorem d_M_run_44 : decode b_M_run 44 = .ok (.aload_n 0, 1) := by decide +kernel
theorem d_M_run_45 : decode b_M_run 45 = .ok (.iload 5, 2) := by decide +kernel
theorem d_M_run_47 : decode b_M_run 47 = .ok (.invokevirtual 64, 3) := by decide +kernel
theorem d_M_run_50 : decode b_M_run 50 = .ok (.iconst 0, 1) := by decide +kernel
theorem d_M_run_51 : decode b_M_run 51 = .ok (.istore 4, 2) := by decide +kernel
theorem d_M_run_53 : decode b_M_run 53 = .ok (.goto (-40), 3) := by decide +kernel
theorem d_M_run_56 : decode b_M_run 56 = .ok (.iload_n 3, 1) := by decide +kernel
theorem d_M_run_57 : decode b_M_run 57 = .ok (.ireturn, 1) := by decide +kernel
theorem d_M_seal_0 : decode b_M_seal 0 = .ok (.aload_n 1, 1) := by decide +kernel
theorem d_M_seal_1 : decode b_M_seal 1 = .ok (.getfield 83, 3) := by decide +kernel
theorem d_M_seal_4 : decode b_M_seal 4 = .ok (.ifCond .eq 10, 3) := by decide +kernel
theorem d_M_seal_7 : decode b_M_seal 7 = .ok (.aload_n 2, 1) := by decide +kernel
theorem d_M_seal_8 : decode b_M_seal 8 = .ok (.getfield 83, 3) := by decide +kernel
theorem d_M_seal_11 : decode b_M_seal 11 = .ok (.ifCond .ne 5, 3) := by decide +kernel
theorem d_M_seal_14 : decode b_M_seal 14 = .ok (.iconst 1, 1) := by decide +kernel
theorem d_M_seal_15 : decode b_M_seal 15 = .ok (.ireturn, 1) := by decide +kernel
theorem d_M_seal_16 : decode b_M_seal 16 = .ok (.aload_n 1, 1) := by decide +kernel
theorem d_M_seal_17 : decode b_M_seal 17 = .ok (.getfield 115, 3) := by decide +kernel
theorem d_M_seal_20 : decode b_M_seal 20 = .ok (.ifCond .ne 10, 3) := by decide +kernel
theorem d_M_seal_23 : decode b_M_seal 23 = .ok (.aload_n 2, 1) := by decide +kernel
theorem d_M_seal_24 : decode b_M_seal 24 = .ok (.getfield 115, 3) := by decide +kernel
theorem d_M_seal_27 : decode b_M_seal 27 = .ok (.ifCond .eq 5, 3) := by decide +kernel
theorem d_M_seal_30 : decode b_M_seal 30 = .ok (.iconst 2, 1) := by decide +kernel
theorem d_M_seal_31 : decode b_M_seal 31 = .ok (.ireturn, 1) := by decide +kernel
theorem d_M_seal_32 : decode b_M_seal 32 = .ok (.aload_n 2, 1) := by decide +kernel
theorem d_M_seal_33 : decode b_M_seal 33 = .ok (.bipush 32, 2) := by decide +kernel
theorem d_M_seal_35 : decode b_M_seal 35 = .ok (.invokevirtual 118, 3) := by decide +kernel
theorem d_M_seal_38 : decode b_M_seal 38 = .ok (.ifCond .ne 5, 3) := by decide +kernel
theorem d_M_seal_41 : decode b_M_seal 41 = .ok (.iconst 3, 1) := by decide +kernel
theorem d_M_seal_42 : decode b_M_seal 42 = .ok (.ireturn, 1) := by decide +kernel
theorem d_M_seal_43 : decode b_M_seal 43 = .ok (.aload_n 2, 1) := by decide +kernel
theorem d_M_seal_44 : decode b_M_seal 44 = .ok (.invokevirtual 184, 3) := by decide +kernel
theorem d_M_seal_47 : decode b_M_seal 47 = .ok (.ifCond .ne 5, 3) := by decide +kernel
theorem d_M_seal_50 : decode b_M_seal 50 = .ok (.iconst 4, 1) := by decide +kernel
theorem d_M_seal_51 : decode b_M_seal 51 = .ok (.ireturn, 1) := by decide +kernel
theorem d_M_seal_52 : decode b_M_seal 52 = .ok (.aload_n 2, 1) := by decide +kernel
theorem d_M_seal_53 : decode b_M_seal 53 = .ok (.getfield 87, 3) := by decide +kernel
theorem d_M_seal_56 : decode b_M_seal 56 = .ok (.istore_n 3, 1) := by decide +kernel
theorem d_M_seal_57 : decode b_M_seal 57 = .ok (.iload_n 3, 1) := by decide +kernel
theorem d_M_seal_58 : decode b_M_seal 58 = .ok (.iconst 1, 1) := by decide +kernel
theorem d_M_seal_59 : decode b_M_seal 59 = .ok (.if_icmp .le 9, 3) := by decide +kernel
theorem d_M_seal_62 : decode b_M_seal 62 = .ok (.iload_n 3, 1) := by decide +kernel
theorem d_M_seal_63 : decode b_M_seal 63 = .ok (.bipush 15, 2) := by decide +kernel
theorem d_M_seal_65 : decode b_M_seal 65 = .ok (.if_icmp .le 6, 3) := by decide +kernel
theorem d_M_seal_68 : decode b_M_seal 68 = .ok (.bipush 7, 2) := by decide +kernel
theorem d_M_seal_70 : decode b_M_seal 70 = .ok (.ireturn, 1) := by decide +kernel
theorem d_M_seal_71 : decode b_M_seal 71 = .ok (.aload_n 0, 1) := by decide +kernel
theorem d_M_seal_72 : decode b_M_seal 72 = .ok (.aload_n 1, 1) := by decide +kernel
theorem d_M_seal_73 : decode b_M_seal 73 = .ok (.invokevirtual 79, 3) := by decide +kernel
theorem d_M_seal_76 : decode b_M_seal 76 = .ok (.aload_n 0, 1) := by decide +kernel
theorem d_M_seal_77 : decode b_M_seal 77 = .ok (.iload_n 3, 1) := by decide +kernel
theorem d_M_seal_78 : decode b_M_seal 78 = .ok (.putfield 115, 3) := by decide +kernel
theorem d_M_seal_81 : decode b_M_seal 81 = .ok (.iconst 0, 1) := by decide +kernel
theorem d_M_seal_82 : decode b_M_seal 82 = .ok (.ireturn, 1) := by decide +kernel
theorem d_M_setHandler_0 : decode b_M_setHandler 0 = .ok (.aload_n 1, 1) := by decide +kernel
theorem d_M_setHandler_1 : decode b_M_setHandler 1 = .ok (.getfield 83, 3) := by decide +kernel
theorem d_M_setHandler_4 : decode b_M_setHandler 4 = .ok (.ifCond .eq 26, 3) := by decide +kernel
theorem d_M_setHandler_7 : decode b_M_setHandler 7 = .ok (.aload_n 1, 1) := by decide +kernel
theorem d_M_setHandler_8 : decode b_M_setHandler 8 = .ok (.getfield 115, 3) := by decide +kernel
theorem d_M_setHandler_11 : decode b_M_setHandler 11 = .ok (.ifCond .ne 19, 3) := by decide +kernel
theorem d_M_setHandler_14 : decode b_M_setHandler 14 = .ok (.aload_n 1, 1) := by decide +kernel
theorem d_M_setHandler_15 : decode b_M_setHandler 15 = .ok (.iconst 4, 1) := by decide +kernel
theorem d_M_setHandler_16 : decode b_M_setHandler 16 = .ok (.invokevirtual 118, 3) := by decide +kernel
theorem d_M_setHandler_19 : decode b_M_setHandler 19 = .ok (.ifCond .eq 11, 3) := by decide +kernel
theorem d_M_setHandler_22 : decode b_M_setHandler 22 = .ok (.aload_n 0, 1) := by decide +kernel
theorem d_M_setHandler_23 : decode b_M_setHandler 23 = .ok (.getfield 20, 3) := by decide +kernel
theorem d_M_setHandler_26 : decode b_M_setHandler 26 = .ok (.aload_n 1, 1) := by decide +kernel
theorem d_M_setHandler_27 : decode b_M_setHandler 27 = .ok (.invokevirtual 79, 3) := by decide +kernel
theorem d_M_setHandler_30 : decode b_M_setHandler 30 = .ok (.iconst 0, 1) := by decide +kernel
theorem d_M_setHandler_31 : decode b_M_setHandler 31 = .ok (.ireturn, 1) := by decide +kernel
theorem d_M_state_0 : decode b_M_state 0 = .ok (.aload_n 0, 1) := by decide +kernel
theorem d_M_state_1 : decode b_M_state 1 = .ok (.getfield 40, 3) := by decide +kernel
theorem d_M_state_4 : decode b_M_state 4 = .ok (.ireturn, 1) := by decide +kernel
theorem d_M_step_0 : decode b_M_step 0 = .ok (.aload_n 0, 1) := by decide +kernel
theorem d_M_step_1 : decode b_M_step 1 = .ok (.getfield 16, 3) := by decide +kernel
theorem d_M_step_4 : decode b_M_step 4 = .ok (.getfield 87, 3) := by decide +kernel
theorem d_M_step_7 : decode b_M_step 7 = .ok (.istore_n 1, 1) := by decide +kernel
theorem d_M_step_8 : decode b_M_step 8 = .ok (.aload_n 0, 1) := by decide +kernel
theorem d_M_step_9 : decode b_M_step 9 = .ok (.getfield 16, 3) := by decide +kernel
theorem d_M_step_12 : decode b_M_step 12 = .ok (.iconst 4, 1) := by decide +kernel
theorem d_M_step_13 : decode b_M_step 13 = .ok (.iload_n 1, 1) := by decide +kernel
theorem d_M_step_14 : decode b_M_step 14 = .ok (.i2l, 1) := by decide +kernel
theorem d_M_step_15 : decode b_M_step 15 = .ok (.iconst 4, 1) := by decide +kernel
theorem d_M_step_16 : decode b_M_step 16 = .ok (.invokevirtual 90, 3) := by decide +kernel
theorem d_M_step_19 : decode b_M_step 19 = .ok (.istore_n 2, 1) := by decide +kernel
theorem d_M_step_20 : decode b_M_step 20 = .ok (.iload_n 2, 1) := by decide +kernel
theorem d_M_step_21 : decode b_M_step 21 = .ok (.ifCond .eq 5, 3) := by decide +kernel
theorem d_M_step_24 : decode b_M_step 24 = .ok (.iload_n 2, 1) := by decide +kernel
theorem d_M_step_25 : decode b_M_step 25 = .ok (.ireturn, 1) := by decide +kernel
theorem d_M_step_26 : decode b_M_step 26 = .ok (.aload_n 0, 1) := by decide +kernel
theorem d_M_step_27 : decode b_M_step 27 = .ok (.getfield 32, 3) := by decide +kernel
theorem d_M_step_30 : decode b_M_step 30 = .ok (.iload_n 1, 1) := by decide +kernel
theorem d_M_step_31 : decode b_M_step 31 = .ok (.iconst 2, 1) := by decide +kernel
theorem d_M_step_32 : decode b_M_step 32 = .ok (.iadd, 1) := by decide +kernel
theorem d_M_step_33 : decode b_M_step 33 = .ok (.invokevirtual 72, 3) := by decide +kernel
theorem d_M_step_36 : decode b_M_step 36 = .ok (.istore_n 3, 1) := by decide +kernel
theorem d_M_step_37 : decode b_M_step 37 = .ok (.aload_n 0, 1) := by decide +kernel
theorem d_M_step_38 : decode b_M_step 38 = .ok (.getfield 32, 3) := by decide +kernel
theorem d_M_step_41 : decode b_M_step 41 = .ok (.iload_n 1, 1) := by decide +kernel
theorem d_M_step_42 : decode b_M_step 42 = .ok (.iconst 3, 1) := by decide +kernel
theorem d_M_step_43 : decode b_M_step 43 = .ok (.iadd, 1) := by decide +kernel
theorem d_M_step_44 : decode b_M_step 44 = .ok (.invokevirtual 72, 3) := by decide +kernel
theorem d_M_step_47 : decode b_M_step 47 = .ok (.istore 4, 2) := by decide +kernel
theorem d_M_step_49 : decode b_M_step 49 = .ok (.aload_n 0, 1) := by decide +kernel
theorem d_M_step_50 : decode b_M_step 50 = .ok (.getfield 11, 3) := by decide +kernel
theorem d_M_step_53 : decode b_M_step 53 = .ok (.aload_n 0, 1) := by decide +kernel
theorem d_M_step_54 : decode b_M_step 54 = .ok (.getfield 32, 3) := by decide +kernel
theorem d_M_step_57 : decode b_M_step 57 = .ok (.iload_n 1, 1) := by decide +kernel
theorem d_M_step_58 : decode b_M_step 58 = .ok (.iconst 1, 1) := by decide +kernel
theorem d_M_step_59 : decode b_M_step 59 = .ok (.iadd, 1) := by decide +kernel
theorem d_M_step_60 : decode b_M_step 60 = .ok (.invokevirtual 72, 3) := by decide +kernel
theorem d_M_step_63 : decode b_M_step 63 = .ok (.bipush 7, 2) := by decide +kernel
theorem d_M_step_65 : decode b_M_step 65 = .ok (.iand, 1) := by decide +kernel
theorem d_M_step_66 : decode b_M_step 66 = .ok (.aaload, 1) := by decide +kernel
theorem d_M_step_67 : decode b_M_step 67 = .ok (.astore 5, 2) := by decide +kernel
theorem d_M_step_69 : decode b_M_step 69 = .ok (.aload_n 0, 1) := by decide +kernel
theorem d_M_step_70 : decode b_M_step 70 = .ok (.getfield 11, 3) := by decide +kernel
theorem d_M_step_73 : decode b_M_step 73 = .ok (.iload_n 3, 1) := by decide +kernel
theorem d_M_step_74 : decode b_M_step 74 = .ok (.bipush 7, 2) := by decide +kernel
theorem d_M_step_76 : decode b_M_step 76 = .ok (.iand, 1) := by decide +kernel
theorem d_M_step_77 : decode b_M_step 77 = .ok (.aaload, 1) := by decide +kernel
theorem d_M_step_78 : decode b_M_step 78 = .ok (.astore 6, 2) := by decide +kernel
theorem d_M_step_80 : decode b_M_step 80 = .ok (.aload_n 0, 1) := by decide +kernel
theorem d_M_step_81 : decode b_M_step 81 = .ok (.getfield 32, 3) := by decide +kernel
theorem d_M_step_84 : decode b_M_step 84 = .ok (.iload_n 1, 1) := by decide +kernel
theorem d_M_step_85 : decode b_M_step 85 = .ok (.invokevirtual 72, 3) := by decide +kernel
theorem d_M_step_88 : decode b_M_step 88 = .ok (.istore 7, 2) := by decide +kernel
theorem d_M_step_90 : decode b_M_step 90 = .ok (.iload 7, 2) := by decide +kernel
theorem d_M_step_92 : decode b_M_step 92 = .ok (.tableswitch 197 0 16 #[84, 178, 197, 197, 91, 117, 143, 197, 197, 197, 197, 197, 197, 197, 197, 197, 169], 84) := by decide +kernel
theorem d_M_step_176 : decode b_M_step 176 = .ok (.aload_n 0, 1) := by decide +kernel
theorem d_M_step_177 : decode b_M_step 177 = .ok (.iconst 1, 1) := by decide +kernel
theorem d_M_step_178 : decode b_M_step 178 = .ok (.putfield 40, 3) := by decide +kernel
theorem d_M_step_181 : decode b_M_step 181 = .ok (.iconst 0, 1) := by decide +kernel
theorem d_M_step_182 : decode b_M_step 182 = .ok (.ireturn, 1) := by decide +kernel
theorem d_M_step_183 : decode b_M_step 183 = .ok (.aload_n 0, 1) := by decide +kernel
theorem d_M_step_184 : decode b_M_step 184 = .ok (.aload 5, 2) := by decide +kernel
theorem d_M_step_186 : decode b_M_step 186 = .ok (.getfield 87, 3) := by decide +kernel
theorem d_M_step_189 : decode b_M_step 189 = .ok (.aload 6, 2) := by decide +kernel
theorem d_M_step_191 : decode b_M_step 191 = .ok (.getfield 87, 3) := by decide +kernel
theorem d_M_step_194 : decode b_M_step 194 = .ok (.if_icmp .ne 7, 3) := by decide +kernel
theorem d_M_step_197 : decode b_M_step 197 = .ok (.iconst 1, 1) := by decide +kernel
theorem d_M_step_198 : decode b_M_step 198 = .ok (.goto 4, 3) := by decide +kernel
theorem d_M_step_201 : decode b_M_step 201 = .ok (.iconst 0, 1) := by decide +kernel
theorem d_M_step_202 : decode b_M_step 202 = .ok (.iload 4, 2) := by decide +kernel
theorem d_M_step_204 : decode b_M_step 204 = .ok (.i2b, 1) := by decide +kernel
theorem d_M_step_205 : decode b_M_step 205 = .ok (.invokevirtual 94, 3) := by decide +kernel
theorem d_M_step_208 : decode b_M_step 208 = .ok (.ireturn, 1) := by decide +kernel
theorem d_M_step_209 : decode b_M_step 209 = .ok (.aload_n 0, 1) := by decide +kernel
theorem d_M_step_210 : decode b_M_step 210 = .ok (.aload 5, 2) := by decide +kernel
theorem d_M_step_212 : decode b_M_step 212 = .ok (.getfield 87, 3) := by decide +kernel
theorem d_M_step_215 : decode b_M_step 215 = .ok (.aload 6, 2) := by decide +kernel
theorem d_M_step_217 : decode b_M_step 217 = .ok (.getfield 87, 3) := by decide +kernel
theorem d_M_step_220 : decode b_M_step 220 = .ok (.if_icmp .ge 7, 3) := by decide +kernel
theorem d_M_step_223 : decode b_M_step 223 = .ok (.iconst 1, 1) := by decide +kernel
theorem d_M_step_224 : decode b_M_step 224 = .ok (.goto 4, 3) := by decide +kernel
theorem d_M_step_227 : decode b_M_step 227 = .ok (.iconst 0, 1) := by decide +kernel
theorem d_M_step_228 : decode b_M_step 228 = .ok (.iload 4, 2) := by decide +kernel
theorem d_M_step_230 : decode b_M_step 230 = .ok (.i2b, 1) := by decide +kernel
theorem d_M_step_231 : decode b_M_step 231 = .ok (.invokevirtual 94, 3) := by decide +kernel
theorem d_M_step_234 : decode b_M_step 234 = .ok (.ireturn, 1) := by decide +kernel
theorem d_M_step_235 : decode b_M_step 235 = .ok (.aload_n 0, 1) := by decide +kernel
theorem d_M_step_236 : decode b_M_step 236 = .ok (.aload 5, 2) := by decide +kernel
theorem d_M_step_238 : decode b_M_step 238 = .ok (.getfield 87, 3) := by decide +kernel
theorem d_M_step_241 : decode b_M_step 241 = .ok (.aload 6, 2) := by decide +kernel
theorem d_M_step_243 : decode b_M_step 243 = .ok (.getfield 87, 3) := by decide +kernel
theorem d_M_step_246 : decode b_M_step 246 = .ok (.if_icmp .eq 7, 3) := by decide +kernel
theorem d_M_step_249 : decode b_M_step 249 = .ok (.iconst 1, 1) := by decide +kernel
theorem d_M_step_250 : decode b_M_step 250 = .ok (.goto 4, 3) := by decide +kernel
theorem d_M_step_253 : decode b_M_step 253 = .ok (.iconst 0, 1) := by decide +kernel
theorem d_M_step_254 : decode b_M_step 254 = .ok (.iload 4, 2) := by decide +kernel
theorem d_M_step_256 : decode b_M_step 256 = .ok (.i2b, 1) := by decide +kernel
theorem d_M_step_257 : decode b_M_step 257 = .ok (.invokevirtual 94, 3) := by decide +kernel
theorem d_M_step_260 : decode b_M_step 260 = .ok (.ireturn, 1) := by decide +kernel
theorem d_M_step_261 : decode b_M_step 261 = .ok (.aload_n 0, 1) := by decide +kernel
theorem d_M_step_262 : decode b_M_step 262 = .ok (.aload 5, 2) := by decide +kernel
theorem d_M_step_264 : decode b_M_step 264 = .ok (.aload 6, 2) := by decide +kernel
theorem d_M_step_266 : decode b_M_step 266 = .ok (.invokevirtual 98, 3) := by decide +kernel
theorem d_M_step_269 : decode b_M_step 269 = .ok (.ireturn, 1) := by decide +kernel
theorem d_M_step_270 : decode b_M_step 270 = .ok (.aload 5, 2) := by decide +kernel
theorem d_M_step_272 : decode b_M_step 272 = .ok (.sipush 256, 3) := by decide +kernel
theorem d_M_step_275 : decode b_M_step 275 = .ok (.iload_n 3, 1) := by decide +kernel
theorem d_M_step_276 : decode b_M_step 276 = .ok (.imul, 1) := by decide +kernel
theorem d_M_step_277 : decode b_M_step 277 = .ok (.iload 4, 2) := by decide +kernel
theorem d_M_step_279 : decode b_M_step 279 = .ok (.iadd, 1) := by decide +kernel
theorem d_M_step_280 : decode b_M_step 280 = .ok (.invokevirtual 102, 3) := by decide +kernel
theorem d_M_step_283 : decode b_M_step 283 = .ok (.aload_n 0, 1) := by decide +kernel
theorem d_M_step_284 : decode b_M_step 284 = .ok (.iconst 0, 1) := by decide +kernel
theorem d_M_step_285 : decode b_M_step 285 = .ok (.invokevirtual 105, 3) := by decide +kernel
theorem d_M_step_288 : decode b_M_step 288 = .ok (.ireturn, 1) := by decide +kernel
theorem d_M_step_289 : decode b_M_step 289 = .ok (.aload_n 0, 1) := by decide +kernel
theorem d_M_step_290 : decode b_M_step 290 = .ok (.aload_n 0, 1) := by decide +kernel
theorem d_M_step_291 : decode b_M_step 291 = .ok (.iload 7, 2) := by decide +kernel
theorem d_M_step_293 : decode b_M_step 293 = .ok (.aload 5, 2) := by decide +kernel
theorem d_M_step_295 : decode b_M_step 295 = .ok (.aload 6, 2) := by decide +kernel
theorem d_M_step_297 : decode b_M_step 297 = .ok (.aload_n 0, 1) := by decide +kernel
theorem d_M_step_298 : decode b_M_step 298 = .ok (.getfield 11, 3) := by decide +kernel
theorem d_M_step_301 : decode b_M_step 301 = .ok (.iload 4, 2) := by decide +kernel
theorem d_M_step_303 : decode b_M_step 303 = .ok (.bipush 7, 2) := by decide +kernel
theorem d_M_step_305 : decode b_M_step 305 = .ok (.iand, 1) := by decide +kernel
theorem d_M_step_306 : decode b_M_step 306 = .ok (.aaload, 1) := by decide +kernel
theorem d_M_step_307 : decode b_M_step 307 = .ok (.iload 4, 2) := by decide +kernel
theorem d_M_step_309 : decode b_M_step 309 = .ok (.i2b, 1) := by decide +kernel
theorem d_M_step_310 : decode b_M_step 310 = .ok (.invokevirtual 108, 3) := by decide +kernel
theorem d_M_step_313 : decode b_M_step 313 = .ok (.invokevirtual 105, 3) := by decide +kernel
theorem d_M_step_316 : decode b_M_step 316 = .ok (.ireturn, 1) := by decide +kernel
theorem d_M_tagged_0 : decode b_M_tagged 0 = .ok (.iload_n 1, 1) := by decide +kernel
theorem d_M_tagged_1 : decode b_M_tagged 1 = .ok (.ifCond .lt 25, 3) := by decide +kernel
theorem d_M_tagged_4 : decode b_M_tagged 4 = .ok (.iload_n 1, 1) := by decide +kernel
theorem d_M_tagged_5 : decode b_M_tagged 5 = .ok (.bipush 64, 2) := by decide +kernel
theorem d_M_tagged_7 : decode b_M_tagged 7 = .ok (.if_icmp .ge 19, 3) := by decide +kernel
theorem d_M_tagged_10 : decode b_M_tagged 10 = .ok (.aload_n 0, 1) := by decide +kernel
theorem d_M_tagged_11 : decode b_M_tagged 11 = .ok (.getfield 32, 3) := by decide +kernel
theorem d_M_tagged_14 : decode b_M_tagged 14 = .ok (.getfield 75, 3) := by decide +kernel
theorem d_M_tagged_17 : decode b_M_tagged 17 = .ok (.iload_n 1, 1) := by decide +kernel
theorem d_M_tagged_18 : decode b_M_tagged 18 = .ok (.baload, 1) := by decide +kernel
theorem d_M_tagged_19 : decode b_M_tagged 19 = .ok (.ifCond .eq 7, 3) := by decide +kernel
theorem d_M_tagged_22 : decode b_M_tagged 22 = .ok (.iconst 1, 1) := by decide +kernel
theorem d_M_tagged_23 : decode b_M_tagged 23 = .ok (.goto 4, 3) := by decide +kernel
theorem d_M_tagged_26 : decode b_M_tagged 26 = .ok (.iconst 0, 1) := by decide +kernel
theorem d_M_tagged_27 : decode b_M_tagged 27 = .ok (.ireturn, 1) := by decide +kernel
theorem d_M_takeException_0 : decode b_M_takeException 0 = .ok (.aload_n 0, 1) := by decide +kernel
theorem d_M_takeException_1 : decode b_M_takeException 1 = .ok (.iload_n 1, 1) := by decide +kernel
theorem d_M_takeException_2 : decode b_M_takeException 2 = .ok (.putfield 44, 3) := by decide +kernel
theorem d_M_takeException_5 : decode b_M_takeException 5 = .ok (.aload_n 0, 1) := by decide +kernel
theorem d_M_takeException_6 : decode b_M_takeException 6 = .ok (.getfield 23, 3) := by decide +kernel
theorem d_M_takeException_9 : decode b_M_takeException 9 = .ok (.aload_n 0, 1) := by decide +kernel
theorem d_M_takeException_10 : decode b_M_takeException 10 = .ok (.getfield 16, 3) := by decide +kernel
theorem d_M_takeException_13 : decode b_M_takeException 13 = .ok (.invokevirtual 79, 3) := by decide +kernel
theorem d_M_takeException_16 : decode b_M_takeException 16 = .ok (.aload_n 0, 1) := by decide +kernel
theorem d_M_takeException_17 : decode b_M_takeException 17 = .ok (.getfield 20, 3) := by decide +kernel
theorem d_M_takeException_20 : decode b_M_takeException 20 = .ok (.getfield 83, 3) := by decide +kernel
theorem d_M_takeException_23 : decode b_M_takeException 23 = .ok (.ifCond .eq 17, 3) := by decide +kernel
theorem d_M_takeException_26 : decode b_M_takeException 26 = .ok (.aload_n 0, 1) := by decide +kernel
theorem d_M_takeException_27 : decode b_M_takeException 27 = .ok (.getfield 16, 3) := by decide +kernel
theorem d_M_takeException_30 : decode b_M_takeException 30 = .ok (.aload_n 0, 1) := by decide +kernel
theorem d_M_takeException_31 : decode b_M_takeException 31 = .ok (.getfield 20, 3) := by decide +kernel
theorem d_M_takeException_34 : decode b_M_takeException 34 = .ok (.invokevirtual 79, 3) := by decide +kernel
theorem d_M_takeException_37 : decode b_M_takeException 37 = .ok (.goto 8, 3) := by decide +kernel
theorem d_M_takeException_40 : decode b_M_takeException 40 = .ok (.aload_n 0, 1) := by decide +kernel
theorem d_M_takeException_41 : decode b_M_takeException 41 = .ok (.iconst 2, 1) := by decide +kernel
theorem d_M_takeException_42 : decode b_M_takeException 42 = .ok (.putfield 40, 3) := by decide +kernel
theorem d_M_takeException_45 : decode b_M_takeException 45 = .ok (.return_, 1) := by decide +kernel
theorem d_M_unseal_0 : decode b_M_unseal 0 = .ok (.aload_n 1, 1) := by decide +kernel
theorem d_M_unseal_1 : decode b_M_unseal 1 = .ok (.getfield 83, 3) := by decide +kernel
theorem d_M_unseal_4 : decode b_M_unseal 4 = .ok (.ifCond .eq 10, 3) := by decide +kernel
theorem d_M_unseal_7 : decode b_M_unseal 7 = .ok (.aload_n 2, 1) := by decide +kernel
theorem d_M_unseal_8 : decode b_M_unseal 8 = .ok (.getfield 83, 3) := by decide +kernel
theorem d_M_unseal_11 : decode b_M_unseal 11 = .ok (.ifCond .ne 5, 3) := by decide +kernel
theorem d_M_unseal_14 : decode b_M_unseal 14 = .ok (.iconst 1, 1) := by decide +kernel
theorem d_M_unseal_15 : decode b_M_unseal 15 = .ok (.ireturn, 1) := by decide +kernel
theorem d_M_unseal_16 : decode b_M_unseal 16 = .ok (.aload_n 1, 1) := by decide +kernel
theorem d_M_unseal_17 : decode b_M_unseal 17 = .ok (.getfield 115, 3) := by decide +kernel
theorem d_M_unseal_20 : decode b_M_unseal 20 = .ok (.iconst 1, 1) := by decide +kernel
theorem d_M_unseal_21 : decode b_M_unseal 21 = .ok (.if_icmp .le 10, 3) := by decide +kernel
theorem d_M_unseal_24 : decode b_M_unseal 24 = .ok (.aload_n 2, 1) := by decide +kernel
theorem d_M_unseal_25 : decode b_M_unseal 25 = .ok (.getfield 115, 3) := by decide +kernel
theorem d_M_unseal_28 : decode b_M_unseal 28 = .ok (.ifCond .eq 5, 3) := by decide +kernel
theorem d_M_unseal_31 : decode b_M_unseal 31 = .ok (.iconst 2, 1) := by decide +kernel
theorem d_M_unseal_32 : decode b_M_unseal 32 = .ok (.ireturn, 1) := by decide +kernel
theorem d_M_unseal_33 : decode b_M_unseal 33 = .ok (.aload_n 2, 1) := by decide +kernel
theorem d_M_unseal_34 : decode b_M_unseal 34 = .ok (.getfield 87, 3) := by decide +kernel
theorem d_M_unseal_37 : decode b_M_unseal 37 = .ok (.aload_n 1, 1) := by decide +kernel
theorem d_M_unseal_38 : decode b_M_unseal 38 = .ok (.getfield 115, 3) := by decide +kernel
theorem d_M_unseal_41 : decode b_M_unseal 41 = .ok (.if_icmp .eq 6, 3) := by decide +kernel
theorem d_M_unseal_44 : decode b_M_unseal 44 = .ok (.bipush 7, 2) := by decide +kernel
theorem d_M_unseal_46 : decode b_M_unseal 46 = .ok (.ireturn, 1) := by decide +kernel
theorem d_M_unseal_47 : decode b_M_unseal 47 = .ok (.aload_n 2, 1) := by decide +kernel
theorem d_M_unseal_48 : decode b_M_unseal 48 = .ok (.bipush 64, 2) := by decide +kernel
theorem d_M_unseal_50 : decode b_M_unseal 50 = .ok (.invokevirtual 118, 3) := by decide +kernel
theorem d_M_unseal_53 : decode b_M_unseal 53 = .ok (.ifCond .ne 5, 3) := by decide +kernel
theorem d_M_unseal_56 : decode b_M_unseal 56 = .ok (.iconst 3, 1) := by decide +kernel
theorem d_M_unseal_57 : decode b_M_unseal 57 = .ok (.ireturn, 1) := by decide +kernel
theorem d_M_unseal_58 : decode b_M_unseal 58 = .ok (.aload_n 2, 1) := by decide +kernel
theorem d_M_unseal_59 : decode b_M_unseal 59 = .ok (.invokevirtual 184, 3) := by decide +kernel
theorem d_M_unseal_62 : decode b_M_unseal 62 = .ok (.ifCond .ne 5, 3) := by decide +kernel
theorem d_M_unseal_65 : decode b_M_unseal 65 = .ok (.iconst 4, 1) := by decide +kernel
theorem d_M_unseal_66 : decode b_M_unseal 66 = .ok (.ireturn, 1) := by decide +kernel
theorem d_M_unseal_67 : decode b_M_unseal 67 = .ok (.aload_n 0, 1) := by decide +kernel
theorem d_M_unseal_68 : decode b_M_unseal 68 = .ok (.aload_n 1, 1) := by decide +kernel
theorem d_M_unseal_69 : decode b_M_unseal 69 = .ok (.invokevirtual 79, 3) := by decide +kernel
theorem d_M_unseal_72 : decode b_M_unseal 72 = .ok (.aload_n 0, 1) := by decide +kernel
theorem d_M_unseal_73 : decode b_M_unseal 73 = .ok (.iconst 0, 1) := by decide +kernel
theorem d_M_unseal_74 : decode b_M_unseal 74 = .ok (.putfield 115, 3) := by decide +kernel
theorem d_M_unseal_77 : decode b_M_unseal 77 = .ok (.iconst 0, 1) := by decide +kernel
theorem d_M_unseal_78 : decode b_M_unseal 78 = .ok (.ireturn, 1) := by decide +kernel
theorem d_M_withAddress_0 : decode b_M_withAddress 0 = .ok (.aload_n 1, 1) := by decide +kernel
theorem d_M_withAddress_1 : decode b_M_withAddress 1 = .ok (.getfield 83, 3) := by decide +kernel
theorem d_M_withAddress_4 : decode b_M_withAddress 4 = .ok (.ifCond .eq 12, 3) := by decide +kernel
theorem d_M_withAddress_7 : decode b_M_withAddress 7 = .ok (.aload_n 1, 1) := by decide +kernel
theorem d_M_withAddress_8 : decode b_M_withAddress 8 = .ok (.getfield 115, 3) := by decide +kernel
theorem d_M_withAddress_11 : decode b_M_withAddress 11 = .ok (.ifCond .eq 5, 3) := by decide +kernel
theorem d_M_withAddress_14 : decode b_M_withAddress 14 = .ok (.iconst 2, 1) := by decide +kernel
theorem d_M_withAddress_15 : decode b_M_withAddress 15 = .ok (.ireturn, 1) := by decide +kernel
theorem d_M_withAddress_16 : decode b_M_withAddress 16 = .ok (.aload_n 0, 1) := by decide +kernel
theorem d_M_withAddress_17 : decode b_M_withAddress 17 = .ok (.aload_n 1, 1) := by decide +kernel
theorem d_M_withAddress_18 : decode b_M_withAddress 18 = .ok (.invokevirtual 79, 3) := by decide +kernel
theorem d_M_withAddress_21 : decode b_M_withAddress 21 = .ok (.aload_n 0, 1) := by decide +kernel
theorem d_M_withAddress_22 : decode b_M_withAddress 22 = .ok (.iload_n 2, 1) := by decide +kernel
theorem d_M_withAddress_23 : decode b_M_withAddress 23 = .ok (.invokevirtual 112, 3) := by decide +kernel
theorem d_M_withAddress_26 : decode b_M_withAddress 26 = .ok (.iconst 0, 1) := by decide +kernel
theorem d_M_withAddress_27 : decode b_M_withAddress 27 = .ok (.ireturn, 1) := by decide +kernel
theorem d_M_withBounds_0 : decode b_M_withBounds 0 = .ok (.aload_n 1, 1) := by decide +kernel
theorem d_M_withBounds_1 : decode b_M_withBounds 1 = .ok (.getfield 83, 3) := by decide +kernel
theorem d_M_withBounds_4 : decode b_M_withBounds 4 = .ok (.ifCond .ne 5, 3) := by decide +kernel
theorem d_M_withBounds_7 : decode b_M_withBounds 7 = .ok (.iconst 1, 1) := by decide +kernel
theorem d_M_withBounds_8 : decode b_M_withBounds 8 = .ok (.ireturn, 1) := by decide +kernel
theorem d_M_withBounds_9 : decode b_M_withBounds 9 = .ok (.aload_n 1, 1) := by decide +kernel
theorem d_M_withBounds_10 : decode b_M_withBounds 10 = .ok (.getfield 115, 3) := by decide +kernel
theorem d_M_withBounds_13 : decode b_M_withBounds 13 = .ok (.ifCond .eq 5, 3) := by decide +kernel
theorem d_M_withBounds_16 : decode b_M_withBounds 16 = .ok (.iconst 2, 1) := by decide +kernel
theorem d_M_withBounds_17 : decode b_M_withBounds 17 = .ok (.ireturn, 1) := by decide +kernel
theorem d_M_withBounds_18 : decode b_M_withBounds 18 = .ok (.aload_n 1, 1) := by decide +kernel
theorem d_M_withBounds_19 : decode b_M_withBounds 19 = .ok (.getfield 87, 3) := by decide +kernel
theorem d_M_withBounds_22 : decode b_M_withBounds 22 = .ok (.i2l, 1) := by decide +kernel
theorem d_M_withBounds_23 : decode b_M_withBounds 23 = .ok (.iload_n 2, 1) := by decide +kernel
theorem d_M_withBounds_24 : decode b_M_withBounds 24 = .ok (.i2l, 1) := by decide +kernel
theorem d_M_withBounds_25 : decode b_M_withBounds 25 = .ok (.ladd, 1) := by decide +kernel
theorem d_M_withBounds_26 : decode b_M_withBounds 26 = .ok (.lstore 4, 2) := by decide +kernel
theorem d_M_withBounds_28 : decode b_M_withBounds 28 = .ok (.iload_n 2, 1) := by decide +kernel
theorem d_M_withBounds_29 : decode b_M_withBounds 29 = .ok (.ifCond .lt 25, 3) := by decide +kernel
theorem d_M_withBounds_32 : decode b_M_withBounds 32 = .ok (.aload_n 1, 1) := by decide +kernel
theorem d_M_withBounds_33 : decode b_M_withBounds 33 = .ok (.getfield 87, 3) := by decide +kernel
theorem d_M_withBounds_36 : decode b_M_withBounds 36 = .ok (.aload_n 1, 1) := by decide +kernel
theorem d_M_withBounds_37 : decode b_M_withBounds 37 = .ok (.getfield 168, 3) := by decide +kernel
theorem d_M_withBounds_40 : decode b_M_withBounds 40 = .ok (.if_icmp .lt 14, 3) := by decide +kernel
theorem d_M_withBounds_43 : decode b_M_withBounds 43 = .ok (.lload 4, 2) := by decide +kernel
theorem d_M_withBounds_45 : decode b_M_withBounds 45 = .ok (.aload_n 1, 1) := by decide +kernel
theorem d_M_withBounds_46 : decode b_M_withBounds 46 = .ok (.getfield 171, 3) := by decide +kernel
theorem d_M_withBounds_49 : decode b_M_withBounds 49 = .ok (.i2l, 1) := by decide +kernel
theorem d_M_withBounds_50 : decode b_M_withBounds 50 = .ok (.lcmp, 1) := by decide +kernel
theorem d_M_withBounds_51 : decode b_M_withBounds 51 = .ok (.ifCond .le 5, 3) := by decide +kernel
theorem d_M_withBounds_54 : decode b_M_withBounds 54 = .ok (.iconst 4, 1) := by decide +kernel
theorem d_M_withBounds_55 : decode b_M_withBounds 55 = .ok (.ireturn, 1) := by decide +kernel
theorem d_M_withBounds_56 : decode b_M_withBounds 56 = .ok (.aload_n 1, 1) := by decide +kernel
theorem d_M_withBounds_57 : decode b_M_withBounds 57 = .ok (.getfield 87, 3) := by decide +kernel
theorem d_M_withBounds_60 : decode b_M_withBounds 60 = .ok (.istore 6, 2) := by decide +kernel
theorem d_M_withBounds_62 : decode b_M_withBounds 62 = .ok (.lload 4, 2) := by decide +kernel
theorem d_M_withBounds_64 : decode b_M_withBounds 64 = .ok (.l2i, 1) := by decide +kernel
theorem d_M_withBounds_65 : decode b_M_withBounds 65 = .ok (.istore 7, 2) := by decide +kernel
theorem d_M_withBounds_67 : decode b_M_withBounds 67 = .ok (.iload 6, 2) := by decide +kernel
theorem d_M_withBounds_69 : decode b_M_withBounds 69 = .ok (.iload 7, 2) := by decide +kernel
theorem d_M_withBounds_71 : decode b_M_withBounds 71 = .ok (.invokestatic 174, 3) := by decide +kernel
theorem d_M_withBounds_74 : decode b_M_withBounds 74 = .ok (.istore 8, 2) := by decide +kernel
theorem d_M_withBounds_76 : decode b_M_withBounds 76 = .ok (.iload 8, 2) := by decide +kernel
theorem d_M_withBounds_78 : decode b_M_withBounds 78 = .ok (.ifCond .ne 17, 3) := by decide +kernel
theorem d_M_withBounds_81 : decode b_M_withBounds 81 = .ok (.iload 6, 2) := by decide +kernel
theorem d_M_withBounds_83 : decode b_M_withBounds 83 = .ok (.invokestatic 178, 3) := by decide +kernel
theorem d_M_withBounds_86 : decode b_M_withBounds 86 = .ok (.istore 6, 2) := by decide +kernel
theorem d_M_withBounds_88 : decode b_M_withBounds 88 = .ok (.iload 7, 2) := by decide +kernel
theorem d_M_withBounds_90 : decode b_M_withBounds 90 = .ok (.invokestatic 181, 3) := by decide +kernel
theorem d_M_withBounds_93 : decode b_M_withBounds 93 = .ok (.istore 7, 2) := by decide +kernel
theorem d_M_withBounds_95 : decode b_M_withBounds 95 = .ok (.iload 6, 2) := by decide +kernel
theorem d_M_withBounds_97 : decode b_M_withBounds 97 = .ok (.aload_n 1, 1) := by decide +kernel
theorem d_M_withBounds_98 : decode b_M_withBounds 98 = .ok (.getfield 168, 3) := by decide +kernel
theorem d_M_withBounds_101 : decode b_M_withBounds 101 = .ok (.if_icmp .lt 12, 3) := by decide +kernel
theorem d_M_withBounds_104 : decode b_M_withBounds 104 = .ok (.iload 7, 2) := by decide +kernel
theorem d_M_withBounds_106 : decode b_M_withBounds 106 = .ok (.aload_n 1, 1) := by decide +kernel
theorem d_M_withBounds_107 : decode b_M_withBounds 107 = .ok (.getfield 171, 3) := by decide +kernel
theorem d_M_withBounds_110 : decode b_M_withBounds 110 = .ok (.if_icmp .le 5, 3) := by decide +kernel
theorem d_M_withBounds_113 : decode b_M_withBounds 113 = .ok (.iconst 4, 1) := by decide +kernel
theorem d_M_withBounds_114 : decode b_M_withBounds 114 = .ok (.ireturn, 1) := by decide +kernel
theorem d_M_withBounds_115 : decode b_M_withBounds 115 = .ok (.iload_n 3, 1) := by decide +kernel
theorem d_M_withBounds_116 : decode b_M_withBounds 116 = .ok (.ifCond .eq 11, 3) := by decide +kernel
theorem d_M_withBounds_119 : decode b_M_withBounds 119 = .ok (.iload 8, 2) := by decide +kernel
theorem d_M_withBounds_121 : decode b_M_withBounds 121 = .ok (.ifCond .ne 6, 3) := by decide +kernel
theorem d_M_withBounds_124 : decode b_M_withBounds 124 = .ok (.bipush 6, 2) := by decide +kernel
theorem d_M_withBounds_126 : decode b_M_withBounds 126 = .ok (.ireturn, 1) := by decide +kernel
theorem d_M_withBounds_127 : decode b_M_withBounds 127 = .ok (.aload_n 0, 1) := by decide +kernel
theorem d_M_withBounds_128 : decode b_M_withBounds 128 = .ok (.aload_n 1, 1) := by decide +kernel
theorem d_M_withBounds_129 : decode b_M_withBounds 129 = .ok (.invokevirtual 79, 3) := by decide +kernel
theorem d_M_withBounds_132 : decode b_M_withBounds 132 = .ok (.aload_n 0, 1) := by decide +kernel
theorem d_M_withBounds_133 : decode b_M_withBounds 133 = .ok (.iload 6, 2) := by decide +kernel
theorem d_M_withBounds_135 : decode b_M_withBounds 135 = .ok (.putfield 168, 3) := by decide +kernel
theorem d_M_withBounds_138 : decode b_M_withBounds 138 = .ok (.aload_n 0, 1) := by decide +kernel
theorem d_M_withBounds_139 : decode b_M_withBounds 139 = .ok (.iload 7, 2) := by decide +kernel
theorem d_M_withBounds_141 : decode b_M_withBounds 141 = .ok (.putfield 171, 3) := by decide +kernel
theorem d_M_withBounds_144 : decode b_M_withBounds 144 = .ok (.iconst 0, 1) := by decide +kernel
theorem d_M_withBounds_145 : decode b_M_withBounds 145 = .ok (.ireturn, 1) := by decide +kernel
theorem d_M_withPermissions_0 : decode b_M_withPermissions 0 = .ok (.aload_n 1, 1) := by decide +kernel
theorem d_M_withPermissions_1 : decode b_M_withPermissions 1 = .ok (.getfield 83, 3) := by decide +kernel
theorem d_M_withPermissions_4 : decode b_M_withPermissions 4 = .ok (.ifCond .eq 12, 3) := by decide +kernel
theorem d_M_withPermissions_7 : decode b_M_withPermissions 7 = .ok (.aload_n 1, 1) := by decide +kernel
theorem d_M_withPermissions_8 : decode b_M_withPermissions 8 = .ok (.getfield 115, 3) := by decide +kernel
theorem d_M_withPermissions_11 : decode b_M_withPermissions 11 = .ok (.ifCond .eq 5, 3) := by decide +kernel
theorem d_M_withPermissions_14 : decode b_M_withPermissions 14 = .ok (.iconst 2, 1) := by decide +kernel
theorem d_M_withPermissions_15 : decode b_M_withPermissions 15 = .ok (.ireturn, 1) := by decide +kernel
theorem d_M_withPermissions_16 : decode b_M_withPermissions 16 = .ok (.aload_n 0, 1) := by decide +kernel
theorem d_M_withPermissions_17 : decode b_M_withPermissions 17 = .ok (.aload_n 1, 1) := by decide +kernel
theorem d_M_withPermissions_18 : decode b_M_withPermissions 18 = .ok (.invokevirtual 79, 3) := by decide +kernel
theorem d_M_withPermissions_21 : decode b_M_withPermissions 21 = .ok (.aload_n 0, 1) := by decide +kernel
theorem d_M_withPermissions_22 : decode b_M_withPermissions 22 = .ok (.aload_n 1, 1) := by decide +kernel
theorem d_M_withPermissions_23 : decode b_M_withPermissions 23 = .ok (.getfield 165, 3) := by decide +kernel
theorem d_M_withPermissions_26 : decode b_M_withPermissions 26 = .ok (.iload_n 2, 1) := by decide +kernel
theorem d_M_withPermissions_27 : decode b_M_withPermissions 27 = .ok (.iand, 1) := by decide +kernel
theorem d_M_withPermissions_28 : decode b_M_withPermissions 28 = .ok (.putfield 165, 3) := by decide +kernel
theorem d_M_withPermissions_31 : decode b_M_withPermissions 31 = .ok (.iconst 0, 1) := by decide +kernel
theorem d_M_withPermissions_32 : decode b_M_withPermissions 32 = .ok (.ireturn, 1) := by decide +kernel
theorem d_M_withoutTag_0 : decode b_M_withoutTag 0 = .ok (.aload_n 0, 1) := by decide +kernel
theorem d_M_withoutTag_1 : decode b_M_withoutTag 1 = .ok (.aload_n 1, 1) := by decide +kernel
theorem d_M_withoutTag_2 : decode b_M_withoutTag 2 = .ok (.invokevirtual 79, 3) := by decide +kernel
theorem d_M_withoutTag_5 : decode b_M_withoutTag 5 = .ok (.aload_n 0, 1) := by decide +kernel
theorem d_M_withoutTag_6 : decode b_M_withoutTag 6 = .ok (.iconst 0, 1) := by decide +kernel
theorem d_M_withoutTag_7 : decode b_M_withoutTag 7 = .ok (.putfield 83, 3) := by decide +kernel
theorem d_M_withoutTag_10 : decode b_M_withoutTag 10 = .ok (.iconst 0, 1) := by decide +kernel
theorem d_M_withoutTag_11 : decode b_M_withoutTag 11 = .ok (.ireturn, 1) := by decide +kernel

theorem d_R_access_0 : decode b_R_access 0 = .ok (.aload_n 0, 1) := by decide +kernel
theorem d_R_access_1 : decode b_R_access 1 = .ok (.getfield 26, 3) := by decide +kernel
theorem d_R_access_4 : decode b_R_access 4 = .ok (.aload_n 0, 1) := by decide +kernel
theorem d_R_access_5 : decode b_R_access 5 = .ok (.getfield 57, 3) := by decide +kernel
theorem d_R_access_8 : decode b_R_access 8 = .ok (.iaload, 1) := by decide +kernel
theorem d_R_access_9 : decode b_R_access 9 = .ok (.aload_n 0, 1) := by decide +kernel
theorem d_R_access_10 : decode b_R_access 10 = .ok (.getfield 82, 3) := by decide +kernel
theorem d_R_access_13 : decode b_R_access 13 = .ok (.iadd, 1) := by decide +kernel
theorem d_R_access_14 : decode b_R_access 14 = .ok (.istore_n 1, 1) := by decide +kernel
theorem d_R_access_15 : decode b_R_access 15 = .ok (.aload_n 0, 1) := by decide +kernel
theorem d_R_access_16 : decode b_R_access 16 = .ok (.getfield 72, 3) := by decide +kernel
theorem d_R_access_19 : decode b_R_access 19 = .ok (.tableswitch 171 17 22 #[37, 54, 70, 171, 171, 78], 37) := by decide +kernel
theorem d_R_access_56 : decode b_R_access 56 = .ok (.aload_n 0, 1) := by decide +kernel
theorem d_R_access_57 : decode b_R_access 57 = .ok (.aload_n 0, 1) := by decide +kernel
theorem d_R_access_58 : decode b_R_access 58 = .ok (.getfield 79, 3) := by decide +kernel
theorem d_R_access_61 : decode b_R_access 61 = .ok (.aload_n 0, 1) := by decide +kernel
theorem d_R_access_62 : decode b_R_access 62 = .ok (.getfield 7, 3) := by decide +kernel
theorem d_R_access_65 : decode b_R_access 65 = .ok (.iload_n 1, 1) := by decide +kernel
theorem d_R_access_66 : decode b_R_access 66 = .ok (.iaload, 1) := by decide +kernel
theorem d_R_access_67 : decode b_R_access 67 = .ok (.invokevirtual 114, 3) := by decide +kernel
theorem d_R_access_70 : decode b_R_access 70 = .ok (.goto 138, 3) := by decide +kernel
theorem d_R_access_73 : decode b_R_access 73 = .ok (.aload_n 0, 1) := by decide +kernel
theorem d_R_access_74 : decode b_R_access 74 = .ok (.aload_n 0, 1) := by decide +kernel
theorem d_R_access_75 : decode b_R_access 75 = .ok (.getfield 79, 3) := by decide +kernel
theorem d_R_access_78 : decode b_R_access 78 = .ok (.aload_n 0, 1) := by decide +kernel
theorem d_R_access_79 : decode b_R_access 79 = .ok (.iload_n 1, 1) := by decide +kernel
theorem d_R_access_80 : decode b_R_access 80 = .ok (.invokevirtual 111, 3) := by decide +kernel
theorem d_R_access_83 : decode b_R_access 83 = .ok (.invokevirtual 114, 3) := by decide +kernel
theorem d_R_access_86 : decode b_R_access 86 = .ok (.goto 122, 3) := by decide +kernel
theorem d_R_access_89 : decode b_R_access 89 = .ok (.aload_n 0, 1) := by decide +kernel
theorem d_R_access_90 : decode b_R_access 90 = .ok (.iload_n 1, 1) := by decide +kernel
theorem d_R_access_91 : decode b_R_access 91 = .ok (.invokevirtual 118, 3) := by decide +kernel
theorem d_R_access_94 : decode b_R_access 94 = .ok (.goto 114, 3) := by decide +kernel
theorem d_R_access_97 : decode b_R_access 97 = .ok (.aload_n 0, 1) := by decide +kernel
theorem d_R_access_98 : decode b_R_access 98 = .ok (.iload_n 1, 1) := by decide +kernel
theorem d_R_access_99 : decode b_R_access 99 = .ok (.aload_n 0, 1) := by decide +kernel
theorem d_R_access_100 : decode b_R_access 100 = .ok (.getfield 26, 3) := by decide +kernel
theorem d_R_access_103 : decode b_R_access 103 = .ok (.aload_n 0, 1) := by decide +kernel
theorem d_R_access_104 : decode b_R_access 104 = .ok (.getfield 79, 3) := by decide +kernel
theorem d_R_access_107 : decode b_R_access 107 = .ok (.iaload, 1) := by decide +kernel
theorem d_R_access_108 : decode b_R_access 108 = .ok (.iconst 4, 1) := by decide +kernel
theorem d_R_access_109 : decode b_R_access 109 = .ok (.invokevirtual 122, 3) := by decide +kernel
theorem d_R_access_112 : decode b_R_access 112 = .ok (.aload_n 0, 1) := by decide +kernel
theorem d_R_access_113 : decode b_R_access 113 = .ok (.iload_n 1, 1) := by decide +kernel
theorem d_R_access_114 : decode b_R_access 114 = .ok (.iconst 4, 1) := by decide +kernel
theorem d_R_access_115 : decode b_R_access 115 = .ok (.iadd, 1) := by decide +kernel
theorem d_R_access_116 : decode b_R_access 116 = .ok (.aload_n 0, 1) := by decide +kernel
theorem d_R_access_117 : decode b_R_access 117 = .ok (.getfield 20, 3) := by decide +kernel
theorem d_R_access_120 : decode b_R_access 120 = .ok (.aload_n 0, 1) := by decide +kernel
theorem d_R_access_121 : decode b_R_access 121 = .ok (.getfield 79, 3) := by decide +kernel
theorem d_R_access_124 : decode b_R_access 124 = .ok (.iaload, 1) := by decide +kernel
theorem d_R_access_125 : decode b_R_access 125 = .ok (.sipush 1024, 3) := by decide +kernel
theorem d_R_access_128 : decode b_R_access 128 = .ok (.aload_n 0, 1) := by decide +kernel
theorem d_R_access_129 : decode b_R_access 129 = .ok (.getfield 23, 3) := by decide +kernel
theorem d_R_access_132 : decode b_R_access 132 = .ok (.aload_n 0, 1) := by decide +kernel
theorem d_R_access_133 : decode b_R_access 133 = .ok (.getfield 79, 3) := by decide +kernel
theorem d_R_access_136 : decode b_R_access 136 = .ok (.iaload, 1) := by decide +kernel
theorem d_R_access_137 : decode b_R_access 137 = .ok (.imul, 1) := by decide +kernel
theorem d_R_access_138 : decode b_R_access 138 = .ok (.iadd, 1) := by decide +kernel
theorem d_R_access_139 : decode b_R_access 139 = .ok (.ldc 126, 2) := by decide +kernel
theorem d_R_access_141 : decode b_R_access 141 = .ok (.aload_n 0, 1) := by decide +kernel
theorem d_R_access_142 : decode b_R_access 142 = .ok (.getfield 32, 3) := by decide +kernel
theorem d_R_access_145 : decode b_R_access 145 = .ok (.aload_n 0, 1) := by decide +kernel
theorem d_R_access_146 : decode b_R_access 146 = .ok (.getfield 79, 3) := by decide +kernel
theorem d_R_access_149 : decode b_R_access 149 = .ok (.iaload, 1) := by decide +kernel
theorem d_R_access_150 : decode b_R_access 150 = .ok (.imul, 1) := by decide +kernel
theorem d_R_access_151 : decode b_R_access 151 = .ok (.iadd, 1) := by decide +kernel
theorem d_R_access_152 : decode b_R_access 152 = .ok (.aload_n 0, 1) := by decide +kernel
theorem d_R_access_153 : decode b_R_access 153 = .ok (.getfield 29, 3) := by decide +kernel
theorem d_R_access_156 : decode b_R_access 156 = .ok (.aload_n 0, 1) := by decide +kernel
theorem d_R_access_157 : decode b_R_access 157 = .ok (.getfield 79, 3) := by decide +kernel
theorem d_R_access_160 : decode b_R_access 160 = .ok (.iaload, 1) := by decide +kernel
theorem d_R_access_161 : decode b_R_access 161 = .ok (.bipush 24, 2) := by decide +kernel
theorem d_R_access_163 : decode b_R_access 163 = .ok (.ishl, 1) := by decide +kernel
theorem d_R_access_164 : decode b_R_access 164 = .ok (.iadd, 1) := by decide +kernel
theorem d_R_access_165 : decode b_R_access 165 = .ok (.iconst 4, 1) := by decide +kernel
theorem d_R_access_166 : decode b_R_access 166 = .ok (.invokevirtual 122, 3) := by decide +kernel
theorem d_R_access_169 : decode b_R_access 169 = .ok (.aload_n 0, 1) := by decide +kernel
theorem d_R_access_170 : decode b_R_access 170 = .ok (.getfield 13, 3) := by decide +kernel
theorem d_R_access_173 : decode b_R_access 173 = .ok (.iload_n 1, 1) := by decide +kernel
theorem d_R_access_174 : decode b_R_access 174 = .ok (.bipush 8, 2) := by decide +kernel
theorem d_R_access_176 : decode b_R_access 176 = .ok (.idiv, 1) := by decide +kernel
theorem d_R_access_177 : decode b_R_access 177 = .ok (.aload_n 0, 1) := by decide +kernel
theorem d_R_access_178 : decode b_R_access 178 = .ok (.getfield 17, 3) := by decide +kernel
theorem d_R_access_181 : decode b_R_access 181 = .ok (.aload_n 0, 1) := by decide +kernel
theorem d_R_access_182 : decode b_R_access 182 = .ok (.getfield 79, 3) := by decide +kernel
theorem d_R_access_185 : decode b_R_access 185 = .ok (.baload, 1) := by decide +kernel
theorem d_R_access_186 : decode b_R_access 186 = .ok (.bastore, 1) := by decide +kernel
theorem d_R_access_187 : decode b_R_access 187 = .ok (.goto 21, 3) := by decide +kernel
theorem d_R_access_190 : decode b_R_access 190 = .ok (.aload_n 0, 1) := by decide +kernel
theorem d_R_access_191 : decode b_R_access 191 = .ok (.iload_n 1, 1) := by decide +kernel
theorem d_R_access_192 : decode b_R_access 192 = .ok (.aload_n 0, 1) := by decide +kernel
theorem d_R_access_193 : decode b_R_access 193 = .ok (.getfield 26, 3) := by decide +kernel
theorem d_R_access_196 : decode b_R_access 196 = .ok (.aload_n 0, 1) := by decide +kernel
theorem d_R_access_197 : decode b_R_access 197 = .ok (.getfield 79, 3) := by decide +kernel
theorem d_R_access_200 : decode b_R_access 200 = .ok (.iaload, 1) := by decide +kernel
theorem d_R_access_201 : decode b_R_access 201 = .ok (.aload_n 0, 1) := by decide +kernel
theorem d_R_access_202 : decode b_R_access 202 = .ok (.invokevirtual 85, 3) := by decide +kernel
theorem d_R_access_205 : decode b_R_access 205 = .ok (.invokevirtual 122, 3) := by decide +kernel
theorem d_R_access_208 : decode b_R_access 208 = .ok (.return_, 1) := by decide +kernel
theorem d_R_allow_0 : decode b_R_allow 0 = .ok (.aload_n 0, 1) := by decide +kernel
theorem d_R_allow_1 : decode b_R_allow 1 = .ok (.iload_n 1, 1) := by decide +kernel
theorem d_R_allow_2 : decode b_R_allow 2 = .ok (.invokevirtual 47, 3) := by decide +kernel
theorem d_R_allow_5 : decode b_R_allow 5 = .ok (.istore 6, 2) := by decide +kernel
theorem d_R_allow_7 : decode b_R_allow 7 = .ok (.iload 6, 2) := by decide +kernel
theorem d_R_allow_9 : decode b_R_allow 9 = .ok (.ifCond .le 6, 3) := by decide +kernel
theorem d_R_allow_12 : decode b_R_allow 12 = .ok (.iload 6, 2) := by decide +kernel
theorem d_R_allow_14 : decode b_R_allow 14 = .ok (.ireturn, 1) := by decide +kernel
theorem d_R_allow_15 : decode b_R_allow 15 = .ok (.aload_n 0, 1) := by decide +kernel
theorem d_R_allow_16 : decode b_R_allow 16 = .ok (.iload_n 1, 1) := by decide +kernel
theorem d_R_allow_17 : decode b_R_allow 17 = .ok (.iload 5, 2) := by decide +kernel
theorem d_R_allow_19 : decode b_R_allow 19 = .ok (.invokevirtual 51, 3) := by decide +kernel
theorem d_R_allow_22 : decode b_R_allow 22 = .ok (.ifCond .ne 5, 3) := by decide +kernel
theorem d_R_allow_25 : decode b_R_allow 25 = .ok (.iconst 3, 1) := by decide +kernel
theorem d_R_allow_26 : decode b_R_allow 26 = .ok (.ireturn, 1) := by decide +kernel
theorem d_R_allow_27 : decode b_R_allow 27 = .ok (.aload_n 0, 1) := by decide +kernel
theorem d_R_allow_28 : decode b_R_allow 28 = .ok (.getfield 23, 3) := by decide +kernel
theorem d_R_allow_31 : decode b_R_allow 31 = .ok (.iload_n 1, 1) := by decide +kernel
theorem d_R_allow_32 : decode b_R_allow 32 = .ok (.iaload, 1) := by decide +kernel
theorem d_R_allow_33 : decode b_R_allow 33 = .ok (.sipush 512, 3) := by decide +kernel
theorem d_R_allow_36 : decode b_R_allow 36 = .ok (.if_icmp .ge 13, 3) := by decide +kernel
theorem d_R_allow_39 : decode b_R_allow 39 = .ok (.aload_n 0, 1) := by decide +kernel
theorem d_R_allow_40 : decode b_R_allow 40 = .ok (.getfield 23, 3) := by decide +kernel
theorem d_R_allow_43 : decode b_R_allow 43 = .ok (.iload_n 1, 1) := by decide +kernel
theorem d_R_allow_44 : decode b_R_allow 44 = .ok (.iaload, 1) := by decide +kernel
theorem d_R_allow_45 : decode b_R_allow 45 = .ok (.i2l, 1) := by decide +kernel
theorem d_R_allow_46 : decode b_R_allow 46 = .ok (.goto 6, 3) := by decide +kernel
theorem d_R_allow_49 : decode b_R_allow 49 = .ok (.ldc2_w 55, 3) := by decide +kernel
theorem d_R_allow_52 : decode b_R_allow 52 = .ok (.lstore 7, 2) := by decide +kernel
theorem d_R_allow_54 : decode b_R_allow 54 = .ok (.lload_n 2, 1) := by decide +kernel
theorem d_R_allow_55 : decode b_R_allow 55 = .ok (.aload_n 0, 1) := by decide +kernel
theorem d_R_allow_56 : decode b_R_allow 56 = .ok (.getfield 20, 3) := by decide +kernel
theorem d_R_allow_59 : decode b_R_allow 59 = .ok (.iload_n 1, 1) := by decide +kernel
theorem d_R_allow_60 : decode b_R_allow 60 = .ok (.iaload, 1) := by decide +kernel
theorem d_R_allow_61 : decode b_R_allow 61 = .ok (.i2l, 1) := by decide +kernel
theorem d_R_allow_62 : decode b_R_allow 62 = .ok (.lcmp, 1) := by decide +kernel
theorem d_R_allow_63 : decode b_R_allow 63 = .ok (.ifCond .lt 14, 3) := by decide +kernel
theorem d_R_allow_66 : decode b_R_allow 66 = .ok (.lload_n 2, 1) := by decide +kernel
theorem d_R_allow_67 : decode b_R_allow 67 = .ok (.iload 4, 2) := by decide +kernel
theorem d_R_allow_69 : decode b_R_allow 69 = .ok (.i2l, 1) := by decide +kernel
theorem d_R_allow_70 : decode b_R_allow 70 = .ok (.ladd, 1) := by decide +kernel
theorem d_R_allow_71 : decode b_R_allow 71 = .ok (.lload 7, 2) := by decide +kernel
theorem d_R_allow_73 : decode b_R_allow 73 = .ok (.lcmp, 1) := by decide +kernel
theorem d_R_allow_74 : decode b_R_allow 74 = .ok (.ifCond .le 5, 3) := by decide +kernel
theorem d_R_allow_77 : decode b_R_allow 77 = .ok (.iconst 4, 1) := by decide +kernel
theorem d_R_allow_78 : decode b_R_allow 78 = .ok (.ireturn, 1) := by decide +kernel
theorem d_R_allow_79 : decode b_R_allow 79 = .ok (.lload_n 2, 1) := by decide +kernel
theorem d_R_allow_80 : decode b_R_allow 80 = .ok (.iload 4, 2) := by decide +kernel
theorem d_R_allow_82 : decode b_R_allow 82 = .ok (.i2l, 1) := by decide +kernel
theorem d_R_allow_83 : decode b_R_allow 83 = .ok (.lrem, 1) := by decide +kernel
theorem d_R_allow_84 : decode b_R_allow 84 = .ok (.lconst 0, 1) := by decide +kernel
theorem d_R_allow_85 : decode b_R_allow 85 = .ok (.lcmp, 1) := by decide +kernel
theorem d_R_allow_86 : decode b_R_allow 86 = .ok (.ifCond .ne 7, 3) := by decide +kernel
theorem d_R_allow_89 : decode b_R_allow 89 = .ok (.iconst 0, 1) := by decide +kernel
theorem d_R_allow_90 : decode b_R_allow 90 = .ok (.goto 4, 3) := by decide +kernel
theorem d_R_allow_93 : decode b_R_allow 93 = .ok (.iconst 5, 1) := by decide +kernel
theorem d_R_allow_94 : decode b_R_allow 94 = .ok (.ireturn, 1) := by decide +kernel
theorem d_R_bound_0 : decode b_R_bound 0 = .ok (.aload_n 0, 1) := by decide +kernel
theorem d_R_bound_1 : decode b_R_bound 1 = .ok (.getfield 26, 3) := by decide +kernel
theorem d_R_bound_4 : decode b_R_bound 4 = .ok (.aload_n 0, 1) := by decide +kernel
theorem d_R_bound_5 : decode b_R_bound 5 = .ok (.getfield 57, 3) := by decide +kernel
theorem d_R_bound_8 : decode b_R_bound 8 = .ok (.iaload, 1) := by decide +kernel
theorem d_R_bound_9 : decode b_R_bound 9 = .ok (.istore_n 1, 1) := by decide +kernel
theorem d_R_bound_10 : decode b_R_bound 10 = .ok (.iload_n 1, 1) := by decide +kernel
theorem d_R_bound_11 : decode b_R_bound 11 = .ok (.aload_n 0, 1) := by decide +kernel
theorem d_R_bound_12 : decode b_R_bound 12 = .ok (.getfield 26, 3) := by decide +kernel
theorem d_R_bound_15 : decode b_R_bound 15 = .ok (.aload_n 0, 1) := by decide +kernel
theorem d_R_bound_16 : decode b_R_bound 16 = .ok (.getfield 60, 3) := by decide +kernel
theorem d_R_bound_19 : decode b_R_bound 19 = .ok (.iaload, 1) := by decide +kernel
theorem d_R_bound_20 : decode b_R_bound 20 = .ok (.iadd, 1) := by decide +kernel
theorem d_R_bound_21 : decode b_R_bound 21 = .ok (.istore_n 2, 1) := by decide +kernel
theorem d_R_bound_22 : decode b_R_bound 22 = .ok (.aload_n 0, 1) := by decide +kernel
theorem d_R_bound_23 : decode b_R_bound 23 = .ok (.iload_n 1, 1) := by decide +kernel
theorem d_R_bound_24 : decode b_R_bound 24 = .ok (.iload_n 2, 1) := by decide +kernel
theorem d_R_bound_25 : decode b_R_bound 25 = .ok (.invokevirtual 63, 3) := by decide +kernel
theorem d_R_bound_28 : decode b_R_bound 28 = .ok (.istore_n 3, 1) := by decide +kernel
theorem d_R_bound_29 : decode b_R_bound 29 = .ok (.aload_n 0, 1) := by decide +kernel
theorem d_R_bound_30 : decode b_R_bound 30 = .ok (.getfield 20, 3) := by decide +kernel
theorem d_R_bound_33 : decode b_R_bound 33 = .ok (.bipush 11, 2) := by decide +kernel
theorem d_R_bound_35 : decode b_R_bound 35 = .ok (.iload_n 3, 1) := by decide +kernel
theorem d_R_bound_36 : decode b_R_bound 36 = .ok (.ifCond .eq 7, 3) := by decide +kernel
theorem d_R_bound_39 : decode b_R_bound 39 = .ok (.iload_n 1, 1) := by decide +kernel
theorem d_R_bound_40 : decode b_R_bound 40 = .ok (.goto 8, 3) := by decide +kernel
theorem d_R_bound_43 : decode b_R_bound 43 = .ok (.aload_n 0, 1) := by decide +kernel
theorem d_R_bound_44 : decode b_R_bound 44 = .ok (.iload_n 1, 1) := by decide +kernel
theorem d_R_bound_45 : decode b_R_bound 45 = .ok (.invokevirtual 66, 3) := by decide +kernel
theorem d_R_bound_48 : decode b_R_bound 48 = .ok (.iastore, 1) := by decide +kernel
theorem d_R_bound_49 : decode b_R_bound 49 = .ok (.aload_n 0, 1) := by decide +kernel
theorem d_R_bound_50 : decode b_R_bound 50 = .ok (.getfield 23, 3) := by decide +kernel
theorem d_R_bound_53 : decode b_R_bound 53 = .ok (.bipush 11, 2) := by decide +kernel
theorem d_R_bound_55 : decode b_R_bound 55 = .ok (.iload_n 3, 1) := by decide +kernel
theorem d_R_bound_56 : decode b_R_bound 56 = .ok (.ifCond .eq 7, 3) := by decide +kernel
theorem d_R_bound_59 : decode b_R_bound 59 = .ok (.iload_n 2, 1) := by decide +kernel
theorem d_R_bound_60 : decode b_R_bound 60 = .ok (.goto 8, 3) := by decide +kernel
theorem d_R_bound_63 : decode b_R_bound 63 = .ok (.aload_n 0, 1) := by decide +kernel
theorem d_R_bound_64 : decode b_R_bound 64 = .ok (.iload_n 2, 1) := by decide +kernel
theorem d_R_bound_65 : decode b_R_bound 65 = .ok (.invokevirtual 69, 3) := by decide +kernel
theorem d_R_bound_68 : decode b_R_bound 68 = .ok (.iastore, 1) := by decide +kernel
theorem d_R_bound_69 : decode b_R_bound 69 = .ok (.return_, 1) := by decide +kernel
theorem d_R_cause_0 : decode b_R_cause 0 = .ok (.aload_n 0, 1) := by decide +kernel
theorem d_R_cause_1 : decode b_R_cause 1 = .ok (.iconst 0, 1) := by decide +kernel
theorem d_R_cause_2 : decode b_R_cause 2 = .ok (.putfield 39, 3) := by decide +kernel
theorem d_R_cause_5 : decode b_R_cause 5 = .ok (.aload_n 0, 1) := by decide +kernel
theorem d_R_cause_6 : decode b_R_cause 6 = .ok (.getfield 165, 3) := by decide +kernel
theorem d_R_cause_9 : decode b_R_cause 9 = .ok (.ireturn, 1) := by decide +kernel
theorem d_R_copy_0 : decode b_R_copy 0 = .ok (.aload_n 0, 1) := by decide +kernel
theorem d_R_copy_1 : decode b_R_copy 1 = .ok (.iload_n 2, 1) := by decide +kernel
theorem d_R_copy_2 : decode b_R_copy 2 = .ok (.aload_n 0, 1) := by decide +kernel
theorem d_R_copy_3 : decode b_R_copy 3 = .ok (.getfield 20, 3) := by decide +kernel
theorem d_R_copy_6 : decode b_R_copy 6 = .ok (.iload_n 1, 1) := by decide +kernel
theorem d_R_copy_7 : decode b_R_copy 7 = .ok (.iaload, 1) := by decide +kernel
theorem d_R_copy_8 : decode b_R_copy 8 = .ok (.aload_n 0, 1) := by decide +kernel
theorem d_R_copy_9 : decode b_R_copy 9 = .ok (.getfield 23, 3) := by decide +kernel
theorem d_R_copy_12 : decode b_R_copy 12 = .ok (.iload_n 1, 1) := by decide +kernel
theorem d_R_copy_13 : decode b_R_copy 13 = .ok (.iaload, 1) := by decide +kernel
theorem d_R_copy_14 : decode b_R_copy 14 = .ok (.aload_n 0, 1) := by decide +kernel
theorem d_R_copy_15 : decode b_R_copy 15 = .ok (.getfield 26, 3) := by decide +kernel
theorem d_R_copy_18 : decode b_R_copy 18 = .ok (.iload_n 1, 1) := by decide +kernel
theorem d_R_copy_19 : decode b_R_copy 19 = .ok (.iaload, 1) := by decide +kernel
theorem d_R_copy_20 : decode b_R_copy 20 = .ok (.aload_n 0, 1) := by decide +kernel
theorem d_R_copy_21 : decode b_R_copy 21 = .ok (.getfield 29, 3) := by decide +kernel
theorem d_R_copy_24 : decode b_R_copy 24 = .ok (.iload_n 1, 1) := by decide +kernel
theorem d_R_copy_25 : decode b_R_copy 25 = .ok (.iaload, 1) := by decide +kernel
theorem d_R_copy_26 : decode b_R_copy 26 = .ok (.invokevirtual 35, 3) := by decide +kernel
theorem d_R_copy_29 : decode b_R_copy 29 = .ok (.aload_n 0, 1) := by decide +kernel
theorem d_R_copy_30 : decode b_R_copy 30 = .ok (.getfield 17, 3) := by decide +kernel
theorem d_R_copy_33 : decode b_R_copy 33 = .ok (.iload_n 2, 1) := by decide +kernel
theorem d_R_copy_34 : decode b_R_copy 34 = .ok (.aload_n 0, 1) := by decide +kernel
theorem d_R_copy_35 : decode b_R_copy 35 = .ok (.getfield 17, 3) := by decide +kernel
theorem d_R_copy_38 : decode b_R_copy 38 = .ok (.iload_n 1, 1) := by decide +kernel
theorem d_R_copy_39 : decode b_R_copy 39 = .ok (.baload, 1) := by decide +kernel
theorem d_R_copy_40 : decode b_R_copy 40 = .ok (.bastore, 1) := by decide +kernel
theorem d_R_copy_41 : decode b_R_copy 41 = .ok (.aload_n 0, 1) := by decide +kernel
theorem d_R_copy_42 : decode b_R_copy 42 = .ok (.getfield 32, 3) := by decide +kernel
theorem d_R_copy_45 : decode b_R_copy 45 = .ok (.iload_n 2, 1) := by decide +kernel
theorem d_R_copy_46 : decode b_R_copy 46 = .ok (.aload_n 0, 1) := by decide +kernel
theorem d_R_copy_47 : decode b_R_copy 47 = .ok (.getfield 32, 3) := by decide +kernel
theorem d_R_copy_50 : decode b_R_copy 50 = .ok (.iload_n 1, 1) := by decide +kernel
theorem d_R_copy_51 : decode b_R_copy 51 = .ok (.iaload, 1) := by decide +kernel
theorem d_R_copy_52 : decode b_R_copy 52 = .ok (.iastore, 1) := by decide +kernel
theorem d_R_copy_53 : decode b_R_copy 53 = .ok (.return_, 1) := by decide +kernel
theorem d_R_derive_0 : decode b_R_derive 0 = .ok (.aload_n 0, 1) := by decide +kernel
theorem d_R_derive_1 : decode b_R_derive 1 = .ok (.aload_n 0, 1) := by decide +kernel
theorem d_R_derive_2 : decode b_R_derive 2 = .ok (.getfield 72, 3) := by decide +kernel
theorem d_R_derive_5 : decode b_R_derive 5 = .ok (.bipush 31, 2) := by decide +kernel
theorem d_R_derive_7 : decode b_R_derive 7 = .ok (.if_icmp .ne 8, 3) := by decide +kernel
theorem d_R_derive_10 : decode b_R_derive 10 = .ok (.bipush 8, 2) := by decide +kernel
theorem d_R_derive_12 : decode b_R_derive 12 = .ok (.goto 7, 3) := by decide +kernel
theorem d_R_derive_15 : decode b_R_derive 15 = .ok (.aload_n 0, 1) := by decide +kernel
theorem d_R_derive_16 : decode b_R_derive 16 = .ok (.getfield 57, 3) := by decide +kernel
theorem d_R_derive_19 : decode b_R_derive 19 = .ok (.bipush 11, 2) := by decide +kernel
theorem d_R_derive_21 : decode b_R_derive 21 = .ok (.invokevirtual 134, 3) := by decide +kernel
theorem d_R_derive_24 : decode b_R_derive 24 = .ok (.aload_n 0, 1) := by decide +kernel
theorem d_R_derive_25 : decode b_R_derive 25 = .ok (.getfield 72, 3) := by decide +kernel
theorem d_R_derive_28 : decode b_R_derive 28 = .ok (.tableswitch 257 8 31 #[112, 130, 153, 153, 160, 182, 201, 212, 257, 257, 257, 257, 257, 257, 257, 257, 257, 257, 257, 257, 257, 223, 257, 234], 112) := by decide +kernel
theorem d_R_derive_140 : decode b_R_derive 140 = .ok (.aload_n 0, 1) := by decide +kernel
theorem d_R_derive_141 : decode b_R_derive 141 = .ok (.bipush 11, 2) := by decide +kernel
theorem d_R_derive_143 : decode b_R_derive 143 = .ok (.aload_n 0, 1) := by decide +kernel
theorem d_R_derive_144 : decode b_R_derive 144 = .ok (.getfield 26, 3) := by decide +kernel
theorem d_R_derive_147 : decode b_R_derive 147 = .ok (.aload_n 0, 1) := by decide +kernel
theorem d_R_derive_148 : decode b_R_derive 148 = .ok (.getfield 60, 3) := by decide +kernel
theorem d_R_derive_151 : decode b_R_derive 151 = .ok (.iaload, 1) := by decide +kernel
theorem d_R_derive_152 : decode b_R_derive 152 = .ok (.invokevirtual 137, 3) := by decide +kernel
theorem d_R_derive_155 : decode b_R_derive 155 = .ok (.goto 130, 3) := by decide +kernel
theorem d_R_derive_158 : decode b_R_derive 158 = .ok (.aload_n 0, 1) := by decide +kernel
theorem d_R_derive_159 : decode b_R_derive 159 = .ok (.bipush 11, 2) := by decide +kernel
theorem d_R_derive_161 : decode b_R_derive 161 = .ok (.aload_n 0, 1) := by decide +kernel
theorem d_R_derive_162 : decode b_R_derive 162 = .ok (.getfield 26, 3) := by decide +kernel
theorem d_R_derive_165 : decode b_R_derive 165 = .ok (.aload_n 0, 1) := by decide +kernel
theorem d_R_derive_166 : decode b_R_derive 166 = .ok (.getfield 57, 3) := by decide +kernel
theorem d_R_derive_169 : decode b_R_derive 169 = .ok (.iaload, 1) := by decide +kernel
theorem d_R_derive_170 : decode b_R_derive 170 = .ok (.aload_n 0, 1) := by decide +kernel
theorem d_R_derive_171 : decode b_R_derive 171 = .ok (.getfield 82, 3) := by decide +kernel
theorem d_R_derive_174 : decode b_R_derive 174 = .ok (.iadd, 1) := by decide +kernel
theorem d_R_derive_175 : decode b_R_derive 175 = .ok (.invokevirtual 137, 3) := by decide +kernel
theorem d_R_derive_178 : decode b_R_derive 178 = .ok (.goto 107, 3) := by decide +kernel
theorem d_R_derive_181 : decode b_R_derive 181 = .ok (.aload_n 0, 1) := by decide +kernel
theorem d_R_derive_182 : decode b_R_derive 182 = .ok (.invokevirtual 140, 3) := by decide +kernel
theorem d_R_derive_185 : decode b_R_derive 185 = .ok (.goto 100, 3) := by decide +kernel
theorem d_R_derive_188 : decode b_R_derive 188 = .ok (.aload_n 0, 1) := by decide +kernel
theorem d_R_derive_189 : decode b_R_derive 189 = .ok (.getfield 29, 3) := by decide +kernel
theorem d_R_derive_192 : decode b_R_derive 192 = .ok (.bipush 11, 2) := by decide +kernel
theorem d_R_derive_194 : decode b_R_derive 194 = .ok (.dup2, 1) := by decide +kernel
theorem d_R_derive_195 : decode b_R_derive 195 = .ok (.iaload, 1) := by decide +kernel
theorem d_R_derive_196 : decode b_R_derive 196 = .ok (.aload_n 0, 1) := by decide +kernel
theorem d_R_derive_197 : decode b_R_derive 197 = .ok (.getfield 26, 3) := by decide +kernel
theorem d_R_derive_200 : decode b_R_derive 200 = .ok (.aload_n 0, 1) := by decide +kernel
theorem d_R_derive_201 : decode b_R_derive 201 = .ok (.getfield 60, 3) := by decide +kernel
theorem d_R_derive_204 : decode b_R_derive 204 = .ok (.iaload, 1) := by decide +kernel
theorem d_R_derive_205 : decode b_R_derive 205 = .ok (.iand, 1) := by decide +kernel
theorem d_R_derive_206 : decode b_R_derive 206 = .ok (.iastore, 1) := by decide +kernel
theorem d_R_derive_207 : decode b_R_derive 207 = .ok (.goto 78, 3) := by decide +kernel
theorem d_R_derive_210 : decode b_R_derive 210 = .ok (.aload_n 0, 1) := by decide +kernel
theorem d_R_derive_211 : decode b_R_derive 211 = .ok (.getfield 32, 3) := by decide +kernel
theorem d_R_derive_214 : decode b_R_derive 214 = .ok (.bipush 11, 2) := by decide +kernel
theorem d_R_derive_216 : decode b_R_derive 216 = .ok (.aload_n 0, 1) := by decide +kernel
theorem d_R_derive_217 : decode b_R_derive 217 = .ok (.getfield 26, 3) := by decide +kernel
theorem d_R_derive_220 : decode b_R_derive 220 = .ok (.aload_n 0, 1) := by decide +kernel
theorem d_R_derive_221 : decode b_R_derive 221 = .ok (.getfield 60, 3) := by decide +kernel
theorem d_R_derive_224 : decode b_R_derive 224 = .ok (.iaload, 1) := by decide +kernel
theorem d_R_derive_225 : decode b_R_derive 225 = .ok (.iastore, 1) := by decide +kernel
theorem d_R_derive_226 : decode b_R_derive 226 = .ok (.goto 59, 3) := by decide +kernel
theorem d_R_derive_229 : decode b_R_derive 229 = .ok (.aload_n 0, 1) := by decide +kernel
theorem d_R_derive_230 : decode b_R_derive 230 = .ok (.getfield 32, 3) := by decide +kernel
theorem d_R_derive_233 : decode b_R_derive 233 = .ok (.bipush 11, 2) := by decide +kernel
theorem d_R_derive_235 : decode b_R_derive 235 = .ok (.iconst 0, 1) := by decide +kernel
theorem d_R_derive_236 : decode b_R_derive 236 = .ok (.iastore, 1) := by decide +kernel
theorem d_R_derive_237 : decode b_R_derive 237 = .ok (.goto 48, 3) := by decide +kernel
theorem d_R_derive_240 : decode b_R_derive 240 = .ok (.aload_n 0, 1) := by decide +kernel
theorem d_R_derive_241 : decode b_R_derive 241 = .ok (.getfield 32, 3) := by decide +kernel
theorem d_R_derive_244 : decode b_R_derive 244 = .ok (.bipush 11, 2) := by decide +kernel
theorem d_R_derive_246 : decode b_R_derive 246 = .ok (.iconst 1, 1) := by decide +kernel
theorem d_R_derive_247 : decode b_R_derive 247 = .ok (.iastore, 1) := by decide +kernel
theorem d_R_derive_248 : decode b_R_derive 248 = .ok (.goto 37, 3) := by decide +kernel
theorem d_R_derive_251 : decode b_R_derive 251 = .ok (.aload_n 0, 1) := by decide +kernel
theorem d_R_derive_252 : decode b_R_derive 252 = .ok (.getfield 17, 3) := by decide +kernel
theorem d_R_derive_255 : decode b_R_derive 255 = .ok (.bipush 11, 2) := by decide +kernel
theorem d_R_derive_257 : decode b_R_derive 257 = .ok (.iconst 0, 1) := by decide +kernel
theorem d_R_derive_258 : decode b_R_derive 258 = .ok (.bastore, 1) := by decide +kernel
theorem d_R_derive_259 : decode b_R_derive 259 = .ok (.goto 26, 3) := by decide +kernel
theorem d_R_derive_262 : decode b_R_derive 262 = .ok (.aload_n 0, 1) := by decide +kernel
theorem d_R_derive_263 : decode b_R_derive 263 = .ok (.bipush 11, 2) := by decide +kernel
theorem d_R_derive_265 : decode b_R_derive 265 = .ok (.aload_n 0, 1) := by decide +kernel
theorem d_R_derive_266 : decode b_R_derive 266 = .ok (.getfield 26, 3) := by decide +kernel
theorem d_R_derive_269 : decode b_R_derive 269 = .ok (.bipush 8, 2) := by decide +kernel
theorem d_R_derive_271 : decode b_R_derive 271 = .ok (.iaload, 1) := by decide +kernel
theorem d_R_derive_272 : decode b_R_derive 272 = .ok (.iconst 4, 1) := by decide +kernel
theorem d_R_derive_273 : decode b_R_derive 273 = .ok (.aload_n 0, 1) := by decide +kernel
theorem d_R_derive_274 : decode b_R_derive 274 = .ok (.getfield 82, 3) := by decide +kernel
theorem d_R_derive_277 : decode b_R_derive 277 = .ok (.imul, 1) := by decide +kernel
theorem d_R_derive_278 : decode b_R_derive 278 = .ok (.iadd, 1) := by decide +kernel
theorem d_R_derive_279 : decode b_R_derive 279 = .ok (.invokevirtual 137, 3) := by decide +kernel
theorem d_R_derive_282 : decode b_R_derive 282 = .ok (.goto 3, 3) := by decide +kernel
theorem d_R_derive_285 : decode b_R_derive 285 = .ok (.aload_n 0, 1) := by decide +kernel
theorem d_R_derive_286 : decode b_R_derive 286 = .ok (.bipush 11, 2) := by decide +kernel
theorem d_R_derive_288 : decode b_R_derive 288 = .ok (.aload_n 0, 1) := by decide +kernel
theorem d_R_derive_289 : decode b_R_derive 289 = .ok (.getfield 79, 3) := by decide +kernel
theorem d_R_derive_292 : decode b_R_derive 292 = .ok (.invokevirtual 134, 3) := by decide +kernel
theorem d_R_derive_295 : decode b_R_derive 295 = .ok (.return_, 1) := by decide +kernel
theorem d_R_doIt_0 : decode b_R_doIt 0 = .ok (.aload_n 0, 1) := by decide +kernel
theorem d_R_doIt_1 : decode b_R_doIt 1 = .ok (.getfield 72, 3) := by decide +kernel
theorem d_R_doIt_4 : decode b_R_doIt 4 = .ok (.iconst 4, 1) := by decide +kernel
theorem d_R_doIt_5 : decode b_R_doIt 5 = .ok (.if_icmp .lt 30, 3) := by decide +kernel
theorem d_R_doIt_8 : decode b_R_doIt 8 = .ok (.aload_n 0, 1) := by decide +kernel
theorem d_R_doIt_9 : decode b_R_doIt 9 = .ok (.getfield 72, 3) := by decide +kernel
theorem d_R_doIt_12 : decode b_R_doIt 12 = .ok (.bipush 22, 2) := by decide +kernel
theorem d_R_doIt_14 : decode b_R_doIt 14 = .ok (.if_icmp .le 12, 3) := by decide +kernel
theorem d_R_doIt_17 : decode b_R_doIt 17 = .ok (.aload_n 0, 1) := by decide +kernel
theorem d_R_doIt_18 : decode b_R_doIt 18 = .ok (.getfield 72, 3) := by decide +kernel
theorem d_R_doIt_21 : decode b_R_doIt 21 = .ok (.bipush 29, 2) := by decide +kernel
theorem d_R_doIt_23 : decode b_R_doIt 23 = .ok (.if_icmp .lt 12, 3) := by decide +kernel
theorem d_R_doIt_26 : decode b_R_doIt 26 = .ok (.aload_n 0, 1) := by decide +kernel
theorem d_R_doIt_27 : decode b_R_doIt 27 = .ok (.getfield 72, 3) := by decide +kernel
theorem d_R_doIt_30 : decode b_R_doIt 30 = .ok (.bipush 30, 2) := by decide +kernel
theorem d_R_doIt_32 : decode b_R_doIt 32 = .ok (.if_icmp .ne 7, 3) := by decide +kernel
theorem d_R_doIt_35 : decode b_R_doIt 35 = .ok (.iconst 1, 1) := by decide +kernel
theorem d_R_doIt_36 : decode b_R_doIt 36 = .ok (.goto 4, 3) := by decide +kernel
theorem d_R_doIt_39 : decode b_R_doIt 39 = .ok (.iconst 0, 1) := by decide +kernel
theorem d_R_doIt_40 : decode b_R_doIt 40 = .ok (.istore_n 1, 1) := by decide +kernel
theorem d_R_doIt_41 : decode b_R_doIt 41 = .ok (.aload_n 0, 1) := by decide +kernel
theorem d_R_doIt_42 : decode b_R_doIt 42 = .ok (.getfield 72, 3) := by decide +kernel
theorem d_R_doIt_45 : decode b_R_doIt 45 = .ok (.iconst 3, 1) := by decide +kernel
theorem d_R_doIt_46 : decode b_R_doIt 46 = .ok (.if_icmp .le 16, 3) := by decide +kernel
theorem d_R_doIt_49 : decode b_R_doIt 49 = .ok (.aload_n 0, 1) := by decide +kernel
theorem d_R_doIt_50 : decode b_R_doIt 50 = .ok (.getfield 72, 3) := by decide +kernel
theorem d_R_doIt_53 : decode b_R_doIt 53 = .ok (.bipush 7, 2) := by decide +kernel
theorem d_R_doIt_55 : decode b_R_doIt 55 = .ok (.if_icmp .ge 7, 3) := by decide +kernel
theorem d_R_doIt_58 : decode b_R_doIt 58 = .ok (.iconst 1, 1) := by decide +kernel
theorem d_R_doIt_59 : decode b_R_doIt 59 = .ok (.goto 4, 3) := by decide +kernel
theorem d_R_doIt_62 : decode b_R_doIt 62 = .ok (.iconst 0, 1) := by decide +kernel
theorem d_R_doIt_63 : decode b_R_doIt 63 = .ok (.istore_n 2, 1) := by decide +kernel
theorem d_R_doIt_64 : decode b_R_doIt 64 = .ok (.aload_n 0, 1) := by decide +kernel
theorem d_R_doIt_65 : decode b_R_doIt 65 = .ok (.getfield 26, 3) := by decide +kernel
theorem d_R_doIt_68 : decode b_R_doIt 68 = .ok (.bipush 8, 2) := by decide +kernel
theorem d_R_doIt_70 : decode b_R_doIt 70 = .ok (.iaload, 1) := by decide +kernel
theorem d_R_doIt_71 : decode b_R_doIt 71 = .ok (.iconst 4, 1) := by decide +kernel
theorem d_R_doIt_72 : decode b_R_doIt 72 = .ok (.iadd, 1) := by decide +kernel
theorem d_R_doIt_73 : decode b_R_doIt 73 = .ok (.iload_n 2, 1) := by decide +kernel
theorem d_R_doIt_74 : decode b_R_doIt 74 = .ok (.ifCond .eq 19, 3) := by decide +kernel
theorem d_R_doIt_77 : decode b_R_doIt 77 = .ok (.aload_n 0, 1) := by decide +kernel
theorem d_R_doIt_78 : decode b_R_doIt 78 = .ok (.invokevirtual 143, 3) := by decide +kernel
theorem d_R_doIt_81 : decode b_R_doIt 81 = .ok (.ifCond .eq 12, 3) := by decide +kernel
theorem d_R_doIt_84 : decode b_R_doIt 84 = .ok (.iconst 4, 1) := by decide +kernel
theorem d_R_doIt_85 : decode b_R_doIt 85 = .ok (.aload_n 0, 1) := by decide +kernel
theorem d_R_doIt_86 : decode b_R_doIt 86 = .ok (.getfield 82, 3) := by decide +kernel
theorem d_R_doIt_89 : decode b_R_doIt 89 = .ok (.imul, 1) := by decide +kernel
theorem d_R_doIt_90 : decode b_R_doIt 90 = .ok (.goto 4, 3) := by decide +kernel
theorem d_R_doIt_93 : decode b_R_doIt 93 = .ok (.iconst 0, 1) := by decide +kernel
theorem d_R_doIt_94 : decode b_R_doIt 94 = .ok (.iadd, 1) := by decide +kernel
theorem d_R_doIt_95 : decode b_R_doIt 95 = .ok (.istore_n 3, 1) := by decide +kernel
theorem d_R_doIt_96 : decode b_R_doIt 96 = .ok (.iload_n 1, 1) := by decide +kernel
theorem d_R_doIt_97 : decode b_R_doIt 97 = .ok (.ifCond .eq 18, 3) := by decide +kernel
theorem d_R_doIt_100 : decode b_R_doIt 100 = .ok (.aload_n 0, 1) := by decide +kernel
theorem d_R_doIt_101 : decode b_R_doIt 101 = .ok (.aload_n 0, 1) := by decide +kernel
theorem d_R_doIt_102 : decode b_R_doIt 102 = .ok (.getfield 79, 3) := by decide +kernel
theorem d_R_doIt_105 : decode b_R_doIt 105 = .ok (.aload_n 0, 1) := by decide +kernel
theorem d_R_doIt_106 : decode b_R_doIt 106 = .ok (.invokevirtual 146, 3) := by decide +kernel
theorem d_R_doIt_109 : decode b_R_doIt 109 = .ok (.invokevirtual 114, 3) := by decide +kernel
theorem d_R_doIt_112 : decode b_R_doIt 112 = .ok (.goto 90, 3) := by decide +kernel
theorem d_R_doIt_115 : decode b_R_doIt 115 = .ok (.aload_n 0, 1) := by decide +kernel
theorem d_R_doIt_116 : decode b_R_doIt 116 = .ok (.getfield 72, 3) := by decide +kernel
theorem d_R_doIt_119 : decode b_R_doIt 119 = .ok (.bipush 16, 2) := by decide +kernel
theorem d_R_doIt_121 : decode b_R_doIt 121 = .ok (.if_icmp .le 19, 3) := by decide +kernel
theorem d_R_doIt_124 : decode b_R_doIt 124 = .ok (.aload_n 0, 1) := by decide +kernel
theorem d_R_doIt_125 : decode b_R_doIt 125 = .ok (.getfield 72, 3) := by decide +kernel
theorem d_R_doIt_128 : decode b_R_doIt 128 = .ok (.bipush 23, 2) := by decide +kernel
theorem d_R_doIt_130 : decode b_R_doIt 130 = .ok (.if_icmp .ge 10, 3) := by decide +kernel
theorem d_R_doIt_133 : decode b_R_doIt 133 = .ok (.aload_n 0, 1) := by decide +kernel
theorem d_R_doIt_134 : decode b_R_doIt 134 = .ok (.invokevirtual 149, 3) := by decide +kernel
theorem d_R_doIt_137 : decode b_R_doIt 137 = .ok (.goto 65, 3) := by decide +kernel
theorem d_R_doIt_140 : decode b_R_doIt 140 = .ok (.aload_n 0, 1) := by decide +kernel
theorem d_R_doIt_141 : decode b_R_doIt 141 = .ok (.getfield 72, 3) := by decide +kernel
theorem d_R_doIt_144 : decode b_R_doIt 144 = .ok (.bipush 32, 2) := by decide +kernel
theorem d_R_doIt_146 : decode b_R_doIt 146 = .ok (.if_icmp .ne 39, 3) := by decide +kernel
theorem d_R_doIt_149 : decode b_R_doIt 149 = .ok (.aload_n 0, 1) := by decide +kernel
theorem d_R_doIt_150 : decode b_R_doIt 150 = .ok (.aload_n 0, 1) := by decide +kernel
theorem d_R_doIt_151 : decode b_R_doIt 151 = .ok (.getfield 79, 3) := by decide +kernel
theorem d_R_doIt_154 : decode b_R_doIt 154 = .ok (.invokevirtual 47, 3) := by decide +kernel
theorem d_R_doIt_157 : decode b_R_doIt 157 = .ok (.ifCond .ne 28, 3) := by decide +kernel
theorem d_R_doIt_160 : decode b_R_doIt 160 = .ok (.aload_n 0, 1) := by decide +kernel
theorem d_R_doIt_161 : decode b_R_doIt 161 = .ok (.aload_n 0, 1) := by decide +kernel
theorem d_R_doIt_162 : decode b_R_doIt 162 = .ok (.getfield 79, 3) := by decide +kernel
theorem d_R_doIt_165 : decode b_R_doIt 165 = .ok (.iconst 4, 1) := by decide +kernel
theorem d_R_doIt_166 : decode b_R_doIt 166 = .ok (.invokevirtual 51, 3) := by decide +kernel
theorem d_R_doIt_169 : decode b_R_doIt 169 = .ok (.ifCond .eq 16, 3) := by decide +kernel
theorem d_R_doIt_172 : decode b_R_doIt 172 = .ok (.aload_n 0, 1) := by decide +kernel
theorem d_R_doIt_173 : decode b_R_doIt 173 = .ok (.aload_n 0, 1) := by decide +kernel
theorem d_R_doIt_174 : decode b_R_doIt 174 = .ok (.getfield 79, 3) := by decide +kernel
theorem d_R_doIt_177 : decode b_R_doIt 177 = .ok (.bipush 9, 2) := by decide +kernel
theorem d_R_doIt_179 : decode b_R_doIt 179 = .ok (.invokevirtual 134, 3) := by decide +kernel
theorem d_R_doIt_182 : decode b_R_doIt 182 = .ok (.goto 20, 3) := by decide +kernel
theorem d_R_doIt_185 : decode b_R_doIt 185 = .ok (.iload_n 2, 1) := by decide +kernel
theorem d_R_doIt_186 : decode b_R_doIt 186 = .ok (.ifCond .ne 16, 3) := by decide +kernel
theorem d_R_doIt_189 : decode b_R_doIt 189 = .ok (.aload_n 0, 1) := by decide +kernel
theorem d_R_doIt_190 : decode b_R_doIt 190 = .ok (.getfield 72, 3) := by decide +kernel
theorem d_R_doIt_193 : decode b_R_doIt 193 = .ok (.bipush 32, 2) := by decide +kernel
theorem d_R_doIt_195 : decode b_R_doIt 195 = .ok (.if_icmp .eq 7, 3) := by decide +kernel
theorem d_R_doIt_198 : decode b_R_doIt 198 = .ok (.aload_n 0, 1) := by decide +kernel
theorem d_R_doIt_199 : decode b_R_doIt 199 = .ok (.invokevirtual 152, 3) := by decide +kernel
theorem d_R_doIt_202 : decode b_R_doIt 202 = .ok (.aload_n 0, 1) := by decide +kernel
theorem d_R_doIt_203 : decode b_R_doIt 203 = .ok (.bipush 8, 2) := by decide +kernel
theorem d_R_doIt_205 : decode b_R_doIt 205 = .ok (.iload_n 3, 1) := by decide +kernel
theorem d_R_doIt_206 : decode b_R_doIt 206 = .ok (.invokevirtual 137, 3) := by decide +kernel
theorem d_R_doIt_209 : decode b_R_doIt 209 = .ok (.return_, 1) := by decide +kernel
theorem d_R_down_0 : decode b_R_down 0 = .ok (.iload_n 1, 1) := by decide +kernel
theorem d_R_down_1 : decode b_R_down 1 = .ok (.iload_n 1, 1) := by decide +kernel
theorem d_R_down_2 : decode b_R_down 2 = .ok (.bipush 8, 2) := by decide +kernel
theorem d_R_down_4 : decode b_R_down 4 = .ok (.irem, 1) := by decide +kernel
theorem d_R_down_5 : decode b_R_down 5 = .ok (.isub, 1) := by decide +kernel
theorem d_R_down_6 : decode b_R_down 6 = .ok (.ireturn, 1) := by decide +kernel
theorem d_R_exact_0 : decode b_R_exact 0 = .ok (.iload_n 2, 1) := by decide +kernel
theorem d_R_exact_1 : decode b_R_exact 1 = .ok (.iload_n 1, 1) := by decide +kernel
theorem d_R_exact_2 : decode b_R_exact 2 = .ok (.isub, 1) := by decide +kernel
theorem d_R_exact_3 : decode b_R_exact 3 = .ok (.bipush 64, 2) := by decide +kernel
theorem d_R_exact_5 : decode b_R_exact 5 = .ok (.if_icmp .le 17, 3) := by decide +kernel
theorem d_R_exact_8 : decode b_R_exact 8 = .ok (.iload_n 1, 1) := by decide +kernel
theorem d_R_exact_9 : decode b_R_exact 9 = .ok (.bipush 8, 2) := by decide +kernel
theorem d_R_exact_11 : decode b_R_exact 11 = .ok (.irem, 1) := by decide +kernel
theorem d_R_exact_12 : decode b_R_exact 12 = .ok (.ifCond .ne 14, 3) := by decide +kernel
theorem d_R_exact_15 : decode b_R_exact 15 = .ok (.iload_n 2, 1) := by decide +kernel
theorem d_R_exact_16 : decode b_R_exact 16 = .ok (.bipush 8, 2) := by decide +kernel
theorem d_R_exact_18 : decode b_R_exact 18 = .ok (.irem, 1) := by decide +kernel
theorem d_R_exact_19 : decode b_R_exact 19 = .ok (.ifCond .ne 7, 3) := by decide +kernel
theorem d_R_exact_22 : decode b_R_exact 22 = .ok (.iconst 1, 1) := by decide +kernel
theorem d_R_exact_23 : decode b_R_exact 23 = .ok (.goto 4, 3) := by decide +kernel
theorem d_R_exact_26 : decode b_R_exact 26 = .ok (.iconst 0, 1) := by decide +kernel
theorem d_R_exact_27 : decode b_R_exact 27 = .ok (.ireturn, 1) := by decide +kernel
theorem d_R_exception_0 : decode b_R_exception 0 = .ok (.aload_n 0, 1) := by decide +kernel
theorem d_R_exception_1 : decode b_R_exception 1 = .ok (.getfield 72, 3) := by decide +kernel
theorem d_R_exception_4 : decode b_R_exception 4 = .ok (.bipush 8, 2) := by decide +kernel
theorem d_R_exception_6 : decode b_R_exception 6 = .ok (.if_icmp .eq 21, 3) := by decide +kernel
theorem d_R_exception_9 : decode b_R_exception 9 = .ok (.aload_n 0, 1) := by decide +kernel
theorem d_R_exception_10 : decode b_R_exception 10 = .ok (.getfield 72, 3) := by decide +kernel
theorem d_R_exception_13 : decode b_R_exception 13 = .ok (.bipush 9, 2) := by decide +kernel
theorem d_R_exception_15 : decode b_R_exception 15 = .ok (.if_icmp .eq 12, 3) := by decide +kernel
theorem d_R_exception_18 : decode b_R_exception 18 = .ok (.aload_n 0, 1) := by decide +kernel
theorem d_R_exception_19 : decode b_R_exception 19 = .ok (.getfield 72, 3) := by decide +kernel
theorem d_R_exception_22 : decode b_R_exception 22 = .ok (.bipush 12, 2) := by decide +kernel
theorem d_R_exception_24 : decode b_R_exception 24 = .ok (.if_icmp .ne 12, 3) := by decide +kernel
theorem d_R_exception_27 : decode b_R_exception 27 = .ok (.aload_n 0, 1) := by decide +kernel
theorem d_R_exception_28 : decode b_R_exception 28 = .ok (.aload_n 0, 1) := by decide +kernel
theorem d_R_exception_29 : decode b_R_exception 29 = .ok (.getfield 57, 3) := by decide +kernel
theorem d_R_exception_32 : decode b_R_exception 32 = .ok (.invokevirtual 93, 3) := by decide +kernel
theorem d_R_exception_35 : decode b_R_exception 35 = .ok (.ireturn, 1) := by decide +kernel
theorem d_R_exception_36 : decode b_R_exception 36 = .ok (.aload_n 0, 1) := by decide +kernel
theorem d_R_exception_37 : decode b_R_exception 37 = .ok (.getfield 72, 3) := by decide +kernel
theorem d_R_exception_40 : decode b_R_exception 40 = .ok (.bipush 10, 2) := by decide +kernel
theorem d_R_exception_42 : decode b_R_exception 42 = .ok (.if_icmp .eq 12, 3) := by decide +kernel
theorem d_R_exception_45 : decode b_R_exception 45 = .ok (.aload_n 0, 1) := by decide +kernel
theorem d_R_exception_46 : decode b_R_exception 46 = .ok (.getfield 72, 3) := by decide +kernel
theorem d_R_exception_49 : decode b_R_exception 49 = .ok (.bipush 11, 2) := by decide +kernel
theorem d_R_exception_51 : decode b_R_exception 51 = .ok (.if_icmp .ne 8, 3) := by decide +kernel
theorem d_R_exception_54 : decode b_R_exception 54 = .ok (.aload_n 0, 1) := by decide +kernel
theorem d_R_exception_55 : decode b_R_exception 55 = .ok (.invokevirtual 96, 3) := by decide +kernel
theorem d_R_exception_58 : decode b_R_exception 58 = .ok (.ireturn, 1) := by decide +kernel
theorem d_R_exception_59 : decode b_R_exception 59 = .ok (.aload_n 0, 1) := by decide +kernel
theorem d_R_exception_60 : decode b_R_exception 60 = .ok (.getfield 72, 3) := by decide +kernel
theorem d_R_exception_63 : decode b_R_exception 63 = .ok (.bipush 13, 2) := by decide +kernel
theorem d_R_exception_65 : decode b_R_exception 65 = .ok (.if_icmp .ne 8, 3) := by decide +kernel
theorem d_R_exception_68 : decode b_R_exception 68 = .ok (.aload_n 0, 1) := by decide +kernel
theorem d_R_exception_69 : decode b_R_exception 69 = .ok (.invokevirtual 99, 3) := by decide +kernel
theorem d_R_exception_72 : decode b_R_exception 72 = .ok (.ireturn, 1) := by decide +kernel
theorem d_R_exception_73 : decode b_R_exception 73 = .ok (.aload_n 0, 1) := by decide +kernel
theorem d_R_exception_74 : decode b_R_exception 74 = .ok (.getfield 72, 3) := by decide +kernel
theorem d_R_exception_77 : decode b_R_exception 77 = .ok (.bipush 14, 2) := by decide +kernel
theorem d_R_exception_79 : decode b_R_exception 79 = .ok (.if_icmp .ne 8, 3) := by decide +kernel
theorem d_R_exception_82 : decode b_R_exception 82 = .ok (.aload_n 0, 1) := by decide +kernel
theorem d_R_exception_83 : decode b_R_exception 83 = .ok (.invokevirtual 102, 3) := by decide +kernel
theorem d_R_exception_86 : decode b_R_exception 86 = .ok (.ireturn, 1) := by decide +kernel
theorem d_R_exception_87 : decode b_R_exception 87 = .ok (.aload_n 0, 1) := by decide +kernel
theorem d_R_exception_88 : decode b_R_exception 88 = .ok (.getfield 72, 3) := by decide +kernel
theorem d_R_exception_91 : decode b_R_exception 91 = .ok (.bipush 15, 2) := by decide +kernel
theorem d_R_exception_93 : decode b_R_exception 93 = .ok (.if_icmp .ne 43, 3) := by decide +kernel
theorem d_R_exception_96 : decode b_R_exception 96 = .ok (.aload_n 0, 1) := by decide +kernel
theorem d_R_exception_97 : decode b_R_exception 97 = .ok (.aload_n 0, 1) := by decide +kernel
theorem d_R_exception_98 : decode b_R_exception 98 = .ok (.getfield 57, 3) := by decide +kernel
theorem d_R_exception_101 : decode b_R_exception 101 = .ok (.invokevirtual 47, 3) := by decide +kernel
theorem d_R_exception_104 : decode b_R_exception 104 = .ok (.ifCond .le 14, 3) := by decide +kernel
theorem d_R_exception_107 : decode b_R_exception 107 = .ok (.aload_n 0, 1) := by decide +kernel
theorem d_R_exception_108 : decode b_R_exception 108 = .ok (.aload_n 0, 1) := by decide +kernel
theorem d_R_exception_109 : decode b_R_exception 109 = .ok (.getfield 57, 3) := by decide +kernel
theorem d_R_exception_112 : decode b_R_exception 112 = .ok (.invokevirtual 47, 3) := by decide +kernel
theorem d_R_exception_115 : decode b_R_exception 115 = .ok (.goto 20, 3) := by decide +kernel
theorem d_R_exception_118 : decode b_R_exception 118 = .ok (.aload_n 0, 1) := by decide +kernel
theorem d_R_exception_119 : decode b_R_exception 119 = .ok (.aload_n 0, 1) := by decide +kernel
theorem d_R_exception_120 : decode b_R_exception 120 = .ok (.getfield 57, 3) := by decide +kernel
theorem d_R_exception_123 : decode b_R_exception 123 = .ok (.iconst 4, 1) := by decide +kernel
theorem d_R_exception_124 : decode b_R_exception 124 = .ok (.invokevirtual 51, 3) := by decide +kernel
theorem d_R_exception_127 : decode b_R_exception 127 = .ok (.ifCond .eq 7, 3) := by decide +kernel
theorem d_R_exception_130 : decode b_R_exception 130 = .ok (.iconst 0, 1) := by decide +kernel
theorem d_R_exception_131 : decode b_R_exception 131 = .ok (.goto 4, 3) := by decide +kernel
theorem d_R_exception_134 : decode b_R_exception 134 = .ok (.iconst 3, 1) := by decide +kernel
theorem d_R_exception_135 : decode b_R_exception 135 = .ok (.ireturn, 1) := by decide +kernel
theorem d_R_exception_136 : decode b_R_exception 136 = .ok (.aload_n 0, 1) := by decide +kernel
theorem d_R_exception_137 : decode b_R_exception 137 = .ok (.getfield 72, 3) := by decide +kernel
theorem d_R_exception_140 : decode b_R_exception 140 = .ok (.bipush 16, 2) := by decide +kernel
theorem d_R_exception_142 : decode b_R_exception 142 = .ok (.if_icmp .ne 8, 3) := by decide +kernel
theorem d_R_exception_145 : decode b_R_exception 145 = .ok (.aload_n 0, 1) := by decide +kernel
theorem d_R_exception_146 : decode b_R_exception 146 = .ok (.invokevirtual 105, 3) := by decide +kernel
theorem d_R_exception_149 : decode b_R_exception 149 = .ok (.ireturn, 1) := by decide +kernel
theorem d_R_exception_150 : decode b_R_exception 150 = .ok (.aload_n 0, 1) := by decide +kernel
theorem d_R_exception_151 : decode b_R_exception 151 = .ok (.getfield 72, 3) := by decide +kernel
theorem d_R_exception_154 : decode b_R_exception 154 = .ok (.bipush 16, 2) := by decide +kernel
theorem d_R_exception_156 : decode b_R_exception 156 = .ok (.if_icmp .le 17, 3) := by decide +kernel
theorem d_R_exception_159 : decode b_R_exception 159 = .ok (.aload_n 0, 1) := by decide +kernel
theorem d_R_exception_160 : decode b_R_exception 160 = .ok (.getfield 72, 3) := by decide +kernel
theorem d_R_exception_163 : decode b_R_exception 163 = .ok (.bipush 23, 2) := by decide +kernel
theorem d_R_exception_165 : decode b_R_exception 165 = .ok (.if_icmp .ge 8, 3) := by decide +kernel
theorem d_R_exception_168 : decode b_R_exception 168 = .ok (.aload_n 0, 1) := by decide +kernel
theorem d_R_exception_169 : decode b_R_exception 169 = .ok (.invokevirtual 108, 3) := by decide +kernel
theorem d_R_exception_172 : decode b_R_exception 172 = .ok (.ireturn, 1) := by decide +kernel
theorem d_R_exception_173 : decode b_R_exception 173 = .ok (.aload_n 0, 1) := by decide +kernel
theorem d_R_exception_174 : decode b_R_exception 174 = .ok (.getfield 72, 3) := by decide +kernel
theorem d_R_exception_177 : decode b_R_exception 177 = .ok (.bipush 32, 2) := by decide +kernel
theorem d_R_exception_179 : decode b_R_exception 179 = .ok (.if_icmp .le 8, 3) := by decide +kernel
theorem d_R_exception_182 : decode b_R_exception 182 = .ok (.bipush 8, 2) := by decide +kernel
theorem d_R_exception_184 : decode b_R_exception 184 = .ok (.goto 4, 3) := by decide +kernel
theorem d_R_exception_187 : decode b_R_exception 187 = .ok (.iconst 0, 1) := by decide +kernel
theorem d_R_exception_188 : decode b_R_exception 188 = .ok (.ireturn, 1) := by decide +kernel
theorem d_R_fetch_0 : decode b_R_fetch 0 = .ok (.aload_n 0, 1) := by decide +kernel
theorem d_R_fetch_1 : decode b_R_fetch 1 = .ok (.aload_n 0, 1) := by decide +kernel
theorem d_R_fetch_2 : decode b_R_fetch 2 = .ok (.getfield 7, 3) := by decide +kernel
theorem d_R_fetch_5 : decode b_R_fetch 5 = .ok (.iload_n 1, 1) := by decide +kernel
theorem d_R_fetch_6 : decode b_R_fetch 6 = .ok (.iaload, 1) := by decide +kernel
theorem d_R_fetch_7 : decode b_R_fetch 7 = .ok (.putfield 72, 3) := by decide +kernel
theorem d_R_fetch_10 : decode b_R_fetch 10 = .ok (.aload_n 0, 1) := by decide +kernel
theorem d_R_fetch_11 : decode b_R_fetch 11 = .ok (.aload_n 0, 1) := by decide +kernel
theorem d_R_fetch_12 : decode b_R_fetch 12 = .ok (.getfield 7, 3) := by decide +kernel
theorem d_R_fetch_15 : decode b_R_fetch 15 = .ok (.iload_n 1, 1) := by decide +kernel
theorem d_R_fetch_16 : decode b_R_fetch 16 = .ok (.iconst 1, 1) := by decide +kernel
theorem d_R_fetch_17 : decode b_R_fetch 17 = .ok (.iadd, 1) := by decide +kernel
theorem d_R_fetch_18 : decode b_R_fetch 18 = .ok (.iaload, 1) := by decide +kernel
theorem d_R_fetch_19 : decode b_R_fetch 19 = .ok (.bipush 8, 2) := by decide +kernel
theorem d_R_fetch_21 : decode b_R_fetch 21 = .ok (.irem, 1) := by decide +kernel
theorem d_R_fetch_22 : decode b_R_fetch 22 = .ok (.putfield 79, 3) := by decide +kernel
theorem d_R_fetch_25 : decode b_R_fetch 25 = .ok (.aload_n 0, 1) := by decide +kernel
theorem d_R_fetch_26 : decode b_R_fetch 26 = .ok (.aload_n 0, 1) := by decide +kernel
theorem d_R_fetch_27 : decode b_R_fetch 27 = .ok (.getfield 7, 3) := by decide +kernel
theorem d_R_fetch_30 : decode b_R_fetch 30 = .ok (.iload_n 1, 1) := by decide +kernel
theorem d_R_fetch_31 : decode b_R_fetch 31 = .ok (.iconst 2, 1) := by decide +kernel
theorem d_R_fetch_32 : decode b_R_fetch 32 = .ok (.iadd, 1) := by decide +kernel
theorem d_R_fetch_33 : decode b_R_fetch 33 = .ok (.iaload, 1) := by decide +kernel
theorem d_R_fetch_34 : decode b_R_fetch 34 = .ok (.bipush 8, 2) := by decide +kernel
theorem d_R_fetch_36 : decode b_R_fetch 36 = .ok (.irem, 1) := by decide +kernel
theorem d_R_fetch_37 : decode b_R_fetch 37 = .ok (.putfield 57, 3) := by decide +kernel
theorem d_R_fetch_40 : decode b_R_fetch 40 = .ok (.aload_n 0, 1) := by decide +kernel
theorem d_R_fetch_41 : decode b_R_fetch 41 = .ok (.aload_n 0, 1) := by decide +kernel
theorem d_R_fetch_42 : decode b_R_fetch 42 = .ok (.getfield 7, 3) := by decide +kernel
theorem d_R_fetch_45 : decode b_R_fetch 45 = .ok (.iload_n 1, 1) := by decide +kernel
theorem d_R_fetch_46 : decode b_R_fetch 46 = .ok (.iconst 3, 1) := by decide +kernel
theorem d_R_fetch_47 : decode b_R_fetch 47 = .ok (.iadd, 1) := by decide +kernel
theorem d_R_fetch_48 : decode b_R_fetch 48 = .ok (.iaload, 1) := by decide +kernel
theorem d_R_fetch_49 : decode b_R_fetch 49 = .ok (.bipush 8, 2) := by decide +kernel
theorem d_R_fetch_51 : decode b_R_fetch 51 = .ok (.irem, 1) := by decide +kernel
theorem d_R_fetch_52 : decode b_R_fetch 52 = .ok (.putfield 60, 3) := by decide +kernel
theorem d_R_fetch_55 : decode b_R_fetch 55 = .ok (.aload_n 0, 1) := by decide +kernel
theorem d_R_fetch_56 : decode b_R_fetch 56 = .ok (.aload_n 0, 1) := by decide +kernel
theorem d_R_fetch_57 : decode b_R_fetch 57 = .ok (.getfield 7, 3) := by decide +kernel
theorem d_R_fetch_60 : decode b_R_fetch 60 = .ok (.iload_n 1, 1) := by decide +kernel
theorem d_R_fetch_61 : decode b_R_fetch 61 = .ok (.iconst 3, 1) := by decide +kernel
theorem d_R_fetch_62 : decode b_R_fetch 62 = .ok (.iadd, 1) := by decide +kernel
theorem d_R_fetch_63 : decode b_R_fetch 63 = .ok (.iaload, 1) := by decide +kernel
theorem d_R_fetch_64 : decode b_R_fetch 64 = .ok (.sipush 128, 3) := by decide +kernel
theorem d_R_fetch_67 : decode b_R_fetch 67 = .ok (.if_icmp .ge 14, 3) := by decide +kernel
theorem d_R_fetch_70 : decode b_R_fetch 70 = .ok (.aload_n 0, 1) := by decide +kernel
theorem d_R_fetch_71 : decode b_R_fetch 71 = .ok (.getfield 7, 3) := by decide +kernel
theorem d_R_fetch_74 : decode b_R_fetch 74 = .ok (.iload_n 1, 1) := by decide +kernel
theorem d_R_fetch_75 : decode b_R_fetch 75 = .ok (.iconst 3, 1) := by decide +kernel
theorem d_R_fetch_76 : decode b_R_fetch 76 = .ok (.iadd, 1) := by decide +kernel
theorem d_R_fetch_77 : decode b_R_fetch 77 = .ok (.iaload, 1) := by decide +kernel
theorem d_R_fetch_78 : decode b_R_fetch 78 = .ok (.goto 15, 3) := by decide +kernel
theorem d_R_fetch_81 : decode b_R_fetch 81 = .ok (.aload_n 0, 1) := by decide +kernel
theorem d_R_fetch_82 : decode b_R_fetch 82 = .ok (.getfield 7, 3) := by decide +kernel
theorem d_R_fetch_85 : decode b_R_fetch 85 = .ok (.iload_n 1, 1) := by decide +kernel
theorem d_R_fetch_86 : decode b_R_fetch 86 = .ok (.iconst 3, 1) := by decide +kernel
theorem d_R_fetch_87 : decode b_R_fetch 87 = .ok (.iadd, 1) := by decide +kernel
theorem d_R_fetch_88 : decode b_R_fetch 88 = .ok (.iaload, 1) := by decide +kernel
theorem d_R_fetch_89 : decode b_R_fetch 89 = .ok (.sipush 256, 3) := by decide +kernel
theorem d_R_fetch_92 : decode b_R_fetch 92 = .ok (.isub, 1) := by decide +kernel
theorem d_R_fetch_93 : decode b_R_fetch 93 = .ok (.putfield 82, 3) := by decide +kernel
theorem d_R_fetch_96 : decode b_R_fetch 96 = .ok (.aload_n 0, 1) := by decide +kernel
theorem d_R_fetch_97 : decode b_R_fetch 97 = .ok (.sipush 256, 3) := by decide +kernel
theorem d_R_fetch_100 : decode b_R_fetch 100 = .ok (.aload_n 0, 1) := by decide +kernel
theorem d_R_fetch_101 : decode b_R_fetch 101 = .ok (.getfield 7, 3) := by decide +kernel
theorem d_R_fetch_104 : decode b_R_fetch 104 = .ok (.iload_n 1, 1) := by decide +kernel
theorem d_R_fetch_105 : decode b_R_fetch 105 = .ok (.iconst 2, 1) := by decide +kernel
theorem d_R_fetch_106 : decode b_R_fetch 106 = .ok (.iadd, 1) := by decide +kernel
theorem d_R_fetch_107 : decode b_R_fetch 107 = .ok (.iaload, 1) := by decide +kernel
theorem d_R_fetch_108 : decode b_R_fetch 108 = .ok (.imul, 1) := by decide +kernel
theorem d_R_fetch_109 : decode b_R_fetch 109 = .ok (.aload_n 0, 1) := by decide +kernel
theorem d_R_fetch_110 : decode b_R_fetch 110 = .ok (.getfield 7, 3) := by decide +kernel
theorem d_R_fetch_113 : decode b_R_fetch 113 = .ok (.iload_n 1, 1) := by decide +kernel
theorem d_R_fetch_114 : decode b_R_fetch 114 = .ok (.iconst 3, 1) := by decide +kernel
theorem d_R_fetch_115 : decode b_R_fetch 115 = .ok (.iadd, 1) := by decide +kernel
theorem d_R_fetch_116 : decode b_R_fetch 116 = .ok (.iaload, 1) := by decide +kernel
theorem d_R_fetch_117 : decode b_R_fetch 117 = .ok (.iadd, 1) := by decide +kernel
theorem d_R_fetch_118 : decode b_R_fetch 118 = .ok (.putfield 127, 3) := by decide +kernel
theorem d_R_fetch_121 : decode b_R_fetch 121 = .ok (.return_, 1) := by decide +kernel
theorem d_R_forAccess_0 : decode b_R_forAccess 0 = .ok (.aload_n 0, 1) := by decide +kernel
theorem d_R_forAccess_1 : decode b_R_forAccess 1 = .ok (.getfield 72, 3) := by decide +kernel
theorem d_R_forAccess_4 : decode b_R_forAccess 4 = .ok (.bipush 20, 2) := by decide +kernel
theorem d_R_forAccess_6 : decode b_R_forAccess 6 = .ok (.if_icmp .ge 7, 3) := by decide +kernel
theorem d_R_forAccess_9 : decode b_R_forAccess 9 = .ok (.iconst 1, 1) := by decide +kernel
theorem d_R_forAccess_10 : decode b_R_forAccess 10 = .ok (.goto 4, 3) := by decide +kernel
theorem d_R_forAccess_13 : decode b_R_forAccess 13 = .ok (.iconst 2, 1) := by decide +kernel
theorem d_R_forAccess_14 : decode b_R_forAccess 14 = .ok (.istore_n 1, 1) := by decide +kernel
theorem d_R_forAccess_15 : decode b_R_forAccess 15 = .ok (.aload_n 0, 1) := by decide +kernel
theorem d_R_forAccess_16 : decode b_R_forAccess 16 = .ok (.getfield 72, 3) := by decide +kernel
theorem d_R_forAccess_19 : decode b_R_forAccess 19 = .ok (.bipush 19, 2) := by decide +kernel
theorem d_R_forAccess_21 : decode b_R_forAccess 21 = .ok (.if_icmp .ne 8, 3) := by decide +kernel
theorem d_R_forAccess_24 : decode b_R_forAccess 24 = .ok (.bipush 9, 2) := by decide +kernel
theorem d_R_forAccess_26 : decode b_R_forAccess 26 = .ok (.goto 30, 3) := by decide +kernel
theorem d_R_forAccess_29 : decode b_R_forAccess 29 = .ok (.aload_n 0, 1) := by decide +kernel
theorem d_R_forAccess_30 : decode b_R_forAccess 30 = .ok (.getfield 72, 3) := by decide +kernel
theorem d_R_forAccess_33 : decode b_R_forAccess 33 = .ok (.bipush 22, 2) := by decide +kernel
theorem d_R_forAccess_35 : decode b_R_forAccess 35 = .ok (.if_icmp .ne 20, 3) := by decide +kernel
theorem d_R_forAccess_38 : decode b_R_forAccess 38 = .ok (.aload_n 0, 1) := by decide +kernel
theorem d_R_forAccess_39 : decode b_R_forAccess 39 = .ok (.getfield 17, 3) := by decide +kernel
theorem d_R_forAccess_42 : decode b_R_forAccess 42 = .ok (.aload_n 0, 1) := by decide +kernel
theorem d_R_forAccess_43 : decode b_R_forAccess 43 = .ok (.getfield 79, 3) := by decide +kernel
theorem d_R_forAccess_46 : decode b_R_forAccess 46 = .ok (.baload, 1) := by decide +kernel
theorem d_R_forAccess_47 : decode b_R_forAccess 47 = .ok (.ifCond .eq 8, 3) := by decide +kernel
theorem d_R_forAccess_50 : decode b_R_forAccess 50 = .ok (.bipush 18, 2) := by decide +kernel
theorem d_R_forAccess_52 : decode b_R_forAccess 52 = .ok (.goto 4, 3) := by decide +kernel
theorem d_R_forAccess_55 : decode b_R_forAccess 55 = .ok (.iload_n 1, 1) := by decide +kernel
theorem d_R_forAccess_56 : decode b_R_forAccess 56 = .ok (.istore_n 1, 1) := by decide +kernel
theorem d_R_forAccess_57 : decode b_R_forAccess 57 = .ok (.aload_n 0, 1) := by decide +kernel
theorem d_R_forAccess_58 : decode b_R_forAccess 58 = .ok (.aload_n 0, 1) := by decide +kernel
theorem d_R_forAccess_59 : decode b_R_forAccess 59 = .ok (.getfield 57, 3) := by decide +kernel
theorem d_R_forAccess_62 : decode b_R_forAccess 62 = .ok (.aload_n 0, 1) := by decide +kernel
theorem d_R_forAccess_63 : decode b_R_forAccess 63 = .ok (.getfield 26, 3) := by decide +kernel
theorem d_R_forAccess_66 : decode b_R_forAccess 66 = .ok (.aload_n 0, 1) := by decide +kernel
theorem d_R_forAccess_67 : decode b_R_forAccess 67 = .ok (.getfield 57, 3) := by decide +kernel
theorem d_R_forAccess_70 : decode b_R_forAccess 70 = .ok (.iaload, 1) := by decide +kernel
theorem d_R_forAccess_71 : decode b_R_forAccess 71 = .ok (.i2l, 1) := by decide +kernel
theorem d_R_forAccess_72 : decode b_R_forAccess 72 = .ok (.aload_n 0, 1) := by decide +kernel
theorem d_R_forAccess_73 : decode b_R_forAccess 73 = .ok (.getfield 82, 3) := by decide +kernel
theorem d_R_forAccess_76 : decode b_R_forAccess 76 = .ok (.i2l, 1) := by decide +kernel
theorem d_R_forAccess_77 : decode b_R_forAccess 77 = .ok (.ladd, 1) := by decide +kernel
theorem d_R_forAccess_78 : decode b_R_forAccess 78 = .ok (.aload_n 0, 1) := by decide +kernel
theorem d_R_forAccess_79 : decode b_R_forAccess 79 = .ok (.invokevirtual 85, 3) := by decide +kernel
theorem d_R_forAccess_82 : decode b_R_forAccess 82 = .ok (.iload_n 1, 1) := by decide +kernel
theorem d_R_forAccess_83 : decode b_R_forAccess 83 = .ok (.invokevirtual 89, 3) := by decide +kernel
theorem d_R_forAccess_86 : decode b_R_forAccess 86 = .ok (.ireturn, 1) := by decide +kernel
theorem d_R_forBounds_0 : decode b_R_forBounds 0 = .ok (.aload_n 0, 1) := by decide +kernel
theorem d_R_forBounds_1 : decode b_R_forBounds 1 = .ok (.aload_n 0, 1) := by decide +kernel
theorem d_R_forBounds_2 : decode b_R_forBounds 2 = .ok (.getfield 57, 3) := by decide +kernel
theorem d_R_forBounds_5 : decode b_R_forBounds 5 = .ok (.invokevirtual 47, 3) := by decide +kernel
theorem d_R_forBounds_8 : decode b_R_forBounds 8 = .ok (.istore_n 1, 1) := by decide +kernel
theorem d_R_forBounds_9 : decode b_R_forBounds 9 = .ok (.iload_n 1, 1) := by decide +kernel
theorem d_R_forBounds_10 : decode b_R_forBounds 10 = .ok (.ifCond .le 5, 3) := by decide +kernel
theorem d_R_forBounds_13 : decode b_R_forBounds 13 = .ok (.iload_n 1, 1) := by decide +kernel
theorem d_R_forBounds_14 : decode b_R_forBounds 14 = .ok (.ireturn, 1) := by decide +kernel
theorem d_R_forBounds_15 : decode b_R_forBounds 15 = .ok (.aload_n 0, 1) := by decide +kernel
theorem d_R_forBounds_16 : decode b_R_forBounds 16 = .ok (.getfield 26, 3) := by decide +kernel
theorem d_R_forBounds_19 : decode b_R_forBounds 19 = .ok (.aload_n 0, 1) := by decide +kernel
theorem d_R_forBounds_20 : decode b_R_forBounds 20 = .ok (.getfield 57, 3) := by decide +kernel
theorem d_R_forBounds_23 : decode b_R_forBounds 23 = .ok (.iaload, 1) := by decide +kernel
theorem d_R_forBounds_24 : decode b_R_forBounds 24 = .ok (.istore_n 2, 1) := by decide +kernel
theorem d_R_forBounds_25 : decode b_R_forBounds 25 = .ok (.aload_n 0, 1) := by decide +kernel
theorem d_R_forBounds_26 : decode b_R_forBounds 26 = .ok (.getfield 26, 3) := by decide +kernel
theorem d_R_forBounds_29 : decode b_R_forBounds 29 = .ok (.aload_n 0, 1) := by decide +kernel
theorem d_R_forBounds_30 : decode b_R_forBounds 30 = .ok (.getfield 60, 3) := by decide +kernel
theorem d_R_forBounds_33 : decode b_R_forBounds 33 = .ok (.iaload, 1) := by decide +kernel
theorem d_R_forBounds_34 : decode b_R_forBounds 34 = .ok (.istore_n 3, 1) := by decide +kernel
theorem d_R_forBounds_35 : decode b_R_forBounds 35 = .ok (.iload_n 3, 1) := by decide +kernel
theorem d_R_forBounds_36 : decode b_R_forBounds 36 = .ok (.ifCond .lt 44, 3) := by decide +kernel
theorem d_R_forBounds_39 : decode b_R_forBounds 39 = .ok (.iload_n 2, 1) := by decide +kernel
theorem d_R_forBounds_40 : decode b_R_forBounds 40 = .ok (.aload_n 0, 1) := by decide +kernel
theorem d_R_forBounds_41 : decode b_R_forBounds 41 = .ok (.getfield 20, 3) := by decide +kernel
theorem d_R_forBounds_44 : decode b_R_forBounds 44 = .ok (.aload_n 0, 1) := by decide +kernel
theorem d_R_forBounds_45 : decode b_R_forBounds 45 = .ok (.getfield 57, 3) := by decide +kernel
theorem d_R_forBounds_48 : decode b_R_forBounds 48 = .ok (.iaload, 1) := by decide +kernel
theorem d_R_forBounds_49 : decode b_R_forBounds 49 = .ok (.if_icmp .lt 31, 3) := by decide +kernel
theorem d_R_forBounds_52 : decode b_R_forBounds 52 = .ok (.iload_n 2, 1) := by decide +kernel
theorem d_R_forBounds_53 : decode b_R_forBounds 53 = .ok (.aload_n 0, 1) := by decide +kernel
theorem d_R_forBounds_54 : decode b_R_forBounds 54 = .ok (.getfield 23, 3) := by decide +kernel
theorem d_R_forBounds_57 : decode b_R_forBounds 57 = .ok (.aload_n 0, 1) := by decide +kernel
theorem d_R_forBounds_58 : decode b_R_forBounds 58 = .ok (.getfield 57, 3) := by decide +kernel
theorem d_R_forBounds_61 : decode b_R_forBounds 61 = .ok (.iaload, 1) := by decide +kernel
theorem d_R_forBounds_62 : decode b_R_forBounds 62 = .ok (.if_icmp .gt 18, 3) := by decide +kernel
theorem d_R_forBounds_65 : decode b_R_forBounds 65 = .ok (.iload_n 3, 1) := by decide +kernel
theorem d_R_forBounds_66 : decode b_R_forBounds 66 = .ok (.aload_n 0, 1) := by decide +kernel
theorem d_R_forBounds_67 : decode b_R_forBounds 67 = .ok (.getfield 23, 3) := by decide +kernel
theorem d_R_forBounds_70 : decode b_R_forBounds 70 = .ok (.aload_n 0, 1) := by decide +kernel
theorem d_R_forBounds_71 : decode b_R_forBounds 71 = .ok (.getfield 57, 3) := by decide +kernel
theorem d_R_forBounds_74 : decode b_R_forBounds 74 = .ok (.iaload, 1) := by decide +kernel
theorem d_R_forBounds_75 : decode b_R_forBounds 75 = .ok (.iload_n 2, 1) := by decide +kernel
theorem d_R_forBounds_76 : decode b_R_forBounds 76 = .ok (.isub, 1) := by decide +kernel
theorem d_R_forBounds_77 : decode b_R_forBounds 77 = .ok (.if_icmp .le 5, 3) := by decide +kernel
theorem d_R_forBounds_80 : decode b_R_forBounds 80 = .ok (.iconst 4, 1) := by decide +kernel
theorem d_R_forBounds_81 : decode b_R_forBounds 81 = .ok (.ireturn, 1) := by decide +kernel
theorem d_R_forBounds_82 : decode b_R_forBounds 82 = .ok (.aload_n 0, 1) := by decide +kernel
theorem d_R_forBounds_83 : decode b_R_forBounds 83 = .ok (.iload_n 2, 1) := by decide +kernel
theorem d_R_forBounds_84 : decode b_R_forBounds 84 = .ok (.iload_n 2, 1) := by decide +kernel
theorem d_R_forBounds_85 : decode b_R_forBounds 85 = .ok (.iload_n 3, 1) := by decide +kernel
theorem d_R_forBounds_86 : decode b_R_forBounds 86 = .ok (.iadd, 1) := by decide +kernel
theorem d_R_forBounds_87 : decode b_R_forBounds 87 = .ok (.invokevirtual 63, 3) := by decide +kernel
theorem d_R_forBounds_90 : decode b_R_forBounds 90 = .ok (.ifCond .eq 5, 3) := by decide +kernel
theorem d_R_forBounds_93 : decode b_R_forBounds 93 = .ok (.iconst 0, 1) := by decide +kernel
theorem d_R_forBounds_94 : decode b_R_forBounds 94 = .ok (.ireturn, 1) := by decide +kernel
theorem d_R_forBounds_95 : decode b_R_forBounds 95 = .ok (.aload_n 0, 1) := by decide +kernel
theorem d_R_forBounds_96 : decode b_R_forBounds 96 = .ok (.iload_n 2, 1) := by decide +kernel
theorem d_R_forBounds_97 : decode b_R_forBounds 97 = .ok (.invokevirtual 66, 3) := by decide +kernel
theorem d_R_forBounds_100 : decode b_R_forBounds 100 = .ok (.aload_n 0, 1) := by decide +kernel
theorem d_R_forBounds_101 : decode b_R_forBounds 101 = .ok (.getfield 20, 3) := by decide +kernel
theorem d_R_forBounds_104 : decode b_R_forBounds 104 = .ok (.aload_n 0, 1) := by decide +kernel
theorem d_R_forBounds_105 : decode b_R_forBounds 105 = .ok (.getfield 57, 3) := by decide +kernel
theorem d_R_forBounds_108 : decode b_R_forBounds 108 = .ok (.iaload, 1) := by decide +kernel
theorem d_R_forBounds_109 : decode b_R_forBounds 109 = .ok (.if_icmp .lt 22, 3) := by decide +kernel
theorem d_R_forBounds_112 : decode b_R_forBounds 112 = .ok (.aload_n 0, 1) := by decide +kernel
theorem d_R_forBounds_113 : decode b_R_forBounds 113 = .ok (.iload_n 2, 1) := by decide +kernel
theorem d_R_forBounds_114 : decode b_R_forBounds 114 = .ok (.iload_n 3, 1) := by decide +kernel
theorem d_R_forBounds_115 : decode b_R_forBounds 115 = .ok (.iadd, 1) := by decide +kernel
theorem d_R_forBounds_116 : decode b_R_forBounds 116 = .ok (.invokevirtual 69, 3) := by decide +kernel
theorem d_R_forBounds_119 : decode b_R_forBounds 119 = .ok (.aload_n 0, 1) := by decide +kernel
theorem d_R_forBounds_120 : decode b_R_forBounds 120 = .ok (.getfield 23, 3) := by decide +kernel
theorem d_R_forBounds_123 : decode b_R_forBounds 123 = .ok (.aload_n 0, 1) := by decide +kernel
theorem d_R_forBounds_124 : decode b_R_forBounds 124 = .ok (.getfield 57, 3) := by decide +kernel
theorem d_R_forBounds_127 : decode b_R_forBounds 127 = .ok (.iaload, 1) := by decide +kernel
theorem d_R_forBounds_128 : decode b_R_forBounds 128 = .ok (.if_icmp .le 5, 3) := by decide +kernel
theorem d_R_forBounds_131 : decode b_R_forBounds 131 = .ok (.iconst 4, 1) := by decide +kernel
theorem d_R_forBounds_132 : decode b_R_forBounds 132 = .ok (.ireturn, 1) := by decide +kernel
theorem d_R_forBounds_133 : decode b_R_forBounds 133 = .ok (.aload_n 0, 1) := by decide +kernel
theorem d_R_forBounds_134 : decode b_R_forBounds 134 = .ok (.getfield 72, 3) := by decide +kernel
theorem d_R_forBounds_137 : decode b_R_forBounds 137 = .ok (.bipush 11, 2) := by decide +kernel
theorem d_R_forBounds_139 : decode b_R_forBounds 139 = .ok (.if_icmp .ne 8, 3) := by decide +kernel
theorem d_R_forBounds_142 : decode b_R_forBounds 142 = .ok (.bipush 6, 2) := by decide +kernel
theorem d_R_forBounds_144 : decode b_R_forBounds 144 = .ok (.goto 4, 3) := by decide +kernel
theorem d_R_forBounds_147 : decode b_R_forBounds 147 = .ok (.iconst 0, 1) := by decide +kernel
theorem d_R_forBounds_148 : decode b_R_forBounds 148 = .ok (.ireturn, 1) := by decide +kernel
theorem d_R_forJump_0 : decode b_R_forJump 0 = .ok (.aload_n 0, 1) := by decide +kernel
theorem d_R_forJump_1 : decode b_R_forJump 1 = .ok (.getfield 17, 3) := by decide +kernel
theorem d_R_forJump_4 : decode b_R_forJump 4 = .ok (.aload_n 0, 1) := by decide +kernel
theorem d_R_forJump_5 : decode b_R_forJump 5 = .ok (.getfield 57, 3) := by decide +kernel
theorem d_R_forJump_8 : decode b_R_forJump 8 = .ok (.baload, 1) := by decide +kernel
theorem d_R_forJump_9 : decode b_R_forJump 9 = .ok (.ifCond .ne 7, 3) := by decide +kernel
theorem d_R_forJump_12 : decode b_R_forJump 12 = .ok (.iconst 1, 1) := by decide +kernel
theorem d_R_forJump_13 : decode b_R_forJump 13 = .ok (.goto 37, 3) := by decide +kernel
theorem d_R_forJump_16 : decode b_R_forJump 16 = .ok (.aload_n 0, 1) := by decide +kernel
theorem d_R_forJump_17 : decode b_R_forJump 17 = .ok (.getfield 32, 3) := by decide +kernel
theorem d_R_forJump_20 : decode b_R_forJump 20 = .ok (.aload_n 0, 1) := by decide +kernel
theorem d_R_forJump_21 : decode b_R_forJump 21 = .ok (.getfield 57, 3) := by decide +kernel
theorem d_R_forJump_24 : decode b_R_forJump 24 = .ok (.iaload, 1) := by decide +kernel
theorem d_R_forJump_25 : decode b_R_forJump 25 = .ok (.iconst 1, 1) := by decide +kernel
theorem d_R_forJump_26 : decode b_R_forJump 26 = .ok (.if_icmp .le 7, 3) := by decide +kernel
theorem d_R_forJump_29 : decode b_R_forJump 29 = .ok (.iconst 2, 1) := by decide +kernel
theorem d_R_forJump_30 : decode b_R_forJump 30 = .ok (.goto 20, 3) := by decide +kernel
theorem d_R_forJump_33 : decode b_R_forJump 33 = .ok (.aload_n 0, 1) := by decide +kernel
theorem d_R_forJump_34 : decode b_R_forJump 34 = .ok (.aload_n 0, 1) := by decide +kernel
theorem d_R_forJump_35 : decode b_R_forJump 35 = .ok (.getfield 57, 3) := by decide +kernel
theorem d_R_forJump_38 : decode b_R_forJump 38 = .ok (.iconst 4, 1) := by decide +kernel
theorem d_R_forJump_39 : decode b_R_forJump 39 = .ok (.invokevirtual 51, 3) := by decide +kernel
theorem d_R_forJump_42 : decode b_R_forJump 42 = .ok (.ifCond .eq 7, 3) := by decide +kernel
theorem d_R_forJump_45 : decode b_R_forJump 45 = .ok (.iconst 0, 1) := by decide +kernel
theorem d_R_forJump_46 : decode b_R_forJump 46 = .ok (.goto 4, 3) := by decide +kernel
theorem d_R_forJump_49 : decode b_R_forJump 49 = .ok (.iconst 3, 1) := by decide +kernel
theorem d_R_forJump_50 : decode b_R_forJump 50 = .ok (.ireturn, 1) := by decide +kernel
theorem d_R_forSeal_0 : decode b_R_forSeal 0 = .ok (.aload_n 0, 1) := by decide +kernel
theorem d_R_forSeal_1 : decode b_R_forSeal 1 = .ok (.getfield 17, 3) := by decide +kernel
theorem d_R_forSeal_4 : decode b_R_forSeal 4 = .ok (.aload_n 0, 1) := by decide +kernel
theorem d_R_forSeal_5 : decode b_R_forSeal 5 = .ok (.getfield 57, 3) := by decide +kernel
theorem d_R_forSeal_8 : decode b_R_forSeal 8 = .ok (.baload, 1) := by decide +kernel
theorem d_R_forSeal_9 : decode b_R_forSeal 9 = .ok (.ifCond .eq 15, 3) := by decide +kernel
theorem d_R_forSeal_12 : decode b_R_forSeal 12 = .ok (.aload_n 0, 1) := by decide +kernel
theorem d_R_forSeal_13 : decode b_R_forSeal 13 = .ok (.getfield 17, 3) := by decide +kernel
theorem d_R_forSeal_16 : decode b_R_forSeal 16 = .ok (.aload_n 0, 1) := by decide +kernel
theorem d_R_forSeal_17 : decode b_R_forSeal 17 = .ok (.getfield 60, 3) := by decide +kernel
theorem d_R_forSeal_20 : decode b_R_forSeal 20 = .ok (.baload, 1) := by decide +kernel
theorem d_R_forSeal_21 : decode b_R_forSeal 21 = .ok (.ifCond .ne 5, 3) := by decide +kernel
theorem d_R_forSeal_24 : decode b_R_forSeal 24 = .ok (.iconst 1, 1) := by decide +kernel
theorem d_R_forSeal_25 : decode b_R_forSeal 25 = .ok (.ireturn, 1) := by decide +kernel
theorem d_R_forSeal_26 : decode b_R_forSeal 26 = .ok (.aload_n 0, 1) := by decide +kernel
theorem d_R_forSeal_27 : decode b_R_forSeal 27 = .ok (.getfield 32, 3) := by decide +kernel
theorem d_R_forSeal_30 : decode b_R_forSeal 30 = .ok (.aload_n 0, 1) := by decide +kernel
theorem d_R_forSeal_31 : decode b_R_forSeal 31 = .ok (.getfield 57, 3) := by decide +kernel
theorem d_R_forSeal_34 : decode b_R_forSeal 34 = .ok (.iaload, 1) := by decide +kernel
theorem d_R_forSeal_35 : decode b_R_forSeal 35 = .ok (.ifCond .gt 15, 3) := by decide +kernel
theorem d_R_forSeal_38 : decode b_R_forSeal 38 = .ok (.aload_n 0, 1) := by decide +kernel
theorem d_R_forSeal_39 : decode b_R_forSeal 39 = .ok (.getfield 32, 3) := by decide +kernel
theorem d_R_forSeal_42 : decode b_R_forSeal 42 = .ok (.aload_n 0, 1) := by decide +kernel
theorem d_R_forSeal_43 : decode b_R_forSeal 43 = .ok (.getfield 60, 3) := by decide +kernel
theorem d_R_forSeal_46 : decode b_R_forSeal 46 = .ok (.iaload, 1) := by decide +kernel
theorem d_R_forSeal_47 : decode b_R_forSeal 47 = .ok (.ifCond .le 5, 3) := by decide +kernel
theorem d_R_forSeal_50 : decode b_R_forSeal 50 = .ok (.iconst 2, 1) := by decide +kernel
theorem d_R_forSeal_51 : decode b_R_forSeal 51 = .ok (.ireturn, 1) := by decide +kernel
theorem d_R_forSeal_52 : decode b_R_forSeal 52 = .ok (.aload_n 0, 1) := by decide +kernel
theorem d_R_forSeal_53 : decode b_R_forSeal 53 = .ok (.aload_n 0, 1) := by decide +kernel
theorem d_R_forSeal_54 : decode b_R_forSeal 54 = .ok (.getfield 60, 3) := by decide +kernel
theorem d_R_forSeal_57 : decode b_R_forSeal 57 = .ok (.bipush 32, 2) := by decide +kernel
theorem d_R_forSeal_59 : decode b_R_forSeal 59 = .ok (.invokevirtual 51, 3) := by decide +kernel
theorem d_R_forSeal_62 : decode b_R_forSeal 62 = .ok (.ifCond .ne 5, 3) := by decide +kernel
theorem d_R_forSeal_65 : decode b_R_forSeal 65 = .ok (.iconst 3, 1) := by decide +kernel
theorem d_R_forSeal_66 : decode b_R_forSeal 66 = .ok (.ireturn, 1) := by decide +kernel
theorem d_R_forSeal_67 : decode b_R_forSeal 67 = .ok (.aload_n 0, 1) := by decide +kernel
theorem d_R_forSeal_68 : decode b_R_forSeal 68 = .ok (.aload_n 0, 1) := by decide +kernel
theorem d_R_forSeal_69 : decode b_R_forSeal 69 = .ok (.getfield 60, 3) := by decide +kernel
theorem d_R_forSeal_72 : decode b_R_forSeal 72 = .ok (.invokevirtual 75, 3) := by decide +kernel
theorem d_R_forSeal_75 : decode b_R_forSeal 75 = .ok (.ifCond .ne 7, 3) := by decide +kernel
theorem d_R_forSeal_78 : decode b_R_forSeal 78 = .ok (.iconst 4, 1) := by decide +kernel
theorem d_R_forSeal_79 : decode b_R_forSeal 79 = .ok (.goto 27, 3) := by decide +kernel
theorem d_R_forSeal_82 : decode b_R_forSeal 82 = .ok (.aload_n 0, 1) := by decide +kernel
theorem d_R_forSeal_83 : decode b_R_forSeal 83 = .ok (.getfield 26, 3) := by decide +kernel
theorem d_R_forSeal_86 : decode b_R_forSeal 86 = .ok (.aload_n 0, 1) := by decide +kernel
theorem d_R_forSeal_87 : decode b_R_forSeal 87 = .ok (.getfield 60, 3) := by decide +kernel
theorem d_R_forSeal_90 : decode b_R_forSeal 90 = .ok (.iaload, 1) := by decide +kernel
theorem d_R_forSeal_91 : decode b_R_forSeal 91 = .ok (.iconst 2, 1) := by decide +kernel
theorem d_R_forSeal_92 : decode b_R_forSeal 92 = .ok (.bipush 15, 2) := by decide +kernel
theorem d_R_forSeal_94 : decode b_R_forSeal 94 = .ok (.invokestatic 43, 3) := by decide +kernel
theorem d_R_forSeal_97 : decode b_R_forSeal 97 = .ok (.ifCond .eq 8, 3) := by decide +kernel
theorem d_R_forSeal_100 : decode b_R_forSeal 100 = .ok (.bipush 7, 2) := by decide +kernel
theorem d_R_forSeal_102 : decode b_R_forSeal 102 = .ok (.goto 4, 3) := by decide +kernel
theorem d_R_forSeal_105 : decode b_R_forSeal 105 = .ok (.iconst 0, 1) := by decide +kernel
theorem d_R_forSeal_106 : decode b_R_forSeal 106 = .ok (.ireturn, 1) := by decide +kernel
theorem d_R_forUnseal_0 : decode b_R_forUnseal 0 = .ok (.aload_n 0, 1) := by decide +kernel
theorem d_R_forUnseal_1 : decode b_R_forUnseal 1 = .ok (.getfield 17, 3) := by decide +kernel
theorem d_R_forUnseal_4 : decode b_R_forUnseal 4 = .ok (.aload_n 0, 1) := by decide +kernel
theorem d_R_forUnseal_5 : decode b_R_forUnseal 5 = .ok (.getfield 57, 3) := by decide +kernel
theorem d_R_forUnseal_8 : decode b_R_forUnseal 8 = .ok (.baload, 1) := by decide +kernel
theorem d_R_forUnseal_9 : decode b_R_forUnseal 9 = .ok (.ifCond .eq 15, 3) := by decide +kernel
theorem d_R_forUnseal_12 : decode b_R_forUnseal 12 = .ok (.aload_n 0, 1) := by decide +kernel
theorem d_R_forUnseal_13 : decode b_R_forUnseal 13 = .ok (.getfield 17, 3) := by decide +kernel
theorem d_R_forUnseal_16 : decode b_R_forUnseal 16 = .ok (.aload_n 0, 1) := by decide +kernel
theorem d_R_forUnseal_17 : decode b_R_forUnseal 17 = .ok (.getfield 60, 3) := by decide +kernel
theorem d_R_forUnseal_20 : decode b_R_forUnseal 20 = .ok (.baload, 1) := by decide +kernel
theorem d_R_forUnseal_21 : decode b_R_forUnseal 21 = .ok (.ifCond .ne 5, 3) := by decide +kernel
theorem d_R_forUnseal_24 : decode b_R_forUnseal 24 = .ok (.iconst 1, 1) := by decide +kernel
theorem d_R_forUnseal_25 : decode b_R_forUnseal 25 = .ok (.ireturn, 1) := by decide +kernel
theorem d_R_forUnseal_26 : decode b_R_forUnseal 26 = .ok (.aload_n 0, 1) := by decide +kernel
theorem d_R_forUnseal_27 : decode b_R_forUnseal 27 = .ok (.getfield 32, 3) := by decide +kernel
theorem d_R_forUnseal_30 : decode b_R_forUnseal 30 = .ok (.aload_n 0, 1) := by decide +kernel
theorem d_R_forUnseal_31 : decode b_R_forUnseal 31 = .ok (.getfield 57, 3) := by decide +kernel
theorem d_R_forUnseal_34 : decode b_R_forUnseal 34 = .ok (.iaload, 1) := by decide +kernel
theorem d_R_forUnseal_35 : decode b_R_forUnseal 35 = .ok (.iconst 2, 1) := by decide +kernel
theorem d_R_forUnseal_36 : decode b_R_forUnseal 36 = .ok (.if_icmp .lt 15, 3) := by decide +kernel
theorem d_R_forUnseal_39 : decode b_R_forUnseal 39 = .ok (.aload_n 0, 1) := by decide +kernel
theorem d_R_forUnseal_40 : decode b_R_forUnseal 40 = .ok (.getfield 32, 3) := by decide +kernel
theorem d_R_forUnseal_43 : decode b_R_forUnseal 43 = .ok (.aload_n 0, 1) := by decide +kernel
theorem d_R_forUnseal_44 : decode b_R_forUnseal 44 = .ok (.getfield 60, 3) := by decide +kernel
theorem d_R_forUnseal_47 : decode b_R_forUnseal 47 = .ok (.iaload, 1) := by decide +kernel

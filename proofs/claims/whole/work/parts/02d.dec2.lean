theorem dX0_init_0 : decode cX0_init 0 = .ok (.aload_n 0, 1) := by decide +kernel
theorem dX0_init_1 : decode cX0_init 1 = .ok (.invokespecial 3, 3) := by decide +kernel
theorem dX0_init_4 : decode cX0_init 4 = .ok (.aload_n 0, 1) := by decide +kernel
theorem dX0_init_5 : decode cX0_init 5 = .ok (.aload_n 1, 1) := by decide +kernel
theorem dX0_init_6 : decode cX0_init 6 = .ok (.putfield 9, 3) := by decide +kernel
theorem dX0_init_9 : decode cX0_init 9 = .ok (.return_, 1) := by decide +kernel
theorem dX1_init_0 : decode cX1_init 0 = .ok (.aload_n 0, 1) := by decide +kernel
theorem dX1_init_1 : decode cX1_init 1 = .ok (.invokespecial 3, 3) := by decide +kernel
theorem dX1_init_4 : decode cX1_init 4 = .ok (.aload_n 0, 1) := by decide +kernel
theorem dX1_init_5 : decode cX1_init 5 = .ok (.new 9, 3) := by decide +kernel
theorem dX1_init_8 : decode cX1_init 8 = .ok (.dup, 1) := by decide +kernel
theorem dX1_init_9 : decode cX1_init 9 = .ok (.invokespecial 11, 3) := by decide +kernel
theorem dX1_init_12 : decode cX1_init 12 = .ok (.putfield 12, 3) := by decide +kernel
theorem dX1_init_15 : decode cX1_init 15 = .ok (.aload_n 0, 1) := by decide +kernel
theorem dX1_init_16 : decode cX1_init 16 = .ok (.sipush 384, 3) := by decide +kernel
theorem dX1_init_19 : decode cX1_init 19 = .ok (.newarray .int, 2) := by decide +kernel
theorem dX1_init_21 : decode cX1_init 21 = .ok (.putfield 18, 3) := by decide +kernel
theorem dX1_init_24 : decode cX1_init 24 = .ok (.return_, 1) := by decide +kernel
theorem dX2_init_0 : decode cX2_init 0 = .ok (.aload_n 0, 1) := by decide +kernel
theorem dX2_init_1 : decode cX2_init 1 = .ok (.invokespecial 3, 3) := by decide +kernel
theorem dX2_init_4 : decode cX2_init 4 = .ok (.aload_n 0, 1) := by decide +kernel
theorem dX2_init_5 : decode cX2_init 5 = .ok (.iload_n 1, 1) := by decide +kernel
theorem dX2_init_6 : decode cX2_init 6 = .ok (.putfield 9, 3) := by decide +kernel
theorem dX2_init_9 : decode cX2_init 9 = .ok (.return_, 1) := by decide +kernel
theorem dX3_init_0 : decode cX3_init 0 = .ok (.aload_n 0, 1) := by decide +kernel
theorem dX3_init_1 : decode cX3_init 1 = .ok (.invokespecial 3, 3) := by decide +kernel
theorem dX3_init_4 : decode cX3_init 4 = .ok (.aload_n 0, 1) := by decide +kernel
theorem dX3_init_5 : decode cX3_init 5 = .ok (.iconst 4, 1) := by decide +kernel
theorem dX3_init_6 : decode cX3_init 6 = .ok (.newarray .int, 2) := by decide +kernel
theorem dX3_init_8 : decode cX3_init 8 = .ok (.putfield 9, 3) := by decide +kernel
theorem dX3_init_11 : decode cX3_init 11 = .ok (.aload_n 0, 1) := by decide +kernel
theorem dX3_init_12 : decode cX3_init 12 = .ok (.iconst 4, 1) := by decide +kernel
theorem dX3_init_13 : decode cX3_init 13 = .ok (.newarray .int, 2) := by decide +kernel
theorem dX3_init_15 : decode cX3_init 15 = .ok (.putfield 15, 3) := by decide +kernel
theorem dX3_init_18 : decode cX3_init 18 = .ok (.aload_n 0, 1) := by decide +kernel
theorem dX3_init_19 : decode cX3_init 19 = .ok (.bipush 8, 2) := by decide +kernel
theorem dX3_init_21 : decode cX3_init 21 = .ok (.newarray .int, 2) := by decide +kernel
theorem dX3_init_23 : decode cX3_init 23 = .ok (.putfield 18, 3) := by decide +kernel
theorem dX3_init_26 : decode cX3_init 26 = .ok (.aload_n 0, 1) := by decide +kernel
theorem dX3_init_27 : decode cX3_init 27 = .ok (.bipush 8, 2) := by decide +kernel
theorem dX3_init_29 : decode cX3_init 29 = .ok (.newarray .int, 2) := by decide +kernel
theorem dX3_init_31 : decode cX3_init 31 = .ok (.putfield 21, 3) := by decide +kernel
theorem dX3_init_34 : decode cX3_init 34 = .ok (.aload_n 0, 1) := by decide +kernel
theorem dX3_init_35 : decode cX3_init 35 = .ok (.bipush 8, 2) := by decide +kernel
theorem dX3_init_37 : decode cX3_init 37 = .ok (.newarray .int, 2) := by decide +kernel
theorem dX3_init_39 : decode cX3_init 39 = .ok (.putfield 24, 3) := by decide +kernel
theorem dX3_init_42 : decode cX3_init 42 = .ok (.return_, 1) := by decide +kernel
theorem dX4_init_0 : decode cX4_init 0 = .ok (.aload_n 0, 1) := by decide +kernel
theorem dX4_init_1 : decode cX4_init 1 = .ok (.invokespecial 3, 3) := by decide +kernel
theorem dX4_init_4 : decode cX4_init 4 = .ok (.aload_n 0, 1) := by decide +kernel
theorem dX4_init_5 : decode cX4_init 5 = .ok (.bipush 7, 2) := by decide +kernel
theorem dX4_init_7 : decode cX4_init 7 = .ok (.newarray .int, 2) := by decide +kernel
theorem dX4_init_9 : decode cX4_init 9 = .ok (.putfield 9, 3) := by decide +kernel
theorem dX4_init_12 : decode cX4_init 12 = .ok (.aload_n 0, 1) := by decide +kernel
theorem dX4_init_13 : decode cX4_init 13 = .ok (.bipush 7, 2) := by decide +kernel
theorem dX4_init_15 : decode cX4_init 15 = .ok (.newarray .int, 2) := by decide +kernel
theorem dX4_init_17 : decode cX4_init 17 = .ok (.putfield 15, 3) := by decide +kernel
theorem dX4_init_20 : decode cX4_init 20 = .ok (.aload_n 0, 1) := by decide +kernel
theorem dX4_init_21 : decode cX4_init 21 = .ok (.bipush 7, 2) := by decide +kernel
theorem dX4_init_23 : decode cX4_init 23 = .ok (.newarray .int, 2) := by decide +kernel
theorem dX4_init_25 : decode cX4_init 25 = .ok (.putfield 18, 3) := by decide +kernel
theorem dX4_init_28 : decode cX4_init 28 = .ok (.return_, 1) := by decide +kernel
theorem dX5_init_0 : decode cX5_init 0 = .ok (.aload_n 0, 1) := by decide +kernel
theorem dX5_init_1 : decode cX5_init 1 = .ok (.invokespecial 3, 3) := by decide +kernel
theorem dX5_init_4 : decode cX5_init 4 = .ok (.aload_n 0, 1) := by decide +kernel
theorem dX5_init_5 : decode cX5_init 5 = .ok (.aload_n 1, 1) := by decide +kernel
theorem dX5_init_6 : decode cX5_init 6 = .ok (.putfield 9, 3) := by decide +kernel
theorem dX5_init_9 : decode cX5_init 9 = .ok (.return_, 1) := by decide +kernel
theorem dX6_init_0 : decode cX6_init 0 = .ok (.aload_n 0, 1) := by decide +kernel
theorem dX6_init_1 : decode cX6_init 1 = .ok (.invokespecial 3, 3) := by decide +kernel
theorem dX6_init_4 : decode cX6_init 4 = .ok (.aload_n 0, 1) := by decide +kernel
theorem dX6_init_5 : decode cX6_init 5 = .ok (.iconst 0, 1) := by decide +kernel
theorem dX6_init_6 : decode cX6_init 6 = .ok (.iload_n 1, 1) := by decide +kernel
theorem dX6_init_7 : decode cX6_init 7 = .ok (.invokestatic 9, 3) := by decide +kernel
theorem dX6_init_10 : decode cX6_init 10 = .ok (.newarray .int, 2) := by decide +kernel
theorem dX6_init_12 : decode cX6_init 12 = .ok (.putfield 15, 3) := by decide +kernel
theorem dX6_init_15 : decode cX6_init 15 = .ok (.return_, 1) := by decide +kernel
theorem dX7_init_0 : decode cX7_init 0 = .ok (.aload_n 0, 1) := by decide +kernel
theorem dX7_init_1 : decode cX7_init 1 = .ok (.invokespecial 1, 3) := by decide +kernel
theorem dX7_init_4 : decode cX7_init 4 = .ok (.aload_n 0, 1) := by decide +kernel
theorem dX7_init_5 : decode cX7_init 5 = .ok (.new 7, 3) := by decide +kernel
theorem dX7_init_8 : decode cX7_init 8 = .ok (.dup, 1) := by decide +kernel
theorem dX7_init_9 : decode cX7_init 9 = .ok (.sipush 200, 3) := by decide +kernel
theorem dX7_init_12 : decode cX7_init 12 = .ok (.invokespecial 11, 3) := by decide +kernel
theorem dX7_init_15 : decode cX7_init 15 = .ok (.putfield 14, 3) := by decide +kernel
theorem dX7_init_18 : decode cX7_init 18 = .ok (.aload_n 0, 1) := by decide +kernel
theorem dX7_init_19 : decode cX7_init 19 = .ok (.new 18, 3) := by decide +kernel
theorem dX7_init_22 : decode cX7_init 22 = .ok (.dup, 1) := by decide +kernel
theorem dX7_init_23 : decode cX7_init 23 = .ok (.aload_n 0, 1) := by decide +kernel
theorem dX7_init_24 : decode cX7_init 24 = .ok (.getfield 14, 3) := by decide +kernel
theorem dX7_init_27 : decode cX7_init 27 = .ok (.invokespecial 20, 3) := by decide +kernel
theorem dX7_init_30 : decode cX7_init 30 = .ok (.putfield 23, 3) := by decide +kernel
theorem dX7_init_33 : decode cX7_init 33 = .ok (.aload_n 0, 1) := by decide +kernel
theorem dX7_init_34 : decode cX7_init 34 = .ok (.new 7, 3) := by decide +kernel
theorem dX7_init_37 : decode cX7_init 37 = .ok (.dup, 1) := by decide +kernel
theorem dX7_init_38 : decode cX7_init 38 = .ok (.iconst 3, 1) := by decide +kernel
theorem dX7_init_39 : decode cX7_init 39 = .ok (.invokespecial 11, 3) := by decide +kernel
theorem dX7_init_42 : decode cX7_init 42 = .ok (.putfield 27, 3) := by decide +kernel
theorem dX7_init_45 : decode cX7_init 45 = .ok (.aload_n 0, 1) := by decide +kernel
theorem dX7_init_46 : decode cX7_init 46 = .ok (.new 30, 3) := by decide +kernel
theorem dX7_init_49 : decode cX7_init 49 = .ok (.dup, 1) := by decide +kernel
theorem dX7_init_50 : decode cX7_init 50 = .ok (.invokespecial 32, 3) := by decide +kernel
theorem dX7_init_53 : decode cX7_init 53 = .ok (.putfield 33, 3) := by decide +kernel
theorem dX7_init_56 : decode cX7_init 56 = .ok (.aload_n 0, 1) := by decide +kernel
theorem dX7_init_57 : decode cX7_init 57 = .ok (.new 30, 3) := by decide +kernel
theorem dX7_init_60 : decode cX7_init 60 = .ok (.dup, 1) := by decide +kernel
theorem dX7_init_61 : decode cX7_init 61 = .ok (.invokespecial 32, 3) := by decide +kernel
theorem dX7_init_64 : decode cX7_init 64 = .ok (.putfield 37, 3) := by decide +kernel
theorem dX7_init_67 : decode cX7_init 67 = .ok (.aload_n 0, 1) := by decide +kernel
theorem dX7_init_68 : decode cX7_init 68 = .ok (.iconst 4, 1) := by decide +kernel
theorem dX7_init_69 : decode cX7_init 69 = .ok (.anewarray 40, 3) := by decide +kernel
theorem dX7_init_72 : decode cX7_init 72 = .ok (.putfield 42, 3) := by decide +kernel
theorem dX7_init_75 : decode cX7_init 75 = .ok (.iconst 0, 1) := by decide +kernel
theorem dX7_init_76 : decode cX7_init 76 = .ok (.istore_n 1, 1) := by decide +kernel
theorem dX7_init_77 : decode cX7_init 77 = .ok (.iload_n 1, 1) := by decide +kernel
theorem dX7_init_78 : decode cX7_init 78 = .ok (.aload_n 0, 1) := by decide +kernel
theorem dX7_init_79 : decode cX7_init 79 = .ok (.getfield 42, 3) := by decide +kernel
theorem dX7_init_82 : decode cX7_init 82 = .ok (.arraylength, 1) := by decide +kernel
theorem dX7_init_83 : decode cX7_init 83 = .ok (.if_icmp .ge 22, 3) := by decide +kernel
theorem dX7_init_86 : decode cX7_init 86 = .ok (.aload_n 0, 1) := by decide +kernel
theorem dX7_init_87 : decode cX7_init 87 = .ok (.getfield 42, 3) := by decide +kernel
theorem dX7_init_90 : decode cX7_init 90 = .ok (.iload_n 1, 1) := by decide +kernel
theorem dX7_init_91 : decode cX7_init 91 = .ok (.new 40, 3) := by decide +kernel
theorem dX7_init_94 : decode cX7_init 94 = .ok (.dup, 1) := by decide +kernel
theorem dX7_init_95 : decode cX7_init 95 = .ok (.invokespecial 46, 3) := by decide +kernel
theorem dX7_init_98 : decode cX7_init 98 = .ok (.aastore, 1) := by decide +kernel
theorem dX7_init_99 : decode cX7_init 99 = .ok (.iinc 1 1, 3) := by decide +kernel
theorem dX7_init_102 : decode cX7_init 102 = .ok (.goto (-25), 3) := by decide +kernel
theorem dX7_init_105 : decode cX7_init 105 = .ok (.aload_n 0, 1) := by decide +kernel
theorem dX7_init_106 : decode cX7_init 106 = .ok (.bipush 8, 2) := by decide +kernel
theorem dX7_init_108 : decode cX7_init 108 = .ok (.anewarray 47, 3) := by decide +kernel
theorem dX7_init_111 : decode cX7_init 111 = .ok (.putfield 49, 3) := by decide +kernel
theorem dX7_init_114 : decode cX7_init 114 = .ok (.iconst 0, 1) := by decide +kernel
theorem dX7_init_115 : decode cX7_init 115 = .ok (.istore_n 1, 1) := by decide +kernel
theorem dX7_init_116 : decode cX7_init 116 = .ok (.iload_n 1, 1) := by decide +kernel
theorem dX7_init_117 : decode cX7_init 117 = .ok (.aload_n 0, 1) := by decide +kernel
theorem dX7_init_118 : decode cX7_init 118 = .ok (.getfield 49, 3) := by decide +kernel
theorem dX7_init_121 : decode cX7_init 121 = .ok (.arraylength, 1) := by decide +kernel
theorem dX7_init_122 : decode cX7_init 122 = .ok (.if_icmp .ge 23, 3) := by decide +kernel
theorem dX7_init_125 : decode cX7_init 125 = .ok (.aload_n 0, 1) := by decide +kernel
theorem dX7_init_126 : decode cX7_init 126 = .ok (.getfield 49, 3) := by decide +kernel
theorem dX7_init_129 : decode cX7_init 129 = .ok (.iload_n 1, 1) := by decide +kernel
theorem dX7_init_130 : decode cX7_init 130 = .ok (.new 47, 3) := by decide +kernel
theorem dX7_init_133 : decode cX7_init 133 = .ok (.dup, 1) := by decide +kernel
theorem dX7_init_134 : decode cX7_init 134 = .ok (.iload_n 1, 1) := by decide +kernel
theorem dX7_init_135 : decode cX7_init 135 = .ok (.invokespecial 53, 3) := by decide +kernel
theorem dX7_init_138 : decode cX7_init 138 = .ok (.aastore, 1) := by decide +kernel
theorem dX7_init_139 : decode cX7_init 139 = .ok (.iinc 1 1, 3) := by decide +kernel
theorem dX7_init_142 : decode cX7_init 142 = .ok (.goto (-26), 3) := by decide +kernel
theorem dX7_init_145 : decode cX7_init 145 = .ok (.aload_n 0, 1) := by decide +kernel
theorem dX7_init_146 : decode cX7_init 146 = .ok (.new 54, 3) := by decide +kernel
theorem dX7_init_149 : decode cX7_init 149 = .ok (.dup, 1) := by decide +kernel
theorem dX7_init_150 : decode cX7_init 150 = .ok (.aload_n 0, 1) := by decide +kernel
theorem dX7_init_151 : decode cX7_init 151 = .ok (.getfield 49, 3) := by decide +kernel
theorem dX7_init_154 : decode cX7_init 154 = .ok (.invokespecial 56, 3) := by decide +kernel
theorem dX7_init_157 : decode cX7_init 157 = .ok (.putfield 59, 3) := by decide +kernel
theorem dX7_init_160 : decode cX7_init 160 = .ok (.iconst 0, 1) := by decide +kernel
theorem dX7_init_161 : decode cX7_init 161 = .ok (.istore_n 1, 1) := by decide +kernel
theorem dX7_init_162 : decode cX7_init 162 = .ok (.iload_n 1, 1) := by decide +kernel
theorem dX7_init_163 : decode cX7_init 163 = .ok (.ldc 63, 2) := by decide +kernel
theorem dX7_init_165 : decode cX7_init 165 = .ok (.invokevirtual 65, 3) := by decide +kernel
theorem dX7_init_168 : decode cX7_init 168 = .ok (.if_icmp .ge 23, 3) := by decide +kernel
theorem dX7_init_171 : decode cX7_init 171 = .ok (.aload_n 0, 1) := by decide +kernel
theorem dX7_init_172 : decode cX7_init 172 = .ok (.getfield 14, 3) := by decide +kernel
theorem dX7_init_175 : decode cX7_init 175 = .ok (.ldc 63, 2) := by decide +kernel
theorem dX7_init_177 : decode cX7_init 177 = .ok (.iload_n 1, 1) := by decide +kernel
theorem dX7_init_178 : decode cX7_init 178 = .ok (.invokevirtual 71, 3) := by decide +kernel
theorem dX7_init_181 : decode cX7_init 181 = .ok (.invokevirtual 75, 3) := by decide +kernel
theorem dX7_init_184 : decode cX7_init 184 = .ok (.pop, 1) := by decide +kernel
theorem dX7_init_185 : decode cX7_init 185 = .ok (.iinc 1 1, 3) := by decide +kernel
theorem dX7_init_188 : decode cX7_init 188 = .ok (.goto (-26), 3) := by decide +kernel
theorem dX7_init_191 : decode cX7_init 191 = .ok (.aload_n 0, 1) := by decide +kernel
theorem dX7_init_192 : decode cX7_init 192 = .ok (.getfield 23, 3) := by decide +kernel
theorem dX7_init_195 : decode cX7_init 195 = .ok (.aload_n 0, 1) := by decide +kernel
theorem dX7_init_196 : decode cX7_init 196 = .ok (.getfield 37, 3) := by decide +kernel
theorem dX7_init_199 : decode cX7_init 199 = .ok (.invokevirtual 79, 3) := by decide +kernel
theorem dX7_init_202 : decode cX7_init 202 = .ok (.pop, 1) := by decide +kernel
theorem dX7_init_203 : decode cX7_init 203 = .ok (.aload_n 0, 1) := by decide +kernel
theorem dX7_init_204 : decode cX7_init 204 = .ok (.invokevirtual 83, 3) := by decide +kernel
theorem dX7_init_207 : decode cX7_init 207 = .ok (.aload_n 0, 1) := by decide +kernel
theorem dX7_init_208 : decode cX7_init 208 = .ok (.getfield 14, 3) := by decide +kernel
theorem dX7_init_211 : decode cX7_init 211 = .ok (.invokevirtual 86, 3) := by decide +kernel
theorem dX7_init_214 : decode cX7_init 214 = .ok (.return_, 1) := by decide +kernel

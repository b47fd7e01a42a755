theorem dX8_coordinator_0 : decode cX8_coordinator 0 = .ok (.aload_n 0, 1) := by decide +kernel
theorem dX8_coordinator_1 : decode cX8_coordinator 1 = .ok (.iload_n 1, 1) := by decide +kernel
theorem dX8_coordinator_2 : decode cX8_coordinator 2 = .ok (.invokevirtual 256, 3) := by decide +kernel
theorem dX8_coordinator_5 : decode cX8_coordinator 5 = .ok (.ifCond .eq 15, 3) := by decide +kernel
theorem dX8_coordinator_8 : decode cX8_coordinator 8 = .ok (.iload_n 2, 1) := by decide +kernel
theorem dX8_coordinator_9 : decode cX8_coordinator 9 = .ok (.i2l, 1) := by decide +kernel
theorem dX8_coordinator_10 : decode cX8_coordinator 10 = .ok (.lconst 0, 1) := by decide +kernel
theorem dX8_coordinator_11 : decode cX8_coordinator 11 = .ok (.ldc2_w 342, 3) := by decide +kernel
theorem dX8_coordinator_14 : decode cX8_coordinator 14 = .ok (.invokestatic 161, 3) := by decide +kernel
theorem dX8_coordinator_17 : decode cX8_coordinator 17 = .ok (.ifCond .ne 5, 3) := by decide +kernel
theorem dX8_coordinator_20 : decode cX8_coordinator 20 = .ok (.iconst (-1), 1) := by decide +kernel
theorem dX8_coordinator_21 : decode cX8_coordinator 21 = .ok (.ireturn, 1) := by decide +kernel
theorem dX8_coordinator_22 : decode cX8_coordinator 22 = .ok (.iload_n 2, 1) := by decide +kernel
theorem dX8_coordinator_23 : decode cX8_coordinator 23 = .ok (.tableswitch 67 0 4 #[33, 40, 47, 53, 60], 33) := by decide +kernel
theorem dX8_coordinator_56 : decode cX8_coordinator 56 = .ok (.aload_n 0, 1) := by decide +kernel
theorem dX8_coordinator_57 : decode cX8_coordinator 57 = .ok (.getfield 34, 3) := by decide +kernel
theorem dX8_coordinator_60 : decode cX8_coordinator 60 = .ok (.iload_n 1, 1) := by decide +kernel
theorem dX8_coordinator_61 : decode cX8_coordinator 61 = .ok (.iaload, 1) := by decide +kernel
theorem dX8_coordinator_62 : decode cX8_coordinator 62 = .ok (.ireturn, 1) := by decide +kernel
theorem dX8_coordinator_63 : decode cX8_coordinator 63 = .ok (.aload_n 0, 1) := by decide +kernel
theorem dX8_coordinator_64 : decode cX8_coordinator 64 = .ok (.getfield 31, 3) := by decide +kernel
theorem dX8_coordinator_67 : decode cX8_coordinator 67 = .ok (.iload_n 1, 1) := by decide +kernel
theorem dX8_coordinator_68 : decode cX8_coordinator 68 = .ok (.iaload, 1) := by decide +kernel
theorem dX8_coordinator_69 : decode cX8_coordinator 69 = .ok (.ireturn, 1) := by decide +kernel
theorem dX8_coordinator_70 : decode cX8_coordinator 70 = .ok (.aload_n 0, 1) := by decide +kernel
theorem dX8_coordinator_71 : decode cX8_coordinator 71 = .ok (.iload_n 1, 1) := by decide +kernel
theorem dX8_coordinator_72 : decode cX8_coordinator 72 = .ok (.invokevirtual 291, 3) := by decide +kernel
theorem dX8_coordinator_75 : decode cX8_coordinator 75 = .ok (.ireturn, 1) := by decide +kernel
theorem dX8_coordinator_76 : decode cX8_coordinator 76 = .ok (.aload_n 0, 1) := by decide +kernel
theorem dX8_coordinator_77 : decode cX8_coordinator 77 = .ok (.getfield 43, 3) := by decide +kernel
theorem dX8_coordinator_80 : decode cX8_coordinator 80 = .ok (.iload_n 1, 1) := by decide +kernel
theorem dX8_coordinator_81 : decode cX8_coordinator 81 = .ok (.iaload, 1) := by decide +kernel
theorem dX8_coordinator_82 : decode cX8_coordinator 82 = .ok (.ireturn, 1) := by decide +kernel
theorem dX8_coordinator_83 : decode cX8_coordinator 83 = .ok (.aload_n 0, 1) := by decide +kernel
theorem dX8_coordinator_84 : decode cX8_coordinator 84 = .ok (.getfield 37, 3) := by decide +kernel
theorem dX8_coordinator_87 : decode cX8_coordinator 87 = .ok (.iload_n 1, 1) := by decide +kernel
theorem dX8_coordinator_88 : decode cX8_coordinator 88 = .ok (.iaload, 1) := by decide +kernel
theorem dX8_coordinator_89 : decode cX8_coordinator 89 = .ok (.ireturn, 1) := by decide +kernel
theorem dX8_coordinator_90 : decode cX8_coordinator 90 = .ok (.aload_n 0, 1) := by decide +kernel
theorem dX8_coordinator_91 : decode cX8_coordinator 91 = .ok (.getfield 40, 3) := by decide +kernel
theorem dX8_coordinator_94 : decode cX8_coordinator 94 = .ok (.iload_n 1, 1) := by decide +kernel
theorem dX8_coordinator_95 : decode cX8_coordinator 95 = .ok (.iaload, 1) := by decide +kernel
theorem dX8_coordinator_96 : decode cX8_coordinator 96 = .ok (.ireturn, 1) := by decide +kernel
theorem dX8_device_0 : decode cX8_device 0 = .ok (.aload_n 0, 1) := by decide +kernel
theorem dX8_device_1 : decode cX8_device 1 = .ok (.iload_n 1, 1) := by decide +kernel
theorem dX8_device_2 : decode cX8_device 2 = .ok (.invokevirtual 272, 3) := by decide +kernel
theorem dX8_device_5 : decode cX8_device 5 = .ok (.ifCond .eq 15, 3) := by decide +kernel
theorem dX8_device_8 : decode cX8_device 8 = .ok (.iload_n 2, 1) := by decide +kernel
theorem dX8_device_9 : decode cX8_device 9 = .ok (.i2l, 1) := by decide +kernel
theorem dX8_device_10 : decode cX8_device 10 = .ok (.lconst 0, 1) := by decide +kernel
theorem dX8_device_11 : decode cX8_device 11 = .ok (.ldc2_w 344, 3) := by decide +kernel
theorem dX8_device_14 : decode cX8_device 14 = .ok (.invokestatic 161, 3) := by decide +kernel
theorem dX8_device_17 : decode cX8_device 17 = .ok (.ifCond .ne 5, 3) := by decide +kernel
theorem dX8_device_20 : decode cX8_device 20 = .ok (.iconst (-1), 1) := by decide +kernel
theorem dX8_device_21 : decode cX8_device 21 = .ok (.ireturn, 1) := by decide +kernel
theorem dX8_device_22 : decode cX8_device 22 = .ok (.iload_n 2, 1) := by decide +kernel
theorem dX8_device_23 : decode cX8_device 23 = .ok (.tableswitch 156 0 12 #[65, 72, 79, 86, 93, 100, 107, 114, 121, 128, 135, 142, 149], 65) := by decide +kernel
theorem dX8_device_88 : decode cX8_device 88 = .ok (.aload_n 0, 1) := by decide +kernel
theorem dX8_device_89 : decode cX8_device 89 = .ok (.getfield 61, 3) := by decide +kernel
theorem dX8_device_92 : decode cX8_device 92 = .ok (.iload_n 1, 1) := by decide +kernel
theorem dX8_device_93 : decode cX8_device 93 = .ok (.iaload, 1) := by decide +kernel
theorem dX8_device_94 : decode cX8_device 94 = .ok (.ireturn, 1) := by decide +kernel
theorem dX8_device_95 : decode cX8_device 95 = .ok (.aload_n 0, 1) := by decide +kernel
theorem dX8_device_96 : decode cX8_device 96 = .ok (.getfield 64, 3) := by decide +kernel
theorem dX8_device_99 : decode cX8_device 99 = .ok (.iload_n 1, 1) := by decide +kernel
theorem dX8_device_100 : decode cX8_device 100 = .ok (.iaload, 1) := by decide +kernel
theorem dX8_device_101 : decode cX8_device 101 = .ok (.ireturn, 1) := by decide +kernel
theorem dX8_device_102 : decode cX8_device 102 = .ok (.aload_n 0, 1) := by decide +kernel
theorem dX8_device_103 : decode cX8_device 103 = .ok (.getfield 67, 3) := by decide +kernel
theorem dX8_device_106 : decode cX8_device 106 = .ok (.iload_n 1, 1) := by decide +kernel
theorem dX8_device_107 : decode cX8_device 107 = .ok (.iaload, 1) := by decide +kernel
theorem dX8_device_108 : decode cX8_device 108 = .ok (.ireturn, 1) := by decide +kernel
theorem dX8_device_109 : decode cX8_device 109 = .ok (.aload_n 0, 1) := by decide +kernel
theorem dX8_device_110 : decode cX8_device 110 = .ok (.getfield 70, 3) := by decide +kernel
theorem dX8_device_113 : decode cX8_device 113 = .ok (.iload_n 1, 1) := by decide +kernel
theorem dX8_device_114 : decode cX8_device 114 = .ok (.iaload, 1) := by decide +kernel
theorem dX8_device_115 : decode cX8_device 115 = .ok (.ireturn, 1) := by decide +kernel
theorem dX8_device_116 : decode cX8_device 116 = .ok (.aload_n 0, 1) := by decide +kernel
theorem dX8_device_117 : decode cX8_device 117 = .ok (.getfield 73, 3) := by decide +kernel
theorem dX8_device_120 : decode cX8_device 120 = .ok (.iload_n 1, 1) := by decide +kernel
theorem dX8_device_121 : decode cX8_device 121 = .ok (.iaload, 1) := by decide +kernel
theorem dX8_device_122 : decode cX8_device 122 = .ok (.ireturn, 1) := by decide +kernel
theorem dX8_device_123 : decode cX8_device 123 = .ok (.aload_n 0, 1) := by decide +kernel
theorem dX8_device_124 : decode cX8_device 124 = .ok (.getfield 76, 3) := by decide +kernel
theorem dX8_device_127 : decode cX8_device 127 = .ok (.iload_n 1, 1) := by decide +kernel
theorem dX8_device_128 : decode cX8_device 128 = .ok (.iaload, 1) := by decide +kernel
theorem dX8_device_129 : decode cX8_device 129 = .ok (.ireturn, 1) := by decide +kernel
theorem dX8_device_130 : decode cX8_device 130 = .ok (.aload_n 0, 1) := by decide +kernel
theorem dX8_device_131 : decode cX8_device 131 = .ok (.getfield 79, 3) := by decide +kernel
theorem dX8_device_134 : decode cX8_device 134 = .ok (.iload_n 1, 1) := by decide +kernel
theorem dX8_device_135 : decode cX8_device 135 = .ok (.iaload, 1) := by decide +kernel
theorem dX8_device_136 : decode cX8_device 136 = .ok (.ireturn, 1) := by decide +kernel
theorem dX8_device_137 : decode cX8_device 137 = .ok (.aload_n 0, 1) := by decide +kernel
theorem dX8_device_138 : decode cX8_device 138 = .ok (.getfield 82, 3) := by decide +kernel
theorem dX8_device_141 : decode cX8_device 141 = .ok (.iload_n 1, 1) := by decide +kernel
theorem dX8_device_142 : decode cX8_device 142 = .ok (.iaload, 1) := by decide +kernel
theorem dX8_device_143 : decode cX8_device 143 = .ok (.ireturn, 1) := by decide +kernel
theorem dX8_device_144 : decode cX8_device 144 = .ok (.aload_n 0, 1) := by decide +kernel
theorem dX8_device_145 : decode cX8_device 145 = .ok (.getfield 85, 3) := by decide +kernel
theorem dX8_device_148 : decode cX8_device 148 = .ok (.iload_n 1, 1) := by decide +kernel
theorem dX8_device_149 : decode cX8_device 149 = .ok (.iaload, 1) := by decide +kernel
theorem dX8_device_150 : decode cX8_device 150 = .ok (.ireturn, 1) := by decide +kernel
theorem dX8_device_151 : decode cX8_device 151 = .ok (.aload_n 0, 1) := by decide +kernel
theorem dX8_device_152 : decode cX8_device 152 = .ok (.getfield 88, 3) := by decide +kernel
theorem dX8_device_155 : decode cX8_device 155 = .ok (.iload_n 1, 1) := by decide +kernel
theorem dX8_device_156 : decode cX8_device 156 = .ok (.iaload, 1) := by decide +kernel
theorem dX8_device_157 : decode cX8_device 157 = .ok (.ireturn, 1) := by decide +kernel
theorem dX8_device_158 : decode cX8_device 158 = .ok (.aload_n 0, 1) := by decide +kernel
theorem dX8_device_159 : decode cX8_device 159 = .ok (.getfield 91, 3) := by decide +kernel
theorem dX8_device_162 : decode cX8_device 162 = .ok (.iload_n 1, 1) := by decide +kernel
theorem dX8_device_163 : decode cX8_device 163 = .ok (.iaload, 1) := by decide +kernel
theorem dX8_device_164 : decode cX8_device 164 = .ok (.ireturn, 1) := by decide +kernel
theorem dX8_device_165 : decode cX8_device 165 = .ok (.aload_n 0, 1) := by decide +kernel
theorem dX8_device_166 : decode cX8_device 166 = .ok (.getfield 94, 3) := by decide +kernel
theorem dX8_device_169 : decode cX8_device 169 = .ok (.iload_n 1, 1) := by decide +kernel
theorem dX8_device_170 : decode cX8_device 170 = .ok (.iaload, 1) := by decide +kernel
theorem dX8_device_171 : decode cX8_device 171 = .ok (.ireturn, 1) := by decide +kernel
theorem dX8_device_172 : decode cX8_device 172 = .ok (.aload_n 0, 1) := by decide +kernel
theorem dX8_device_173 : decode cX8_device 173 = .ok (.getfield 97, 3) := by decide +kernel
theorem dX8_device_176 : decode cX8_device 176 = .ok (.iload_n 1, 1) := by decide +kernel
theorem dX8_device_177 : decode cX8_device 177 = .ok (.iaload, 1) := by decide +kernel
theorem dX8_device_178 : decode cX8_device 178 = .ok (.ireturn, 1) := by decide +kernel
theorem dX8_device_179 : decode cX8_device 179 = .ok (.aload_n 0, 1) := by decide +kernel
theorem dX8_device_180 : decode cX8_device 180 = .ok (.getfield 100, 3) := by decide +kernel
theorem dX8_device_183 : decode cX8_device 183 = .ok (.iload_n 1, 1) := by decide +kernel
theorem dX8_device_184 : decode cX8_device 184 = .ok (.iaload, 1) := by decide +kernel
theorem dX8_device_185 : decode cX8_device 185 = .ok (.ireturn, 1) := by decide +kernel
theorem dX8_orphans_0 : decode cX8_orphans 0 = .ok (.iconst 0, 1) := by decide +kernel
theorem dX8_orphans_1 : decode cX8_orphans 1 = .ok (.istore_n 1, 1) := by decide +kernel
theorem dX8_orphans_2 : decode cX8_orphans 2 = .ok (.iconst 0, 1) := by decide +kernel
theorem dX8_orphans_3 : decode cX8_orphans 3 = .ok (.istore_n 2, 1) := by decide +kernel
theorem dX8_orphans_4 : decode cX8_orphans 4 = .ok (.iload_n 2, 1) := by decide +kernel
theorem dX8_orphans_5 : decode cX8_orphans 5 = .ok (.aload_n 0, 1) := by decide +kernel
theorem dX8_orphans_6 : decode cX8_orphans 6 = .ok (.getfield 219, 3) := by decide +kernel
theorem dX8_orphans_9 : decode cX8_orphans 9 = .ok (.if_icmp .ge 28, 3) := by decide +kernel
theorem dX8_orphans_12 : decode cX8_orphans 12 = .ok (.iload_n 1, 1) := by decide +kernel
theorem dX8_orphans_13 : decode cX8_orphans 13 = .ok (.aload_n 0, 1) := by decide +kernel
theorem dX8_orphans_14 : decode cX8_orphans 14 = .ok (.getfield 61, 3) := by decide +kernel
theorem dX8_orphans_17 : decode cX8_orphans 17 = .ok (.iload_n 2, 1) := by decide +kernel
theorem dX8_orphans_18 : decode cX8_orphans 18 = .ok (.iaload, 1) := by decide +kernel
theorem dX8_orphans_19 : decode cX8_orphans 19 = .ok (.bipush (-4), 2) := by decide +kernel
theorem dX8_orphans_21 : decode cX8_orphans 21 = .ok (.if_icmp .ne 7, 3) := by decide +kernel
theorem dX8_orphans_24 : decode cX8_orphans 24 = .ok (.iconst 1, 1) := by decide +kernel
theorem dX8_orphans_25 : decode cX8_orphans 25 = .ok (.goto 4, 3) := by decide +kernel
theorem dX8_orphans_28 : decode cX8_orphans 28 = .ok (.iconst 0, 1) := by decide +kernel
theorem dX8_orphans_29 : decode cX8_orphans 29 = .ok (.iadd, 1) := by decide +kernel
theorem dX8_orphans_30 : decode cX8_orphans 30 = .ok (.istore_n 1, 1) := by decide +kernel
theorem dX8_orphans_31 : decode cX8_orphans 31 = .ok (.iinc 2 1, 3) := by decide +kernel
theorem dX8_orphans_34 : decode cX8_orphans 34 = .ok (.goto (-30), 3) := by decide +kernel
theorem dX8_orphans_37 : decode cX8_orphans 37 = .ok (.iload_n 1, 1) := by decide +kernel
theorem dX8_orphans_38 : decode cX8_orphans 38 = .ok (.ireturn, 1) := by decide +kernel
theorem dX8_count_0 : decode cX8_count 0 = .ok (.iload_n 1, 1) := by decide +kernel
theorem dX8_count_1 : decode cX8_count 1 = .ok (.tableswitch 132 0 12 #[67, 72, 77, 82, 87, 92, 97, 102, 107, 112, 117, 122, 127], 67) := by decide +kernel
theorem dX8_count_68 : decode cX8_count 68 = .ok (.aload_n 0, 1) := by decide +kernel
theorem dX8_count_69 : decode cX8_count 69 = .ok (.getfield 246, 3) := by decide +kernel
theorem dX8_count_72 : decode cX8_count 72 = .ok (.ireturn, 1) := by decide +kernel
theorem dX8_count_73 : decode cX8_count 73 = .ok (.aload_n 0, 1) := by decide +kernel
theorem dX8_count_74 : decode cX8_count 74 = .ok (.getfield 219, 3) := by decide +kernel
theorem dX8_count_77 : decode cX8_count 77 = .ok (.ireturn, 1) := by decide +kernel
theorem dX8_count_78 : decode cX8_count 78 = .ok (.aload_n 0, 1) := by decide +kernel
theorem dX8_count_79 : decode cX8_count 79 = .ok (.getfield 237, 3) := by decide +kernel
theorem dX8_count_82 : decode cX8_count 82 = .ok (.ireturn, 1) := by decide +kernel
theorem dX8_count_83 : decode cX8_count 83 = .ok (.aload_n 0, 1) := by decide +kernel
theorem dX8_count_84 : decode cX8_count 84 = .ok (.getfield 222, 3) := by decide +kernel
theorem dX8_count_87 : decode cX8_count 87 = .ok (.ireturn, 1) := by decide +kernel
theorem dX8_count_88 : decode cX8_count 88 = .ok (.aload_n 0, 1) := by decide +kernel
theorem dX8_count_89 : decode cX8_count 89 = .ok (.getfield 225, 3) := by decide +kernel
theorem dX8_count_92 : decode cX8_count 92 = .ok (.ireturn, 1) := by decide +kernel
theorem dX8_count_93 : decode cX8_count 93 = .ok (.aload_n 0, 1) := by decide +kernel
theorem dX8_count_94 : decode cX8_count 94 = .ok (.getfield 228, 3) := by decide +kernel
theorem dX8_count_97 : decode cX8_count 97 = .ok (.ireturn, 1) := by decide +kernel
theorem dX8_count_98 : decode cX8_count 98 = .ok (.aload_n 0, 1) := by decide +kernel
theorem dX8_count_99 : decode cX8_count 99 = .ok (.getfield 231, 3) := by decide +kernel
theorem dX8_count_102 : decode cX8_count 102 = .ok (.ireturn, 1) := by decide +kernel
theorem dX8_count_103 : decode cX8_count 103 = .ok (.aload_n 0, 1) := by decide +kernel
theorem dX8_count_104 : decode cX8_count 104 = .ok (.getfield 234, 3) := by decide +kernel
theorem dX8_count_107 : decode cX8_count 107 = .ok (.ireturn, 1) := by decide +kernel
theorem dX8_count_108 : decode cX8_count 108 = .ok (.aload_n 0, 1) := by decide +kernel
theorem dX8_count_109 : decode cX8_count 109 = .ok (.getfield 240, 3) := by decide +kernel
theorem dX8_count_112 : decode cX8_count 112 = .ok (.ireturn, 1) := by decide +kernel
theorem dX8_count_113 : decode cX8_count 113 = .ok (.aload_n 0, 1) := by decide +kernel
theorem dX8_count_114 : decode cX8_count 114 = .ok (.getfield 148, 3) := by decide +kernel
theorem dX8_count_117 : decode cX8_count 117 = .ok (.ireturn, 1) := by decide +kernel
theorem dX8_count_118 : decode cX8_count 118 = .ok (.aload_n 0, 1) := by decide +kernel
theorem dX8_count_119 : decode cX8_count 119 = .ok (.getfield 165, 3) := by decide +kernel
theorem dX8_count_122 : decode cX8_count 122 = .ok (.ireturn, 1) := by decide +kernel
theorem dX8_count_123 : decode cX8_count 123 = .ok (.aload_n 0, 1) := by decide +kernel
theorem dX8_count_124 : decode cX8_count 124 = .ok (.invokevirtual 346, 3) := by decide +kernel
theorem dX8_count_127 : decode cX8_count 127 = .ok (.ireturn, 1) := by decide +kernel
theorem dX8_count_128 : decode cX8_count 128 = .ok (.aload_n 0, 1) := by decide +kernel
theorem dX8_count_129 : decode cX8_count 129 = .ok (.getfield 243, 3) := by decide +kernel
theorem dX8_count_132 : decode cX8_count 132 = .ok (.ireturn, 1) := by decide +kernel
theorem dX8_count_133 : decode cX8_count 133 = .ok (.iconst (-1), 1) := by decide +kernel
theorem dX8_count_134 : decode cX8_count 134 = .ok (.ireturn, 1) := by decide +kernel
theorem dX8_init_0 : decode cX8_init 0 = .ok (.aload_n 0, 1) := by decide +kernel
theorem dX8_init_1 : decode cX8_init 1 = .ok (.invokespecial 1, 3) := by decide +kernel
theorem dX8_init_4 : decode cX8_init 4 = .ok (.aload_n 0, 1) := by decide +kernel
theorem dX8_init_5 : decode cX8_init 5 = .ok (.sipush 200, 3) := by decide +kernel
theorem dX8_init_8 : decode cX8_init 8 = .ok (.newarray .int, 2) := by decide +kernel
theorem dX8_init_10 : decode cX8_init 10 = .ok (.putfield 7, 3) := by decide +kernel
theorem dX8_init_13 : decode cX8_init 13 = .ok (.aload_n 0, 1) := by decide +kernel
theorem dX8_init_14 : decode cX8_init 14 = .ok (.iconst 3, 1) := by decide +kernel
theorem dX8_init_15 : decode cX8_init 15 = .ok (.newarray .int, 2) := by decide +kernel
theorem dX8_init_17 : decode cX8_init 17 = .ok (.putfield 13, 3) := by decide +kernel
theorem dX8_init_20 : decode cX8_init 20 = .ok (.aload_n 0, 1) := by decide +kernel
theorem dX8_init_21 : decode cX8_init 21 = .ok (.iconst 4, 1) := by decide +kernel
theorem dX8_init_22 : decode cX8_init 22 = .ok (.newarray .int, 2) := by decide +kernel
theorem dX8_init_24 : decode cX8_init 24 = .ok (.putfield 16, 3) := by decide +kernel
theorem dX8_init_27 : decode cX8_init 27 = .ok (.aload_n 0, 1) := by decide +kernel
theorem dX8_init_28 : decode cX8_init 28 = .ok (.iconst 4, 1) := by decide +kernel
theorem dX8_init_29 : decode cX8_init 29 = .ok (.newarray .int, 2) := by decide +kernel
theorem dX8_init_31 : decode cX8_init 31 = .ok (.putfield 19, 3) := by decide +kernel
theorem dX8_init_34 : decode cX8_init 34 = .ok (.aload_n 0, 1) := by decide +kernel
theorem dX8_init_35 : decode cX8_init 35 = .ok (.bipush 8, 2) := by decide +kernel
theorem dX8_init_37 : decode cX8_init 37 = .ok (.newarray .int, 2) := by decide +kernel
theorem dX8_init_39 : decode cX8_init 39 = .ok (.putfield 22, 3) := by decide +kernel
theorem dX8_init_42 : decode cX8_init 42 = .ok (.aload_n 0, 1) := by decide +kernel
theorem dX8_init_43 : decode cX8_init 43 = .ok (.bipush 8, 2) := by decide +kernel
theorem dX8_init_45 : decode cX8_init 45 = .ok (.newarray .int, 2) := by decide +kernel
theorem dX8_init_47 : decode cX8_init 47 = .ok (.putfield 25, 3) := by decide +kernel
theorem dX8_init_50 : decode cX8_init 50 = .ok (.aload_n 0, 1) := by decide +kernel
theorem dX8_init_51 : decode cX8_init 51 = .ok (.bipush 8, 2) := by decide +kernel
theorem dX8_init_53 : decode cX8_init 53 = .ok (.newarray .int, 2) := by decide +kernel
theorem dX8_init_55 : decode cX8_init 55 = .ok (.putfield 28, 3) := by decide +kernel
theorem dX8_init_58 : decode cX8_init 58 = .ok (.aload_n 0, 1) := by decide +kernel
theorem dX8_init_59 : decode cX8_init 59 = .ok (.iconst 4, 1) := by decide +kernel
theorem dX8_init_60 : decode cX8_init 60 = .ok (.newarray .int, 2) := by decide +kernel
theorem dX8_init_62 : decode cX8_init 62 = .ok (.putfield 31, 3) := by decide +kernel
theorem dX8_init_65 : decode cX8_init 65 = .ok (.aload_n 0, 1) := by decide +kernel
theorem dX8_init_66 : decode cX8_init 66 = .ok (.iconst 4, 1) := by decide +kernel
theorem dX8_init_67 : decode cX8_init 67 = .ok (.newarray .int, 2) := by decide +kernel
theorem dX8_init_69 : decode cX8_init 69 = .ok (.putfield 34, 3) := by decide +kernel
theorem dX8_init_72 : decode cX8_init 72 = .ok (.aload_n 0, 1) := by decide +kernel
theorem dX8_init_73 : decode cX8_init 73 = .ok (.iconst 4, 1) := by decide +kernel
theorem dX8_init_74 : decode cX8_init 74 = .ok (.newarray .int, 2) := by decide +kernel
theorem dX8_init_76 : decode cX8_init 76 = .ok (.putfield 37, 3) := by decide +kernel
theorem dX8_init_79 : decode cX8_init 79 = .ok (.aload_n 0, 1) := by decide +kernel
theorem dX8_init_80 : decode cX8_init 80 = .ok (.iconst 4, 1) := by decide +kernel
theorem dX8_init_81 : decode cX8_init 81 = .ok (.newarray .int, 2) := by decide +kernel
theorem dX8_init_83 : decode cX8_init 83 = .ok (.putfield 40, 3) := by decide +kernel
theorem dX8_init_86 : decode cX8_init 86 = .ok (.aload_n 0, 1) := by decide +kernel
theorem dX8_init_87 : decode cX8_init 87 = .ok (.iconst 4, 1) := by decide +kernel
theorem dX8_init_88 : decode cX8_init 88 = .ok (.newarray .int, 2) := by decide +kernel
theorem dX8_init_90 : decode cX8_init 90 = .ok (.putfield 43, 3) := by decide +kernel
theorem dX8_init_93 : decode cX8_init 93 = .ok (.aload_n 0, 1) := by decide +kernel
theorem dX8_init_94 : decode cX8_init 94 = .ok (.iconst 4, 1) := by decide +kernel
theorem dX8_init_95 : decode cX8_init 95 = .ok (.newarray .int, 2) := by decide +kernel
theorem dX8_init_97 : decode cX8_init 97 = .ok (.putfield 46, 3) := by decide +kernel
theorem dX8_init_100 : decode cX8_init 100 = .ok (.aload_n 0, 1) := by decide +kernel
theorem dX8_init_101 : decode cX8_init 101 = .ok (.bipush 28, 2) := by decide +kernel
theorem dX8_init_103 : decode cX8_init 103 = .ok (.newarray .int, 2) := by decide +kernel
theorem dX8_init_105 : decode cX8_init 105 = .ok (.putfield 49, 3) := by decide +kernel
theorem dX8_init_108 : decode cX8_init 108 = .ok (.aload_n 0, 1) := by decide +kernel
theorem dX8_init_109 : decode cX8_init 109 = .ok (.bipush 28, 2) := by decide +kernel
theorem dX8_init_111 : decode cX8_init 111 = .ok (.newarray .int, 2) := by decide +kernel
theorem dX8_init_113 : decode cX8_init 113 = .ok (.putfield 52, 3) := by decide +kernel
theorem dX8_init_116 : decode cX8_init 116 = .ok (.aload_n 0, 1) := by decide +kernel
theorem dX8_init_117 : decode cX8_init 117 = .ok (.bipush 28, 2) := by decide +kernel
theorem dX8_init_119 : decode cX8_init 119 = .ok (.newarray .int, 2) := by decide +kernel
theorem dX8_init_121 : decode cX8_init 121 = .ok (.putfield 55, 3) := by decide +kernel
theorem dX8_init_124 : decode cX8_init 124 = .ok (.aload_n 0, 1) := by decide +kernel
theorem dX8_init_125 : decode cX8_init 125 = .ok (.sipush 1536, 3) := by decide +kernel
theorem dX8_init_128 : decode cX8_init 128 = .ok (.newarray .int, 2) := by decide +kernel
theorem dX8_init_130 : decode cX8_init 130 = .ok (.putfield 58, 3) := by decide +kernel
theorem dX8_init_133 : decode cX8_init 133 = .ok (.aload_n 0, 1) := by decide +kernel
theorem dX8_init_134 : decode cX8_init 134 = .ok (.bipush 8, 2) := by decide +kernel
theorem dX8_init_136 : decode cX8_init 136 = .ok (.newarray .int, 2) := by decide +kernel
theorem dX8_init_138 : decode cX8_init 138 = .ok (.putfield 61, 3) := by decide +kernel
theorem dX8_init_141 : decode cX8_init 141 = .ok (.aload_n 0, 1) := by decide +kernel
theorem dX8_init_142 : decode cX8_init 142 = .ok (.bipush 8, 2) := by decide +kernel
theorem dX8_init_144 : decode cX8_init 144 = .ok (.newarray .int, 2) := by decide +kernel
theorem dX8_init_146 : decode cX8_init 146 = .ok (.putfield 64, 3) := by decide +kernel
theorem dX8_init_149 : decode cX8_init 149 = .ok (.aload_n 0, 1) := by decide +kernel
theorem dX8_init_150 : decode cX8_init 150 = .ok (.bipush 8, 2) := by decide +kernel
theorem dX8_init_152 : decode cX8_init 152 = .ok (.newarray .int, 2) := by decide +kernel
theorem dX8_init_154 : decode cX8_init 154 = .ok (.putfield 67, 3) := by decide +kernel
theorem dX8_init_157 : decode cX8_init 157 = .ok (.aload_n 0, 1) := by decide +kernel
theorem dX8_init_158 : decode cX8_init 158 = .ok (.bipush 8, 2) := by decide +kernel
theorem dX8_init_160 : decode cX8_init 160 = .ok (.newarray .int, 2) := by decide +kernel
theorem dX8_init_162 : decode cX8_init 162 = .ok (.putfield 70, 3) := by decide +kernel
theorem dX8_init_165 : decode cX8_init 165 = .ok (.aload_n 0, 1) := by decide +kernel
theorem dX8_init_166 : decode cX8_init 166 = .ok (.bipush 8, 2) := by decide +kernel
theorem dX8_init_168 : decode cX8_init 168 = .ok (.newarray .int, 2) := by decide +kernel
theorem dX8_init_170 : decode cX8_init 170 = .ok (.putfield 73, 3) := by decide +kernel
theorem dX8_init_173 : decode cX8_init 173 = .ok (.aload_n 0, 1) := by decide +kernel
theorem dX8_init_174 : decode cX8_init 174 = .ok (.bipush 8, 2) := by decide +kernel
theorem dX8_init_176 : decode cX8_init 176 = .ok (.newarray .int, 2) := by decide +kernel
theorem dX8_init_178 : decode cX8_init 178 = .ok (.putfield 76, 3) := by decide +kernel
theorem dX8_init_181 : decode cX8_init 181 = .ok (.aload_n 0, 1) := by decide +kernel
theorem dX8_init_182 : decode cX8_init 182 = .ok (.bipush 8, 2) := by decide +kernel
theorem dX8_init_184 : decode cX8_init 184 = .ok (.newarray .int, 2) := by decide +kernel
theorem dX8_init_186 : decode cX8_init 186 = .ok (.putfield 79, 3) := by decide +kernel
theorem dX8_init_189 : decode cX8_init 189 = .ok (.aload_n 0, 1) := by decide +kernel
theorem dX8_init_190 : decode cX8_init 190 = .ok (.bipush 8, 2) := by decide +kernel
theorem dX8_init_192 : decode cX8_init 192 = .ok (.newarray .int, 2) := by decide +kernel
theorem dX8_init_194 : decode cX8_init 194 = .ok (.putfield 82, 3) := by decide +kernel
theorem dX8_init_197 : decode cX8_init 197 = .ok (.aload_n 0, 1) := by decide +kernel
theorem dX8_init_198 : decode cX8_init 198 = .ok (.bipush 8, 2) := by decide +kernel
theorem dX8_init_200 : decode cX8_init 200 = .ok (.newarray .int, 2) := by decide +kernel
theorem dX8_init_202 : decode cX8_init 202 = .ok (.putfield 85, 3) := by decide +kernel
theorem dX8_init_205 : decode cX8_init 205 = .ok (.aload_n 0, 1) := by decide +kernel
theorem dX8_init_206 : decode cX8_init 206 = .ok (.bipush 8, 2) := by decide +kernel
theorem dX8_init_208 : decode cX8_init 208 = .ok (.newarray .int, 2) := by decide +kernel
theorem dX8_init_210 : decode cX8_init 210 = .ok (.putfield 88, 3) := by decide +kernel
theorem dX8_init_213 : decode cX8_init 213 = .ok (.aload_n 0, 1) := by decide +kernel
theorem dX8_init_214 : decode cX8_init 214 = .ok (.bipush 8, 2) := by decide +kernel
theorem dX8_init_216 : decode cX8_init 216 = .ok (.newarray .int, 2) := by decide +kernel
theorem dX8_init_218 : decode cX8_init 218 = .ok (.putfield 91, 3) := by decide +kernel
theorem dX8_init_221 : decode cX8_init 221 = .ok (.aload_n 0, 1) := by decide +kernel
theorem dX8_init_222 : decode cX8_init 222 = .ok (.bipush 8, 2) := by decide +kernel
theorem dX8_init_224 : decode cX8_init 224 = .ok (.newarray .int, 2) := by decide +kernel
theorem dX8_init_226 : decode cX8_init 226 = .ok (.putfield 94, 3) := by decide +kernel
theorem dX8_init_229 : decode cX8_init 229 = .ok (.aload_n 0, 1) := by decide +kernel
theorem dX8_init_230 : decode cX8_init 230 = .ok (.bipush 8, 2) := by decide +kernel
theorem dX8_init_232 : decode cX8_init 232 = .ok (.newarray .int, 2) := by decide +kernel
theorem dX8_init_234 : decode cX8_init 234 = .ok (.putfield 97, 3) := by decide +kernel
theorem dX8_init_237 : decode cX8_init 237 = .ok (.aload_n 0, 1) := by decide +kernel
theorem dX8_init_238 : decode cX8_init 238 = .ok (.bipush 8, 2) := by decide +kernel
theorem dX8_init_240 : decode cX8_init 240 = .ok (.newarray .int, 2) := by decide +kernel
theorem dX8_init_242 : decode cX8_init 242 = .ok (.putfield 100, 3) := by decide +kernel
theorem dX8_init_245 : decode cX8_init 245 = .ok (.aload_n 0, 1) := by decide +kernel
theorem dX8_init_246 : decode cX8_init 246 = .ok (.bipush 8, 2) := by decide +kernel
theorem dX8_init_248 : decode cX8_init 248 = .ok (.newarray .int, 2) := by decide +kernel
theorem dX8_init_250 : decode cX8_init 250 = .ok (.putfield 103, 3) := by decide +kernel
theorem dX8_init_253 : decode cX8_init 253 = .ok (.aload_n 0, 1) := by decide +kernel
theorem dX8_init_254 : decode cX8_init 254 = .ok (.bipush 8, 2) := by decide +kernel
theorem dX8_init_256 : decode cX8_init 256 = .ok (.newarray .int, 2) := by decide +kernel
theorem dX8_init_258 : decode cX8_init 258 = .ok (.putfield 106, 3) := by decide +kernel
theorem dX8_init_261 : decode cX8_init 261 = .ok (.aload_n 0, 1) := by decide +kernel
theorem dX8_init_262 : decode cX8_init 262 = .ok (.bipush 8, 2) := by decide +kernel
theorem dX8_init_264 : decode cX8_init 264 = .ok (.newarray .int, 2) := by decide +kernel
theorem dX8_init_266 : decode cX8_init 266 = .ok (.putfield 109, 3) := by decide +kernel
theorem dX8_init_269 : decode cX8_init 269 = .ok (.aload_n 0, 1) := by decide +kernel
theorem dX8_init_270 : decode cX8_init 270 = .ok (.bipush 8, 2) := by decide +kernel
theorem dX8_init_272 : decode cX8_init 272 = .ok (.newarray .int, 2) := by decide +kernel
theorem dX8_init_274 : decode cX8_init 274 = .ok (.putfield 112, 3) := by decide +kernel
theorem dX8_init_277 : decode cX8_init 277 = .ok (.aload_n 0, 1) := by decide +kernel
theorem dX8_init_278 : decode cX8_init 278 = .ok (.bipush 8, 2) := by decide +kernel
theorem dX8_init_280 : decode cX8_init 280 = .ok (.newarray .int, 2) := by decide +kernel
theorem dX8_init_282 : decode cX8_init 282 = .ok (.putfield 115, 3) := by decide +kernel
theorem dX8_init_285 : decode cX8_init 285 = .ok (.aload_n 0, 1) := by decide +kernel
theorem dX8_init_286 : decode cX8_init 286 = .ok (.bipush 8, 2) := by decide +kernel
theorem dX8_init_288 : decode cX8_init 288 = .ok (.newarray .int, 2) := by decide +kernel
theorem dX8_init_290 : decode cX8_init 290 = .ok (.putfield 118, 3) := by decide +kernel
theorem dX8_init_293 : decode cX8_init 293 = .ok (.aload_n 0, 1) := by decide +kernel
theorem dX8_init_294 : decode cX8_init 294 = .ok (.invokevirtual 121, 3) := by decide +kernel
theorem dX8_init_297 : decode cX8_init 297 = .ok (.aload_n 0, 1) := by decide +kernel
theorem dX8_init_298 : decode cX8_init 298 = .ok (.iconst 4, 1) := by decide +kernel
theorem dX8_init_299 : decode cX8_init 299 = .ok (.putfield 124, 3) := by decide +kernel
theorem dX8_init_302 : decode cX8_init 302 = .ok (.aload_n 0, 1) := by decide +kernel
theorem dX8_init_303 : decode cX8_init 303 = .ok (.iconst 1, 1) := by decide +kernel
theorem dX8_init_304 : decode cX8_init 304 = .ok (.putfield 128, 3) := by decide +kernel
theorem dX8_init_307 : decode cX8_init 307 = .ok (.aload_n 0, 1) := by decide +kernel
theorem dX8_init_308 : decode cX8_init 308 = .ok (.bipush 8, 2) := by decide +kernel
theorem dX8_init_310 : decode cX8_init 310 = .ok (.putfield 131, 3) := by decide +kernel
theorem dX8_init_313 : decode cX8_init 313 = .ok (.aload_n 0, 1) := by decide +kernel
theorem dX8_init_314 : decode cX8_init 314 = .ok (.iconst 0, 1) := by decide +kernel
theorem dX8_init_315 : decode cX8_init 315 = .ok (.iconst 2, 1) := by decide +kernel
theorem dX8_init_316 : decode cX8_init 316 = .ok (.iconst 3, 1) := by decide +kernel
theorem dX8_init_317 : decode cX8_init 317 = .ok (.invokevirtual 134, 3) := by decide +kernel
theorem dX8_init_320 : decode cX8_init 320 = .ok (.aload_n 0, 1) := by decide +kernel
theorem dX8_init_321 : decode cX8_init 321 = .ok (.iconst 0, 1) := by decide +kernel
theorem dX8_init_322 : decode cX8_init 322 = .ok (.iconst 1, 1) := by decide +kernel
theorem dX8_init_323 : decode cX8_init 323 = .ok (.iconst 2, 1) := by decide +kernel
theorem dX8_init_324 : decode cX8_init 324 = .ok (.invokevirtual 134, 3) := by decide +kernel
theorem dX8_init_327 : decode cX8_init 327 = .ok (.aload_n 0, 1) := by decide +kernel
theorem dX8_init_328 : decode cX8_init 328 = .ok (.iconst 0, 1) := by decide +kernel
theorem dX8_init_329 : decode cX8_init 329 = .ok (.iconst 3, 1) := by decide +kernel
theorem dX8_init_330 : decode cX8_init 330 = .ok (.iconst 1, 1) := by decide +kernel
theorem dX8_init_331 : decode cX8_init 331 = .ok (.invokevirtual 134, 3) := by decide +kernel
theorem dX8_init_334 : decode cX8_init 334 = .ok (.aload_n 0, 1) := by decide +kernel
theorem dX8_init_335 : decode cX8_init 335 = .ok (.iconst 0, 1) := by decide +kernel
theorem dX8_init_336 : decode cX8_init 336 = .ok (.sipush 192, 3) := by decide +kernel
theorem dX8_init_339 : decode cX8_init 339 = .ok (.invokevirtual 138, 3) := by decide +kernel
theorem dX8_init_342 : decode cX8_init 342 = .ok (.aload_n 0, 1) := by decide +kernel
theorem dX8_init_343 : decode cX8_init 343 = .ok (.iconst 1, 1) := by decide +kernel
theorem dX8_init_344 : decode cX8_init 344 = .ok (.iconst 2, 1) := by decide +kernel
theorem dX8_init_345 : decode cX8_init 345 = .ok (.iconst 3, 1) := by decide +kernel
theorem dX8_init_346 : decode cX8_init 346 = .ok (.invokevirtual 134, 3) := by decide +kernel
theorem dX8_init_349 : decode cX8_init 349 = .ok (.aload_n 0, 1) := by decide +kernel
theorem dX8_init_350 : decode cX8_init 350 = .ok (.iconst 1, 1) := by decide +kernel
theorem dX8_init_351 : decode cX8_init 351 = .ok (.iconst 1, 1) := by decide +kernel
theorem dX8_init_352 : decode cX8_init 352 = .ok (.iconst 2, 1) := by decide +kernel
theorem dX8_init_353 : decode cX8_init 353 = .ok (.invokevirtual 134, 3) := by decide +kernel
theorem dX8_init_356 : decode cX8_init 356 = .ok (.aload_n 0, 1) := by decide +kernel
theorem dX8_init_357 : decode cX8_init 357 = .ok (.iconst 0, 1) := by decide +kernel
theorem dX8_init_358 : decode cX8_init 358 = .ok (.sipush 400, 3) := by decide +kernel
theorem dX8_init_361 : decode cX8_init 361 = .ok (.invokevirtual 138, 3) := by decide +kernel
theorem dX8_init_364 : decode cX8_init 364 = .ok (.aload_n 0, 1) := by decide +kernel
theorem dX8_init_365 : decode cX8_init 365 = .ok (.iconst 2, 1) := by decide +kernel
theorem dX8_init_366 : decode cX8_init 366 = .ok (.iconst 2, 1) := by decide +kernel
theorem dX8_init_367 : decode cX8_init 367 = .ok (.iconst 1, 1) := by decide +kernel
theorem dX8_init_368 : decode cX8_init 368 = .ok (.invokevirtual 134, 3) := by decide +kernel
theorem dX8_init_371 : decode cX8_init 371 = .ok (.aload_n 0, 1) := by decide +kernel
theorem dX8_init_372 : decode cX8_init 372 = .ok (.iconst 3, 1) := by decide +kernel
theorem dX8_init_373 : decode cX8_init 373 = .ok (.putfield 142, 3) := by decide +kernel
theorem dX8_init_376 : decode cX8_init 376 = .ok (.aload_n 0, 1) := by decide +kernel
theorem dX8_init_377 : decode cX8_init 377 = .ok (.invokevirtual 145, 3) := by decide +kernel
theorem dX8_init_380 : decode cX8_init 380 = .ok (.return_, 1) := by decide +kernel

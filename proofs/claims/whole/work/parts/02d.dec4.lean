theorem dX8_scan_0 : decode cX8_scan 0 = .ok (.aload_n 0, 1) := by decide +kernel
theorem dX8_scan_1 : decode cX8_scan 1 = .ok (.iload_n 1, 1) := by decide +kernel
theorem dX8_scan_2 : decode cX8_scan 2 = .ok (.invokevirtual 272, 3) := by decide +kernel
theorem dX8_scan_5 : decode cX8_scan 5 = .ok (.ifCond .ne 5, 3) := by decide +kernel
theorem dX8_scan_8 : decode cX8_scan 8 = .ok (.iconst (-1), 1) := by decide +kernel
theorem dX8_scan_9 : decode cX8_scan 9 = .ok (.ireturn, 1) := by decide +kernel
theorem dX8_scan_10 : decode cX8_scan 10 = .ok (.aload_n 0, 1) := by decide +kernel
theorem dX8_scan_11 : decode cX8_scan 11 = .ok (.getfield 61, 3) := by decide +kernel
theorem dX8_scan_14 : decode cX8_scan 14 = .ok (.iload_n 1, 1) := by decide +kernel
theorem dX8_scan_15 : decode cX8_scan 15 = .ok (.iaload, 1) := by decide +kernel
theorem dX8_scan_16 : decode cX8_scan 16 = .ok (.bipush (-4), 2) := by decide +kernel
theorem dX8_scan_18 : decode cX8_scan 18 = .ok (.if_icmp .eq 6, 3) := by decide +kernel
theorem dX8_scan_21 : decode cX8_scan 21 = .ok (.bipush (-2), 2) := by decide +kernel
theorem dX8_scan_23 : decode cX8_scan 23 = .ok (.ireturn, 1) := by decide +kernel
theorem dX8_scan_24 : decode cX8_scan 24 = .ok (.iconst 0, 1) := by decide +kernel
theorem dX8_scan_25 : decode cX8_scan 25 = .ok (.istore_n 2, 1) := by decide +kernel
theorem dX8_scan_26 : decode cX8_scan 26 = .ok (.iload_n 2, 1) := by decide +kernel
theorem dX8_scan_27 : decode cX8_scan 27 = .ok (.aload_n 0, 1) := by decide +kernel
theorem dX8_scan_28 : decode cX8_scan 28 = .ok (.getfield 246, 3) := by decide +kernel
theorem dX8_scan_31 : decode cX8_scan 31 = .ok (.if_icmp .ge 38, 3) := by decide +kernel
theorem dX8_scan_34 : decode cX8_scan 34 = .ok (.aload_n 0, 1) := by decide +kernel
theorem dX8_scan_35 : decode cX8_scan 35 = .ok (.getfield 43, 3) := by decide +kernel
theorem dX8_scan_38 : decode cX8_scan 38 = .ok (.iload_n 2, 1) := by decide +kernel
theorem dX8_scan_39 : decode cX8_scan 39 = .ok (.iaload, 1) := by decide +kernel
theorem dX8_scan_40 : decode cX8_scan 40 = .ok (.iload_n 1, 1) := by decide +kernel
theorem dX8_scan_41 : decode cX8_scan 41 = .ok (.invokestatic 275, 3) := by decide +kernel
theorem dX8_scan_44 : decode cX8_scan 44 = .ok (.ifCond .eq 19, 3) := by decide +kernel
theorem dX8_scan_47 : decode cX8_scan 47 = .ok (.aload_n 0, 1) := by decide +kernel
theorem dX8_scan_48 : decode cX8_scan 48 = .ok (.getfield 61, 3) := by decide +kernel
theorem dX8_scan_51 : decode cX8_scan 51 = .ok (.iload_n 1, 1) := by decide +kernel
theorem dX8_scan_52 : decode cX8_scan 52 = .ok (.iload_n 2, 1) := by decide +kernel
theorem dX8_scan_53 : decode cX8_scan 53 = .ok (.iastore, 1) := by decide +kernel
theorem dX8_scan_54 : decode cX8_scan 54 = .ok (.aload_n 0, 1) := by decide +kernel
theorem dX8_scan_55 : decode cX8_scan 55 = .ok (.getfield 82, 3) := by decide +kernel
theorem dX8_scan_58 : decode cX8_scan 58 = .ok (.iload_n 1, 1) := by decide +kernel
theorem dX8_scan_59 : decode cX8_scan 59 = .ok (.iconst 0, 1) := by decide +kernel
theorem dX8_scan_60 : decode cX8_scan 60 = .ok (.iastore, 1) := by decide +kernel
theorem dX8_scan_61 : decode cX8_scan 61 = .ok (.iload_n 2, 1) := by decide +kernel
theorem dX8_scan_62 : decode cX8_scan 62 = .ok (.ireturn, 1) := by decide +kernel
theorem dX8_scan_63 : decode cX8_scan 63 = .ok (.iinc 2 1, 3) := by decide +kernel
theorem dX8_scan_66 : decode cX8_scan 66 = .ok (.goto (-40), 3) := by decide +kernel
theorem dX8_scan_69 : decode cX8_scan 69 = .ok (.bipush (-4), 2) := by decide +kernel
theorem dX8_scan_71 : decode cX8_scan 71 = .ok (.ireturn, 1) := by decide +kernel
theorem dX8_hasPromise_0 : decode cX8_hasPromise 0 = .ok (.iconst 0, 1) := by decide +kernel
theorem dX8_hasPromise_1 : decode cX8_hasPromise 1 = .ok (.istore_n 2, 1) := by decide +kernel
theorem dX8_hasPromise_2 : decode cX8_hasPromise 2 = .ok (.iconst 0, 1) := by decide +kernel
theorem dX8_hasPromise_3 : decode cX8_hasPromise 3 = .ok (.istore_n 3, 1) := by decide +kernel
theorem dX8_hasPromise_4 : decode cX8_hasPromise 4 = .ok (.iload_n 3, 1) := by decide +kernel
theorem dX8_hasPromise_5 : decode cX8_hasPromise 5 = .ok (.aload_n 0, 1) := by decide +kernel
theorem dX8_hasPromise_6 : decode cX8_hasPromise 6 = .ok (.getfield 246, 3) := by decide +kernel
theorem dX8_hasPromise_9 : decode cX8_hasPromise 9 = .ok (.if_icmp .ge 30, 3) := by decide +kernel
theorem dX8_hasPromise_12 : decode cX8_hasPromise 12 = .ok (.iload_n 2, 1) := by decide +kernel
theorem dX8_hasPromise_13 : decode cX8_hasPromise 13 = .ok (.ifCond .ne 14, 3) := by decide +kernel
theorem dX8_hasPromise_16 : decode cX8_hasPromise 16 = .ok (.aload_n 0, 1) := by decide +kernel
theorem dX8_hasPromise_17 : decode cX8_hasPromise 17 = .ok (.iload_n 3, 1) := by decide +kernel
theorem dX8_hasPromise_18 : decode cX8_hasPromise 18 = .ok (.iload_n 1, 1) := by decide +kernel
theorem dX8_hasPromise_19 : decode cX8_hasPromise 19 = .ok (.invokevirtual 265, 3) := by decide +kernel
theorem dX8_hasPromise_22 : decode cX8_hasPromise 22 = .ok (.bipush (-4), 2) := by decide +kernel
theorem dX8_hasPromise_24 : decode cX8_hasPromise 24 = .ok (.if_icmp .eq 7, 3) := by decide +kernel
theorem dX8_hasPromise_27 : decode cX8_hasPromise 27 = .ok (.iconst 1, 1) := by decide +kernel
theorem dX8_hasPromise_28 : decode cX8_hasPromise 28 = .ok (.goto 4, 3) := by decide +kernel
theorem dX8_hasPromise_31 : decode cX8_hasPromise 31 = .ok (.iconst 0, 1) := by decide +kernel
theorem dX8_hasPromise_32 : decode cX8_hasPromise 32 = .ok (.istore_n 2, 1) := by decide +kernel
theorem dX8_hasPromise_33 : decode cX8_hasPromise 33 = .ok (.iinc 3 1, 3) := by decide +kernel
theorem dX8_hasPromise_36 : decode cX8_hasPromise 36 = .ok (.goto (-32), 3) := by decide +kernel
theorem dX8_hasPromise_39 : decode cX8_hasPromise 39 = .ok (.iload_n 2, 1) := by decide +kernel
theorem dX8_hasPromise_40 : decode cX8_hasPromise 40 = .ok (.ireturn, 1) := by decide +kernel
theorem dX8_taken_0 : decode cX8_taken 0 = .ok (.iconst 0, 1) := by decide +kernel
theorem dX8_taken_1 : decode cX8_taken 1 = .ok (.istore_n 2, 1) := by decide +kernel
theorem dX8_taken_2 : decode cX8_taken 2 = .ok (.iconst 0, 1) := by decide +kernel
theorem dX8_taken_3 : decode cX8_taken 3 = .ok (.istore_n 3, 1) := by decide +kernel
theorem dX8_taken_4 : decode cX8_taken 4 = .ok (.iload_n 3, 1) := by decide +kernel
theorem dX8_taken_5 : decode cX8_taken 5 = .ok (.aload_n 0, 1) := by decide +kernel
theorem dX8_taken_6 : decode cX8_taken 6 = .ok (.getfield 46, 3) := by decide +kernel
theorem dX8_taken_9 : decode cX8_taken 9 = .ok (.iload_n 1, 1) := by decide +kernel
theorem dX8_taken_10 : decode cX8_taken 10 = .ok (.iaload, 1) := by decide +kernel
theorem dX8_taken_11 : decode cX8_taken 11 = .ok (.if_icmp .ge 23, 3) := by decide +kernel
theorem dX8_taken_14 : decode cX8_taken 14 = .ok (.iload_n 2, 1) := by decide +kernel
theorem dX8_taken_15 : decode cX8_taken 15 = .ok (.aload_n 0, 1) := by decide +kernel
theorem dX8_taken_16 : decode cX8_taken 16 = .ok (.getfield 52, 3) := by decide +kernel
theorem dX8_taken_19 : decode cX8_taken 19 = .ok (.bipush 7, 2) := by decide +kernel
theorem dX8_taken_21 : decode cX8_taken 21 = .ok (.iload_n 1, 1) := by decide +kernel
theorem dX8_taken_22 : decode cX8_taken 22 = .ok (.imul, 1) := by decide +kernel
theorem dX8_taken_23 : decode cX8_taken 23 = .ok (.iload_n 3, 1) := by decide +kernel
theorem dX8_taken_24 : decode cX8_taken 24 = .ok (.iadd, 1) := by decide +kernel
theorem dX8_taken_25 : decode cX8_taken 25 = .ok (.iaload, 1) := by decide +kernel
theorem dX8_taken_26 : decode cX8_taken 26 = .ok (.iadd, 1) := by decide +kernel
theorem dX8_taken_27 : decode cX8_taken 27 = .ok (.istore_n 2, 1) := by decide +kernel
theorem dX8_taken_28 : decode cX8_taken 28 = .ok (.iinc 3 1, 3) := by decide +kernel
theorem dX8_taken_31 : decode cX8_taken 31 = .ok (.goto (-27), 3) := by decide +kernel
theorem dX8_taken_34 : decode cX8_taken 34 = .ok (.iload_n 2, 1) := by decide +kernel
theorem dX8_taken_35 : decode cX8_taken 35 = .ok (.ireturn, 1) := by decide +kernel
theorem dX8_shared_0 : decode cX8_shared 0 = .ok (.bipush 16, 2) := by decide +kernel
theorem dX8_shared_2 : decode cX8_shared 2 = .ok (.aload_n 0, 1) := by decide +kernel
theorem dX8_shared_3 : decode cX8_shared 3 = .ok (.iload_n 1, 1) := by decide +kernel
theorem dX8_shared_4 : decode cX8_shared 4 = .ok (.invokevirtual 262, 3) := by decide +kernel
theorem dX8_shared_7 : decode cX8_shared 7 = .ok (.isub, 1) := by decide +kernel
theorem dX8_shared_8 : decode cX8_shared 8 = .ok (.ireturn, 1) := by decide +kernel
theorem dX8_firstSlot_0 : decode cX8_firstSlot 0 = .ok (.bipush 16, 2) := by decide +kernel
theorem dX8_firstSlot_2 : decode cX8_firstSlot 2 = .ok (.istore_n 3, 1) := by decide +kernel
theorem dX8_firstSlot_3 : decode cX8_firstSlot 3 = .ok (.iconst 0, 1) := by decide +kernel
theorem dX8_firstSlot_4 : decode cX8_firstSlot 4 = .ok (.istore 4, 2) := by decide +kernel
theorem dX8_firstSlot_6 : decode cX8_firstSlot 6 = .ok (.iload 4, 2) := by decide +kernel
theorem dX8_firstSlot_8 : decode cX8_firstSlot 8 = .ok (.iload_n 2, 1) := by decide +kernel
theorem dX8_firstSlot_9 : decode cX8_firstSlot 9 = .ok (.if_icmp .gt 24, 3) := by decide +kernel
theorem dX8_firstSlot_12 : decode cX8_firstSlot 12 = .ok (.iload_n 3, 1) := by decide +kernel
theorem dX8_firstSlot_13 : decode cX8_firstSlot 13 = .ok (.aload_n 0, 1) := by decide +kernel
theorem dX8_firstSlot_14 : decode cX8_firstSlot 14 = .ok (.getfield 52, 3) := by decide +kernel
theorem dX8_firstSlot_17 : decode cX8_firstSlot 17 = .ok (.bipush 7, 2) := by decide +kernel
theorem dX8_firstSlot_19 : decode cX8_firstSlot 19 = .ok (.iload_n 1, 1) := by decide +kernel
theorem dX8_firstSlot_20 : decode cX8_firstSlot 20 = .ok (.imul, 1) := by decide +kernel
theorem dX8_firstSlot_21 : decode cX8_firstSlot 21 = .ok (.iload 4, 2) := by decide +kernel
theorem dX8_firstSlot_23 : decode cX8_firstSlot 23 = .ok (.iadd, 1) := by decide +kernel
theorem dX8_firstSlot_24 : decode cX8_firstSlot 24 = .ok (.iaload, 1) := by decide +kernel
theorem dX8_firstSlot_25 : decode cX8_firstSlot 25 = .ok (.isub, 1) := by decide +kernel
theorem dX8_firstSlot_26 : decode cX8_firstSlot 26 = .ok (.istore_n 3, 1) := by decide +kernel
theorem dX8_firstSlot_27 : decode cX8_firstSlot 27 = .ok (.iinc 4 1, 3) := by decide +kernel
theorem dX8_firstSlot_30 : decode cX8_firstSlot 30 = .ok (.goto (-24), 3) := by decide +kernel
theorem dX8_firstSlot_33 : decode cX8_firstSlot 33 = .ok (.iload_n 3, 1) := by decide +kernel
theorem dX8_firstSlot_34 : decode cX8_firstSlot 34 = .ok (.ireturn, 1) := by decide +kernel
theorem dX8_ask_0 : decode cX8_ask 0 = .ok (.aload_n 0, 1) := by decide +kernel
theorem dX8_ask_1 : decode cX8_ask 1 = .ok (.iload_n 1, 1) := by decide +kernel
theorem dX8_ask_2 : decode cX8_ask 2 = .ok (.invokevirtual 272, 3) := by decide +kernel
theorem dX8_ask_5 : decode cX8_ask 5 = .ok (.ifCond .eq 15, 3) := by decide +kernel
theorem dX8_ask_8 : decode cX8_ask 8 = .ok (.iload_n 2, 1) := by decide +kernel
theorem dX8_ask_9 : decode cX8_ask 9 = .ok (.i2l, 1) := by decide +kernel
theorem dX8_ask_10 : decode cX8_ask 10 = .ok (.lconst 1, 1) := by decide +kernel
theorem dX8_ask_11 : decode cX8_ask 11 = .ok (.ldc2_w 286, 3) := by decide +kernel
theorem dX8_ask_14 : decode cX8_ask 14 = .ok (.invokestatic 161, 3) := by decide +kernel
theorem dX8_ask_17 : decode cX8_ask 17 = .ok (.ifCond .ne 12, 3) := by decide +kernel
theorem dX8_ask_20 : decode cX8_ask 20 = .ok (.aload_n 0, 1) := by decide +kernel
theorem dX8_ask_21 : decode cX8_ask 21 = .ok (.iconst (-1), 1) := by decide +kernel
theorem dX8_ask_22 : decode cX8_ask 22 = .ok (.bipush 18, 2) := by decide +kernel
theorem dX8_ask_24 : decode cX8_ask 24 = .ok (.iconst 0, 1) := by decide +kernel
theorem dX8_ask_25 : decode cX8_ask 25 = .ok (.invokevirtual 216, 3) := by decide +kernel
theorem dX8_ask_28 : decode cX8_ask 28 = .ok (.ireturn, 1) := by decide +kernel
theorem dX8_ask_29 : decode cX8_ask 29 = .ok (.aload_n 0, 1) := by decide +kernel
theorem dX8_ask_30 : decode cX8_ask 30 = .ok (.getfield 61, 3) := by decide +kernel
theorem dX8_ask_33 : decode cX8_ask 33 = .ok (.iload_n 1, 1) := by decide +kernel
theorem dX8_ask_34 : decode cX8_ask 34 = .ok (.iaload, 1) := by decide +kernel
theorem dX8_ask_35 : decode cX8_ask 35 = .ok (.istore_n 3, 1) := by decide +kernel
theorem dX8_ask_36 : decode cX8_ask 36 = .ok (.iload_n 3, 1) := by decide +kernel
theorem dX8_ask_37 : decode cX8_ask 37 = .ok (.bipush (-4), 2) := by decide +kernel
theorem dX8_ask_39 : decode cX8_ask 39 = .ok (.if_icmp .eq 24, 3) := by decide +kernel
theorem dX8_ask_42 : decode cX8_ask 42 = .ok (.aload_n 0, 1) := by decide +kernel
theorem dX8_ask_43 : decode cX8_ask 43 = .ok (.getfield 43, 3) := by decide +kernel
theorem dX8_ask_46 : decode cX8_ask 46 = .ok (.iload_n 3, 1) := by decide +kernel
theorem dX8_ask_47 : decode cX8_ask 47 = .ok (.iaload, 1) := by decide +kernel
theorem dX8_ask_48 : decode cX8_ask 48 = .ok (.iload_n 1, 1) := by decide +kernel
theorem dX8_ask_49 : decode cX8_ask 49 = .ok (.invokestatic 275, 3) := by decide +kernel
theorem dX8_ask_52 : decode cX8_ask 52 = .ok (.ifCond .eq 11, 3) := by decide +kernel
theorem dX8_ask_55 : decode cX8_ask 55 = .ok (.aload_n 0, 1) := by decide +kernel
theorem dX8_ask_56 : decode cX8_ask 56 = .ok (.iload_n 1, 1) := by decide +kernel
theorem dX8_ask_57 : decode cX8_ask 57 = .ok (.invokevirtual 288, 3) := by decide +kernel
theorem dX8_ask_60 : decode cX8_ask 60 = .ok (.ifCond .eq 13, 3) := by decide +kernel
theorem dX8_ask_63 : decode cX8_ask 63 = .ok (.aload_n 0, 1) := by decide +kernel
theorem dX8_ask_64 : decode cX8_ask 64 = .ok (.bipush (-2), 2) := by decide +kernel
theorem dX8_ask_66 : decode cX8_ask 66 = .ok (.bipush 15, 2) := by decide +kernel
theorem dX8_ask_68 : decode cX8_ask 68 = .ok (.iconst 0, 1) := by decide +kernel
theorem dX8_ask_69 : decode cX8_ask 69 = .ok (.invokevirtual 216, 3) := by decide +kernel
theorem dX8_ask_72 : decode cX8_ask 72 = .ok (.ireturn, 1) := by decide +kernel
theorem dX8_ask_73 : decode cX8_ask 73 = .ok (.aload_n 0, 1) := by decide +kernel
theorem dX8_ask_74 : decode cX8_ask 74 = .ok (.getfield 46, 3) := by decide +kernel
theorem dX8_ask_77 : decode cX8_ask 77 = .ok (.iload_n 3, 1) := by decide +kernel
theorem dX8_ask_78 : decode cX8_ask 78 = .ok (.iaload, 1) := by decide +kernel
theorem dX8_ask_79 : decode cX8_ask 79 = .ok (.bipush 7, 2) := by decide +kernel
theorem dX8_ask_81 : decode cX8_ask 81 = .ok (.if_icmp .ne 13, 3) := by decide +kernel
theorem dX8_ask_84 : decode cX8_ask 84 = .ok (.aload_n 0, 1) := by decide +kernel
theorem dX8_ask_85 : decode cX8_ask 85 = .ok (.bipush (-3), 2) := by decide +kernel
theorem dX8_ask_87 : decode cX8_ask 87 = .ok (.bipush 16, 2) := by decide +kernel
theorem dX8_ask_89 : decode cX8_ask 89 = .ok (.iconst 0, 1) := by decide +kernel
theorem dX8_ask_90 : decode cX8_ask 90 = .ok (.invokevirtual 216, 3) := by decide +kernel
theorem dX8_ask_93 : decode cX8_ask 93 = .ok (.ireturn, 1) := by decide +kernel
theorem dX8_ask_94 : decode cX8_ask 94 = .ok (.aload_n 0, 1) := by decide +kernel
theorem dX8_ask_95 : decode cX8_ask 95 = .ok (.iload_n 3, 1) := by decide +kernel
theorem dX8_ask_96 : decode cX8_ask 96 = .ok (.invokevirtual 291, 3) := by decide +kernel
theorem dX8_ask_99 : decode cX8_ask 99 = .ok (.iload_n 2, 1) := by decide +kernel
theorem dX8_ask_100 : decode cX8_ask 100 = .ok (.isub, 1) := by decide +kernel
theorem dX8_ask_101 : decode cX8_ask 101 = .ok (.istore 4, 2) := by decide +kernel
theorem dX8_ask_103 : decode cX8_ask 103 = .ok (.iload 4, 2) := by decide +kernel
theorem dX8_ask_105 : decode cX8_ask 105 = .ok (.aload_n 0, 1) := by decide +kernel
theorem dX8_ask_106 : decode cX8_ask 106 = .ok (.getfield 231, 3) := by decide +kernel
theorem dX8_ask_109 : decode cX8_ask 109 = .ok (.if_icmp .ge 27, 3) := by decide +kernel
theorem dX8_ask_112 : decode cX8_ask 112 = .ok (.aload_n 0, 1) := by decide +kernel
theorem dX8_ask_113 : decode cX8_ask 113 = .ok (.bipush (-3), 2) := by decide +kernel
theorem dX8_ask_115 : decode cX8_ask 115 = .ok (.bipush 17, 2) := by decide +kernel
theorem dX8_ask_117 : decode cX8_ask 117 = .ok (.iload 4, 2) := by decide +kernel
theorem dX8_ask_119 : decode cX8_ask 119 = .ok (.ifCond .ge 8, 3) := by decide +kernel
theorem dX8_ask_122 : decode cX8_ask 122 = .ok (.bipush 30, 2) := by decide +kernel
theorem dX8_ask_124 : decode cX8_ask 124 = .ok (.goto 8, 3) := by decide +kernel
theorem dX8_ask_127 : decode cX8_ask 127 = .ok (.bipush 30, 2) := by decide +kernel
theorem dX8_ask_129 : decode cX8_ask 129 = .ok (.iload 4, 2) := by decide +kernel
theorem dX8_ask_131 : decode cX8_ask 131 = .ok (.iadd, 1) := by decide +kernel
theorem dX8_ask_132 : decode cX8_ask 132 = .ok (.invokevirtual 216, 3) := by decide +kernel
theorem dX8_ask_135 : decode cX8_ask 135 = .ok (.ireturn, 1) := by decide +kernel
theorem dX8_ask_136 : decode cX8_ask 136 = .ok (.aload_n 0, 1) := by decide +kernel
theorem dX8_ask_137 : decode cX8_ask 137 = .ok (.iconst 0, 1) := by decide +kernel
theorem dX8_ask_138 : decode cX8_ask 138 = .ok (.putfield 148, 3) := by decide +kernel
theorem dX8_ask_141 : decode cX8_ask 141 = .ok (.bipush 7, 2) := by decide +kernel
theorem dX8_ask_143 : decode cX8_ask 143 = .ok (.iload_n 3, 1) := by decide +kernel
theorem dX8_ask_144 : decode cX8_ask 144 = .ok (.imul, 1) := by decide +kernel
theorem dX8_ask_145 : decode cX8_ask 145 = .ok (.aload_n 0, 1) := by decide +kernel
theorem dX8_ask_146 : decode cX8_ask 146 = .ok (.getfield 46, 3) := by decide +kernel
theorem dX8_ask_149 : decode cX8_ask 149 = .ok (.iload_n 3, 1) := by decide +kernel
theorem dX8_ask_150 : decode cX8_ask 150 = .ok (.iaload, 1) := by decide +kernel
theorem dX8_ask_151 : decode cX8_ask 151 = .ok (.iadd, 1) := by decide +kernel
theorem dX8_ask_152 : decode cX8_ask 152 = .ok (.istore 5, 2) := by decide +kernel
theorem dX8_ask_154 : decode cX8_ask 154 = .ok (.aload_n 0, 1) := by decide +kernel
theorem dX8_ask_155 : decode cX8_ask 155 = .ok (.getfield 49, 3) := by decide +kernel
theorem dX8_ask_158 : decode cX8_ask 158 = .ok (.iload 5, 2) := by decide +kernel
theorem dX8_ask_160 : decode cX8_ask 160 = .ok (.iload_n 1, 1) := by decide +kernel
theorem dX8_ask_161 : decode cX8_ask 161 = .ok (.iastore, 1) := by decide +kernel
theorem dX8_ask_162 : decode cX8_ask 162 = .ok (.aload_n 0, 1) := by decide +kernel
theorem dX8_ask_163 : decode cX8_ask 163 = .ok (.getfield 52, 3) := by decide +kernel
theorem dX8_ask_166 : decode cX8_ask 166 = .ok (.iload 5, 2) := by decide +kernel
theorem dX8_ask_168 : decode cX8_ask 168 = .ok (.iload_n 2, 1) := by decide +kernel
theorem dX8_ask_169 : decode cX8_ask 169 = .ok (.iastore, 1) := by decide +kernel
theorem dX8_ask_170 : decode cX8_ask 170 = .ok (.aload_n 0, 1) := by decide +kernel
theorem dX8_ask_171 : decode cX8_ask 171 = .ok (.getfield 55, 3) := by decide +kernel
theorem dX8_ask_174 : decode cX8_ask 174 = .ok (.iload 5, 2) := by decide +kernel
theorem dX8_ask_176 : decode cX8_ask 176 = .ok (.iconst 0, 1) := by decide +kernel
theorem dX8_ask_177 : decode cX8_ask 177 = .ok (.iastore, 1) := by decide +kernel
theorem dX8_ask_178 : decode cX8_ask 178 = .ok (.aload_n 0, 1) := by decide +kernel
theorem dX8_ask_179 : decode cX8_ask 179 = .ok (.getfield 46, 3) := by decide +kernel
theorem dX8_ask_182 : decode cX8_ask 182 = .ok (.iload_n 3, 1) := by decide +kernel
theorem dX8_ask_183 : decode cX8_ask 183 = .ok (.dup2, 1) := by decide +kernel
theorem dX8_ask_184 : decode cX8_ask 184 = .ok (.iaload, 1) := by decide +kernel
theorem dX8_ask_185 : decode cX8_ask 185 = .ok (.iconst 1, 1) := by decide +kernel
theorem dX8_ask_186 : decode cX8_ask 186 = .ok (.iadd, 1) := by decide +kernel
theorem dX8_ask_187 : decode cX8_ask 187 = .ok (.iastore, 1) := by decide +kernel
theorem dX8_ask_188 : decode cX8_ask 188 = .ok (.aload_n 0, 1) := by decide +kernel
theorem dX8_ask_189 : decode cX8_ask 189 = .ok (.iload_n 3, 1) := by decide +kernel
theorem dX8_ask_190 : decode cX8_ask 190 = .ok (.aload_n 0, 1) := by decide +kernel
theorem dX8_ask_191 : decode cX8_ask 191 = .ok (.getfield 46, 3) := by decide +kernel
theorem dX8_ask_194 : decode cX8_ask 194 = .ok (.iload_n 3, 1) := by decide +kernel
theorem dX8_ask_195 : decode cX8_ask 195 = .ok (.iaload, 1) := by decide +kernel
theorem dX8_ask_196 : decode cX8_ask 196 = .ok (.iconst 1, 1) := by decide +kernel
theorem dX8_ask_197 : decode cX8_ask 197 = .ok (.isub, 1) := by decide +kernel
theorem dX8_ask_198 : decode cX8_ask 198 = .ok (.invokevirtual 294, 3) := by decide +kernel
theorem dX8_ask_201 : decode cX8_ask 201 = .ok (.ireturn, 1) := by decide +kernel
theorem dX8_release_0 : decode cX8_release 0 = .ok (.aload_n 0, 1) := by decide +kernel
theorem dX8_release_1 : decode cX8_release 1 = .ok (.iload_n 1, 1) := by decide +kernel
theorem dX8_release_2 : decode cX8_release 2 = .ok (.invokevirtual 272, 3) := by decide +kernel
theorem dX8_release_5 : decode cX8_release 5 = .ok (.ifCond .ne 5, 3) := by decide +kernel
theorem dX8_release_8 : decode cX8_release 8 = .ok (.iconst (-1), 1) := by decide +kernel
theorem dX8_release_9 : decode cX8_release 9 = .ok (.ireturn, 1) := by decide +kernel
theorem dX8_release_10 : decode cX8_release 10 = .ok (.aload_n 0, 1) := by decide +kernel
theorem dX8_release_11 : decode cX8_release 11 = .ok (.iload_n 1, 1) := by decide +kernel
theorem dX8_release_12 : decode cX8_release 12 = .ok (.bipush (-4), 2) := by decide +kernel
theorem dX8_release_14 : decode cX8_release 14 = .ok (.invokevirtual 279, 3) := by decide +kernel
theorem dX8_release_17 : decode cX8_release 17 = .ok (.istore_n 2, 1) := by decide +kernel
theorem dX8_release_18 : decode cX8_release 18 = .ok (.iload_n 2, 1) := by decide +kernel
theorem dX8_release_19 : decode cX8_release 19 = .ok (.bipush (-4), 2) := by decide +kernel
theorem dX8_release_21 : decode cX8_release 21 = .ok (.if_icmp .ne 8, 3) := by decide +kernel
theorem dX8_release_24 : decode cX8_release 24 = .ok (.bipush (-2), 2) := by decide +kernel
theorem dX8_release_26 : decode cX8_release 26 = .ok (.goto 4, 3) := by decide +kernel
theorem dX8_release_29 : decode cX8_release 29 = .ok (.iload_n 2, 1) := by decide +kernel
theorem dX8_release_30 : decode cX8_release 30 = .ok (.ireturn, 1) := by decide +kernel
theorem dX8_promise_0 : decode cX8_promise 0 = .ok (.aload_n 0, 1) := by decide +kernel
theorem dX8_promise_1 : decode cX8_promise 1 = .ok (.iload_n 1, 1) := by decide +kernel
theorem dX8_promise_2 : decode cX8_promise 2 = .ok (.invokevirtual 256, 3) := by decide +kernel
theorem dX8_promise_5 : decode cX8_promise 5 = .ok (.ifCond .eq 20, 3) := by decide +kernel
theorem dX8_promise_8 : decode cX8_promise 8 = .ok (.iload_n 2, 1) := by decide +kernel
theorem dX8_promise_9 : decode cX8_promise 9 = .ok (.iconst (-1), 1) := by decide +kernel
theorem dX8_promise_10 : decode cX8_promise 10 = .ok (.if_icmp .lt 15, 3) := by decide +kernel
theorem dX8_promise_13 : decode cX8_promise 13 = .ok (.iload_n 3, 1) := by decide +kernel
theorem dX8_promise_14 : decode cX8_promise 14 = .ok (.i2l, 1) := by decide +kernel
theorem dX8_promise_15 : decode cX8_promise 15 = .ok (.lconst 0, 1) := by decide +kernel
theorem dX8_promise_16 : decode cX8_promise 16 = .ok (.ldc2_w 297, 3) := by decide +kernel
theorem dX8_promise_19 : decode cX8_promise 19 = .ok (.invokestatic 161, 3) := by decide +kernel
theorem dX8_promise_22 : decode cX8_promise 22 = .ok (.ifCond .ne 5, 3) := by decide +kernel
theorem dX8_promise_25 : decode cX8_promise 25 = .ok (.iconst (-1), 1) := by decide +kernel
theorem dX8_promise_26 : decode cX8_promise 26 = .ok (.ireturn, 1) := by decide +kernel
theorem dX8_promise_27 : decode cX8_promise 27 = .ok (.iload_n 2, 1) := by decide +kernel
theorem dX8_promise_28 : decode cX8_promise 28 = .ok (.ifCond .lt 13, 3) := by decide +kernel
theorem dX8_promise_31 : decode cX8_promise 31 = .ok (.iload_n 2, 1) := by decide +kernel
theorem dX8_promise_32 : decode cX8_promise 32 = .ok (.aload_n 0, 1) := by decide +kernel
theorem dX8_promise_33 : decode cX8_promise 33 = .ok (.getfield 46, 3) := by decide +kernel
theorem dX8_promise_36 : decode cX8_promise 36 = .ok (.iload_n 1, 1) := by decide +kernel
theorem dX8_promise_37 : decode cX8_promise 37 = .ok (.iaload, 1) := by decide +kernel
theorem dX8_promise_38 : decode cX8_promise 38 = .ok (.if_icmp .lt 19, 3) := by decide +kernel
theorem dX8_promise_41 : decode cX8_promise 41 = .ok (.iload_n 2, 1) := by decide +kernel
theorem dX8_promise_42 : decode cX8_promise 42 = .ok (.ifCond .ge 12, 3) := by decide +kernel
theorem dX8_promise_45 : decode cX8_promise 45 = .ok (.aload_n 0, 1) := by decide +kernel
theorem dX8_promise_46 : decode cX8_promise 46 = .ok (.getfield 46, 3) := by decide +kernel
theorem dX8_promise_49 : decode cX8_promise 49 = .ok (.iload_n 1, 1) := by decide +kernel
theorem dX8_promise_50 : decode cX8_promise 50 = .ok (.iaload, 1) := by decide +kernel
theorem dX8_promise_51 : decode cX8_promise 51 = .ok (.goto 5, 3) := by decide +kernel
theorem dX8_promise_54 : decode cX8_promise 54 = .ok (.bipush (-4), 2) := by decide +kernel
theorem dX8_promise_56 : decode cX8_promise 56 = .ok (.ireturn, 1) := by decide +kernel
theorem dX8_promise_57 : decode cX8_promise 57 = .ok (.iload_n 3, 1) := by decide +kernel
theorem dX8_promise_58 : decode cX8_promise 58 = .ok (.ifCond .ne 17, 3) := by decide +kernel
theorem dX8_promise_61 : decode cX8_promise 61 = .ok (.aload_n 0, 1) := by decide +kernel
theorem dX8_promise_62 : decode cX8_promise 62 = .ok (.getfield 49, 3) := by decide +kernel
theorem dX8_promise_65 : decode cX8_promise 65 = .ok (.bipush 7, 2) := by decide +kernel
theorem dX8_promise_67 : decode cX8_promise 67 = .ok (.iload_n 1, 1) := by decide +kernel
theorem dX8_promise_68 : decode cX8_promise 68 = .ok (.imul, 1) := by decide +kernel
theorem dX8_promise_69 : decode cX8_promise 69 = .ok (.iload_n 2, 1) := by decide +kernel
theorem dX8_promise_70 : decode cX8_promise 70 = .ok (.iadd, 1) := by decide +kernel
theorem dX8_promise_71 : decode cX8_promise 71 = .ok (.iaload, 1) := by decide +kernel
theorem dX8_promise_72 : decode cX8_promise 72 = .ok (.goto 47, 3) := by decide +kernel
theorem dX8_promise_75 : decode cX8_promise 75 = .ok (.iload_n 3, 1) := by decide +kernel
theorem dX8_promise_76 : decode cX8_promise 76 = .ok (.iconst 1, 1) := by decide +kernel
theorem dX8_promise_77 : decode cX8_promise 77 = .ok (.if_icmp .ne 12, 3) := by decide +kernel
theorem dX8_promise_80 : decode cX8_promise 80 = .ok (.aload_n 0, 1) := by decide +kernel
theorem dX8_promise_81 : decode cX8_promise 81 = .ok (.iload_n 1, 1) := by decide +kernel
theorem dX8_promise_82 : decode cX8_promise 82 = .ok (.iload_n 2, 1) := by decide +kernel
theorem dX8_promise_83 : decode cX8_promise 83 = .ok (.invokevirtual 294, 3) := by decide +kernel
theorem dX8_promise_86 : decode cX8_promise 86 = .ok (.goto 33, 3) := by decide +kernel
theorem dX8_promise_89 : decode cX8_promise 89 = .ok (.iload_n 3, 1) := by decide +kernel
theorem dX8_promise_90 : decode cX8_promise 90 = .ok (.iconst 2, 1) := by decide +kernel
theorem dX8_promise_91 : decode cX8_promise 91 = .ok (.if_icmp .ne 17, 3) := by decide +kernel
theorem dX8_promise_94 : decode cX8_promise 94 = .ok (.aload_n 0, 1) := by decide +kernel
theorem dX8_promise_95 : decode cX8_promise 95 = .ok (.getfield 52, 3) := by decide +kernel
theorem dX8_promise_98 : decode cX8_promise 98 = .ok (.bipush 7, 2) := by decide +kernel
theorem dX8_promise_100 : decode cX8_promise 100 = .ok (.iload_n 1, 1) := by decide +kernel
theorem dX8_promise_101 : decode cX8_promise 101 = .ok (.imul, 1) := by decide +kernel
theorem dX8_promise_102 : decode cX8_promise 102 = .ok (.iload_n 2, 1) := by decide +kernel
theorem dX8_promise_103 : decode cX8_promise 103 = .ok (.iadd, 1) := by decide +kernel
theorem dX8_promise_104 : decode cX8_promise 104 = .ok (.iaload, 1) := by decide +kernel
theorem dX8_promise_105 : decode cX8_promise 105 = .ok (.goto 14, 3) := by decide +kernel
theorem dX8_promise_108 : decode cX8_promise 108 = .ok (.aload_n 0, 1) := by decide +kernel
theorem dX8_promise_109 : decode cX8_promise 109 = .ok (.getfield 55, 3) := by decide +kernel
theorem dX8_promise_112 : decode cX8_promise 112 = .ok (.bipush 7, 2) := by decide +kernel
theorem dX8_promise_114 : decode cX8_promise 114 = .ok (.iload_n 1, 1) := by decide +kernel
theorem dX8_promise_115 : decode cX8_promise 115 = .ok (.imul, 1) := by decide +kernel
theorem dX8_promise_116 : decode cX8_promise 116 = .ok (.iload_n 2, 1) := by decide +kernel
theorem dX8_promise_117 : decode cX8_promise 117 = .ok (.iadd, 1) := by decide +kernel
theorem dX8_promise_118 : decode cX8_promise 118 = .ok (.iaload, 1) := by decide +kernel
theorem dX8_promise_119 : decode cX8_promise 119 = .ok (.ireturn, 1) := by decide +kernel
theorem dX8_beacon_0 : decode cX8_beacon 0 = .ok (.aload_n 0, 1) := by decide +kernel
theorem dX8_beacon_1 : decode cX8_beacon 1 = .ok (.getfield 46, 3) := by decide +kernel
theorem dX8_beacon_4 : decode cX8_beacon 4 = .ok (.iload_n 1, 1) := by decide +kernel
theorem dX8_beacon_5 : decode cX8_beacon 5 = .ok (.iaload, 1) := by decide +kernel
theorem dX8_beacon_6 : decode cX8_beacon 6 = .ok (.iconst 1, 1) := by decide +kernel
theorem dX8_beacon_7 : decode cX8_beacon 7 = .ok (.isub, 1) := by decide +kernel
theorem dX8_beacon_8 : decode cX8_beacon 8 = .ok (.istore_n 2, 1) := by decide +kernel
theorem dX8_beacon_9 : decode cX8_beacon 9 = .ok (.iload_n 2, 1) := by decide +kernel
theorem dX8_beacon_10 : decode cX8_beacon 10 = .ok (.ifCond .lt 33, 3) := by decide +kernel
theorem dX8_beacon_13 : decode cX8_beacon 13 = .ok (.aload_n 0, 1) := by decide +kernel
theorem dX8_beacon_14 : decode cX8_beacon 14 = .ok (.getfield 55, 3) := by decide +kernel
theorem dX8_beacon_17 : decode cX8_beacon 17 = .ok (.bipush 7, 2) := by decide +kernel
theorem dX8_beacon_19 : decode cX8_beacon 19 = .ok (.iload_n 1, 1) := by decide +kernel
theorem dX8_beacon_20 : decode cX8_beacon 20 = .ok (.imul, 1) := by decide +kernel
theorem dX8_beacon_21 : decode cX8_beacon 21 = .ok (.iload_n 2, 1) := by decide +kernel
theorem dX8_beacon_22 : decode cX8_beacon 22 = .ok (.iadd, 1) := by decide +kernel
theorem dX8_beacon_23 : decode cX8_beacon 23 = .ok (.iaload, 1) := by decide +kernel
theorem dX8_beacon_24 : decode cX8_beacon 24 = .ok (.aload_n 0, 1) := by decide +kernel
theorem dX8_beacon_25 : decode cX8_beacon 25 = .ok (.getfield 234, 3) := by decide +kernel
theorem dX8_beacon_28 : decode cX8_beacon 28 = .ok (.if_icmp .lt 9, 3) := by decide +kernel
theorem dX8_beacon_31 : decode cX8_beacon 31 = .ok (.aload_n 0, 1) := by decide +kernel
theorem dX8_beacon_32 : decode cX8_beacon 32 = .ok (.iload_n 1, 1) := by decide +kernel
theorem dX8_beacon_33 : decode cX8_beacon 33 = .ok (.iload_n 2, 1) := by decide +kernel
theorem dX8_beacon_34 : decode cX8_beacon 34 = .ok (.invokevirtual 269, 3) := by decide +kernel
theorem dX8_beacon_37 : decode cX8_beacon 37 = .ok (.iinc 2 (-1), 3) := by decide +kernel
theorem dX8_beacon_40 : decode cX8_beacon 40 = .ok (.goto (-31), 3) := by decide +kernel
theorem dX8_beacon_43 : decode cX8_beacon 43 = .ok (.iconst 0, 1) := by decide +kernel
theorem dX8_beacon_44 : decode cX8_beacon 44 = .ok (.istore_n 2, 1) := by decide +kernel
theorem dX8_beacon_45 : decode cX8_beacon 45 = .ok (.iload_n 2, 1) := by decide +kernel
theorem dX8_beacon_46 : decode cX8_beacon 46 = .ok (.aload_n 0, 1) := by decide +kernel
theorem dX8_beacon_47 : decode cX8_beacon 47 = .ok (.getfield 219, 3) := by decide +kernel
theorem dX8_beacon_50 : decode cX8_beacon 50 = .ok (.if_icmp .ge 125, 3) := by decide +kernel
theorem dX8_beacon_53 : decode cX8_beacon 53 = .ok (.aload_n 0, 1) := by decide +kernel
theorem dX8_beacon_54 : decode cX8_beacon 54 = .ok (.getfield 103, 3) := by decide +kernel
theorem dX8_beacon_57 : decode cX8_beacon 57 = .ok (.iload_n 2, 1) := by decide +kernel
theorem dX8_beacon_58 : decode cX8_beacon 58 = .ok (.aload_n 0, 1) := by decide +kernel
theorem dX8_beacon_59 : decode cX8_beacon 59 = .ok (.getfield 61, 3) := by decide +kernel
theorem dX8_beacon_62 : decode cX8_beacon 62 = .ok (.iload_n 2, 1) := by decide +kernel
theorem dX8_beacon_63 : decode cX8_beacon 63 = .ok (.iaload, 1) := by decide +kernel
theorem dX8_beacon_64 : decode cX8_beacon 64 = .ok (.iload_n 1, 1) := by decide +kernel
theorem dX8_beacon_65 : decode cX8_beacon 65 = .ok (.if_icmp .ne 16, 3) := by decide +kernel
theorem dX8_beacon_68 : decode cX8_beacon 68 = .ok (.aload_n 0, 1) := by decide +kernel
theorem dX8_beacon_69 : decode cX8_beacon 69 = .ok (.getfield 85, 3) := by decide +kernel
theorem dX8_beacon_72 : decode cX8_beacon 72 = .ok (.iload_n 2, 1) := by decide +kernel
theorem dX8_beacon_73 : decode cX8_beacon 73 = .ok (.iaload, 1) := by decide +kernel
theorem dX8_beacon_74 : decode cX8_beacon 74 = .ok (.ifCond .ne 7, 3) := by decide +kernel
theorem dX8_beacon_77 : decode cX8_beacon 77 = .ok (.iconst 1, 1) := by decide +kernel
theorem dX8_beacon_78 : decode cX8_beacon 78 = .ok (.goto 4, 3) := by decide +kernel
theorem dX8_beacon_81 : decode cX8_beacon 81 = .ok (.iconst 0, 1) := by decide +kernel
theorem dX8_beacon_82 : decode cX8_beacon 82 = .ok (.iastore, 1) := by decide +kernel
theorem dX8_beacon_83 : decode cX8_beacon 83 = .ok (.aload_n 0, 1) := by decide +kernel
theorem dX8_beacon_84 : decode cX8_beacon 84 = .ok (.getfield 61, 3) := by decide +kernel
theorem dX8_beacon_87 : decode cX8_beacon 87 = .ok (.iload_n 2, 1) := by decide +kernel
theorem dX8_beacon_88 : decode cX8_beacon 88 = .ok (.iaload, 1) := by decide +kernel
theorem dX8_beacon_89 : decode cX8_beacon 89 = .ok (.iload_n 1, 1) := by decide +kernel
theorem dX8_beacon_90 : decode cX8_beacon 90 = .ok (.if_icmp .ne 62, 3) := by decide +kernel
theorem dX8_beacon_93 : decode cX8_beacon 93 = .ok (.aload_n 0, 1) := by decide +kernel
theorem dX8_beacon_94 : decode cX8_beacon 94 = .ok (.getfield 85, 3) := by decide +kernel
theorem dX8_beacon_97 : decode cX8_beacon 97 = .ok (.iload_n 2, 1) := by decide +kernel
theorem dX8_beacon_98 : decode cX8_beacon 98 = .ok (.iaload, 1) := by decide +kernel
theorem dX8_beacon_99 : decode cX8_beacon 99 = .ok (.ifCond .le 53, 3) := by decide +kernel
theorem dX8_beacon_102 : decode cX8_beacon 102 = .ok (.aload_n 0, 1) := by decide +kernel
theorem dX8_beacon_103 : decode cX8_beacon 103 = .ok (.getfield 85, 3) := by decide +kernel
theorem dX8_beacon_106 : decode cX8_beacon 106 = .ok (.iload_n 2, 1) := by decide +kernel
theorem dX8_beacon_107 : decode cX8_beacon 107 = .ok (.dup2, 1) := by decide +kernel
theorem dX8_beacon_108 : decode cX8_beacon 108 = .ok (.iaload, 1) := by decide +kernel
theorem dX8_beacon_109 : decode cX8_beacon 109 = .ok (.iconst 1, 1) := by decide +kernel
theorem dX8_beacon_110 : decode cX8_beacon 110 = .ok (.isub, 1) := by decide +kernel
theorem dX8_beacon_111 : decode cX8_beacon 111 = .ok (.iastore, 1) := by decide +kernel
theorem dX8_beacon_112 : decode cX8_beacon 112 = .ok (.aload_n 0, 1) := by decide +kernel
theorem dX8_beacon_113 : decode cX8_beacon 113 = .ok (.getfield 82, 3) := by decide +kernel
theorem dX8_beacon_116 : decode cX8_beacon 116 = .ok (.iload_n 2, 1) := by decide +kernel
theorem dX8_beacon_117 : decode cX8_beacon 117 = .ok (.dup2, 1) := by decide +kernel
theorem dX8_beacon_118 : decode cX8_beacon 118 = .ok (.iaload, 1) := by decide +kernel
theorem dX8_beacon_119 : decode cX8_beacon 119 = .ok (.iconst 1, 1) := by decide +kernel
theorem dX8_beacon_120 : decode cX8_beacon 120 = .ok (.iadd, 1) := by decide +kernel
theorem dX8_beacon_121 : decode cX8_beacon 121 = .ok (.iastore, 1) := by decide +kernel
theorem dX8_beacon_122 : decode cX8_beacon 122 = .ok (.aload_n 0, 1) := by decide +kernel
theorem dX8_beacon_123 : decode cX8_beacon 123 = .ok (.getfield 61, 3) := by decide +kernel
theorem dX8_beacon_126 : decode cX8_beacon 126 = .ok (.iload_n 2, 1) := by decide +kernel
theorem dX8_beacon_127 : decode cX8_beacon 127 = .ok (.aload_n 0, 1) := by decide +kernel
theorem dX8_beacon_128 : decode cX8_beacon 128 = .ok (.getfield 82, 3) := by decide +kernel
theorem dX8_beacon_131 : decode cX8_beacon 131 = .ok (.iload_n 2, 1) := by decide +kernel
theorem dX8_beacon_132 : decode cX8_beacon 132 = .ok (.iaload, 1) := by decide +kernel
theorem dX8_beacon_133 : decode cX8_beacon 133 = .ok (.iconst 4, 1) := by decide +kernel
theorem dX8_beacon_134 : decode cX8_beacon 134 = .ok (.if_icmp .ne 8, 3) := by decide +kernel
theorem dX8_beacon_137 : decode cX8_beacon 137 = .ok (.bipush (-4), 2) := by decide +kernel
theorem dX8_beacon_139 : decode cX8_beacon 139 = .ok (.goto 9, 3) := by decide +kernel
theorem dX8_beacon_142 : decode cX8_beacon 142 = .ok (.aload_n 0, 1) := by decide +kernel
theorem dX8_beacon_143 : decode cX8_beacon 143 = .ok (.getfield 61, 3) := by decide +kernel
theorem dX8_beacon_146 : decode cX8_beacon 146 = .ok (.iload_n 2, 1) := by decide +kernel
theorem dX8_beacon_147 : decode cX8_beacon 147 = .ok (.iaload, 1) := by decide +kernel
theorem dX8_beacon_148 : decode cX8_beacon 148 = .ok (.iastore, 1) := by decide +kernel
theorem dX8_beacon_149 : decode cX8_beacon 149 = .ok (.goto 20, 3) := by decide +kernel
theorem dX8_beacon_152 : decode cX8_beacon 152 = .ok (.aload_n 0, 1) := by decide +kernel
theorem dX8_beacon_153 : decode cX8_beacon 153 = .ok (.getfield 61, 3) := by decide +kernel
theorem dX8_beacon_156 : decode cX8_beacon 156 = .ok (.iload_n 2, 1) := by decide +kernel
theorem dX8_beacon_157 : decode cX8_beacon 157 = .ok (.iaload, 1) := by decide +kernel
theorem dX8_beacon_158 : decode cX8_beacon 158 = .ok (.iload_n 1, 1) := by decide +kernel
theorem dX8_beacon_159 : decode cX8_beacon 159 = .ok (.if_icmp .ne 10, 3) := by decide +kernel
theorem dX8_beacon_162 : decode cX8_beacon 162 = .ok (.aload_n 0, 1) := by decide +kernel
theorem dX8_beacon_163 : decode cX8_beacon 163 = .ok (.getfield 82, 3) := by decide +kernel
theorem dX8_beacon_166 : decode cX8_beacon 166 = .ok (.iload_n 2, 1) := by decide +kernel
theorem dX8_beacon_167 : decode cX8_beacon 167 = .ok (.iconst 0, 1) := by decide +kernel
theorem dX8_beacon_168 : decode cX8_beacon 168 = .ok (.iastore, 1) := by decide +kernel
theorem dX8_beacon_169 : decode cX8_beacon 169 = .ok (.iinc 2 1, 3) := by decide +kernel
theorem dX8_beacon_172 : decode cX8_beacon 172 = .ok (.goto (-127), 3) := by decide +kernel
theorem dX8_beacon_175 : decode cX8_beacon 175 = .ok (.return_, 1) := by decide +kernel
theorem dX8_draws_0 : decode cX8_draws 0 = .ok (.aload_n 0, 1) := by decide +kernel
theorem dX8_draws_1 : decode cX8_draws 1 = .ok (.sipush 7919, 3) := by decide +kernel
theorem dX8_draws_4 : decode cX8_draws 4 = .ok (.aload_n 0, 1) := by decide +kernel
theorem dX8_draws_5 : decode cX8_draws 5 = .ok (.getfield 240, 3) := by decide +kernel
theorem dX8_draws_8 : decode cX8_draws 8 = .ok (.imul, 1) := by decide +kernel
theorem dX8_draws_9 : decode cX8_draws 9 = .ok (.sipush 12345, 3) := by decide +kernel
theorem dX8_draws_12 : decode cX8_draws 12 = .ok (.iadd, 1) := by decide +kernel
theorem dX8_draws_13 : decode cX8_draws 13 = .ok (.ldc_w 299, 3) := by decide +kernel
theorem dX8_draws_16 : decode cX8_draws 16 = .ok (.irem, 1) := by decide +kernel
theorem dX8_draws_17 : decode cX8_draws 17 = .ok (.putfield 240, 3) := by decide +kernel
theorem dX8_draws_20 : decode cX8_draws 20 = .ok (.aload_n 0, 1) := by decide +kernel
theorem dX8_draws_21 : decode cX8_draws 21 = .ok (.getfield 106, 3) := by decide +kernel
theorem dX8_draws_24 : decode cX8_draws 24 = .ok (.iload_n 1, 1) := by decide +kernel
theorem dX8_draws_25 : decode cX8_draws 25 = .ok (.aload_n 0, 1) := by decide +kernel
theorem dX8_draws_26 : decode cX8_draws 26 = .ok (.getfield 240, 3) := by decide +kernel
theorem dX8_draws_29 : decode cX8_draws 29 = .ok (.iconst 1, 1) := by decide +kernel
theorem dX8_draws_30 : decode cX8_draws 30 = .ok (.aload_n 0, 1) := by decide +kernel
theorem dX8_draws_31 : decode cX8_draws 31 = .ok (.getfield 91, 3) := by decide +kernel
theorem dX8_draws_34 : decode cX8_draws 34 = .ok (.iload_n 1, 1) := by decide +kernel
theorem dX8_draws_35 : decode cX8_draws 35 = .ok (.iaload, 1) := by decide +kernel
theorem dX8_draws_36 : decode cX8_draws 36 = .ok (.ishl, 1) := by decide +kernel
theorem dX8_draws_37 : decode cX8_draws 37 = .ok (.irem, 1) := by decide +kernel
theorem dX8_draws_38 : decode cX8_draws 38 = .ok (.iastore, 1) := by decide +kernel
theorem dX8_draws_39 : decode cX8_draws 39 = .ok (.aload_n 0, 1) := by decide +kernel
theorem dX8_draws_40 : decode cX8_draws 40 = .ok (.getfield 88, 3) := by decide +kernel
theorem dX8_draws_43 : decode cX8_draws 43 = .ok (.iload_n 1, 1) := by decide +kernel
theorem dX8_draws_44 : decode cX8_draws 44 = .ok (.iconst 1, 1) := by decide +kernel
theorem dX8_draws_45 : decode cX8_draws 45 = .ok (.iastore, 1) := by decide +kernel
theorem dX8_draws_46 : decode cX8_draws 46 = .ok (.return_, 1) := by decide +kernel
theorem dX8_begins_0 : decode cX8_begins 0 = .ok (.aload_n 0, 1) := by decide +kernel
theorem dX8_begins_1 : decode cX8_begins 1 = .ok (.getfield 94, 3) := by decide +kernel
theorem dX8_begins_4 : decode cX8_begins 4 = .ok (.iload_n 1, 1) := by decide +kernel
theorem dX8_begins_5 : decode cX8_begins 5 = .ok (.iconst 0, 1) := by decide +kernel
theorem dX8_begins_6 : decode cX8_begins 6 = .ok (.iastore, 1) := by decide +kernel
theorem dX8_begins_7 : decode cX8_begins 7 = .ok (.aload_n 0, 1) := by decide +kernel
theorem dX8_begins_8 : decode cX8_begins 8 = .ok (.getfield 91, 3) := by decide +kernel
theorem dX8_begins_11 : decode cX8_begins 11 = .ok (.iload_n 1, 1) := by decide +kernel
theorem dX8_begins_12 : decode cX8_begins 12 = .ok (.aload_n 0, 1) := by decide +kernel
theorem dX8_begins_13 : decode cX8_begins 13 = .ok (.getfield 67, 3) := by decide +kernel
theorem dX8_begins_16 : decode cX8_begins 16 = .ok (.iload_n 1, 1) := by decide +kernel
theorem dX8_begins_17 : decode cX8_begins 17 = .ok (.iaload, 1) := by decide +kernel
theorem dX8_begins_18 : decode cX8_begins 18 = .ok (.iastore, 1) := by decide +kernel
theorem dX8_begins_19 : decode cX8_begins 19 = .ok (.aload_n 0, 1) := by decide +kernel
theorem dX8_begins_20 : decode cX8_begins 20 = .ok (.iload_n 1, 1) := by decide +kernel
theorem dX8_begins_21 : decode cX8_begins 21 = .ok (.invokevirtual 300, 3) := by decide +kernel
theorem dX8_begins_24 : decode cX8_begins 24 = .ok (.return_, 1) := by decide +kernel
theorem dX8_stepA_0 : decode cX8_stepA 0 = .ok (.iconst 0, 1) := by decide +kernel
theorem dX8_stepA_1 : decode cX8_stepA 1 = .ok (.istore_n 2, 1) := by decide +kernel
theorem dX8_stepA_2 : decode cX8_stepA 2 = .ok (.iload_n 2, 1) := by decide +kernel
theorem dX8_stepA_3 : decode cX8_stepA 3 = .ok (.aload_n 0, 1) := by decide +kernel
theorem dX8_stepA_4 : decode cX8_stepA 4 = .ok (.getfield 219, 3) := by decide +kernel
theorem dX8_stepA_7 : decode cX8_stepA 7 = .ok (.if_icmp .ge 75, 3) := by decide +kernel
theorem dX8_stepA_10 : decode cX8_stepA 10 = .ok (.aload_n 0, 1) := by decide +kernel
theorem dX8_stepA_11 : decode cX8_stepA 11 = .ok (.getfield 103, 3) := by decide +kernel
theorem dX8_stepA_14 : decode cX8_stepA 14 = .ok (.iload_n 2, 1) := by decide +kernel
theorem dX8_stepA_15 : decode cX8_stepA 15 = .ok (.iaload, 1) := by decide +kernel
theorem dX8_stepA_16 : decode cX8_stepA 16 = .ok (.iconst 1, 1) := by decide +kernel
theorem dX8_stepA_17 : decode cX8_stepA 17 = .ok (.if_icmp .ne 29, 3) := by decide +kernel
theorem dX8_stepA_20 : decode cX8_stepA 20 = .ok (.aload_n 0, 1) := by decide +kernel
theorem dX8_stepA_21 : decode cX8_stepA 21 = .ok (.getfield 88, 3) := by decide +kernel
theorem dX8_stepA_24 : decode cX8_stepA 24 = .ok (.iload_n 2, 1) := by decide +kernel
theorem dX8_stepA_25 : decode cX8_stepA 25 = .ok (.iaload, 1) := by decide +kernel
theorem dX8_stepA_26 : decode cX8_stepA 26 = .ok (.ifCond .ne 20, 3) := by decide +kernel
theorem dX8_stepA_29 : decode cX8_stepA 29 = .ok (.aload_n 0, 1) := by decide +kernel
theorem dX8_stepA_30 : decode cX8_stepA 30 = .ok (.getfield 70, 3) := by decide +kernel
theorem dX8_stepA_33 : decode cX8_stepA 33 = .ok (.iload_n 2, 1) := by decide +kernel
theorem dX8_stepA_34 : decode cX8_stepA 34 = .ok (.iaload, 1) := by decide +kernel
theorem dX8_stepA_35 : decode cX8_stepA 35 = .ok (.ifCond .le 11, 3) := by decide +kernel
theorem dX8_stepA_38 : decode cX8_stepA 38 = .ok (.aload_n 0, 1) := by decide +kernel
theorem dX8_stepA_39 : decode cX8_stepA 39 = .ok (.iload_n 2, 1) := by decide +kernel
theorem dX8_stepA_40 : decode cX8_stepA 40 = .ok (.invokevirtual 303, 3) := by decide +kernel
theorem dX8_stepA_43 : decode cX8_stepA 43 = .ok (.goto 33, 3) := by decide +kernel
theorem dX8_stepA_46 : decode cX8_stepA 46 = .ok (.aload_n 0, 1) := by decide +kernel
theorem dX8_stepA_47 : decode cX8_stepA 47 = .ok (.getfield 103, 3) := by decide +kernel
theorem dX8_stepA_50 : decode cX8_stepA 50 = .ok (.iload_n 2, 1) := by decide +kernel
theorem dX8_stepA_51 : decode cX8_stepA 51 = .ok (.iaload, 1) := by decide +kernel
theorem dX8_stepA_52 : decode cX8_stepA 52 = .ok (.iconst 1, 1) := by decide +kernel
theorem dX8_stepA_53 : decode cX8_stepA 53 = .ok (.if_icmp .ne 23, 3) := by decide +kernel
theorem dX8_stepA_56 : decode cX8_stepA 56 = .ok (.aload_n 0, 1) := by decide +kernel
theorem dX8_stepA_57 : decode cX8_stepA 57 = .ok (.getfield 88, 3) := by decide +kernel
theorem dX8_stepA_60 : decode cX8_stepA 60 = .ok (.iload_n 2, 1) := by decide +kernel
theorem dX8_stepA_61 : decode cX8_stepA 61 = .ok (.iaload, 1) := by decide +kernel
theorem dX8_stepA_62 : decode cX8_stepA 62 = .ok (.iconst 3, 1) := by decide +kernel
theorem dX8_stepA_63 : decode cX8_stepA 63 = .ok (.if_icmp .ne 13, 3) := by decide +kernel
theorem dX8_stepA_66 : decode cX8_stepA 66 = .ok (.iload_n 1, 1) := by decide +kernel
theorem dX8_stepA_67 : decode cX8_stepA 67 = .ok (.iconst 1, 1) := by decide +kernel
theorem dX8_stepA_68 : decode cX8_stepA 68 = .ok (.if_icmp .ne 8, 3) := by decide +kernel
theorem dX8_stepA_71 : decode cX8_stepA 71 = .ok (.aload_n 0, 1) := by decide +kernel
theorem dX8_stepA_72 : decode cX8_stepA 72 = .ok (.iload_n 2, 1) := by decide +kernel
theorem dX8_stepA_73 : decode cX8_stepA 73 = .ok (.invokevirtual 300, 3) := by decide +kernel
theorem dX8_stepA_76 : decode cX8_stepA 76 = .ok (.iinc 2 1, 3) := by decide +kernel
theorem dX8_stepA_79 : decode cX8_stepA 79 = .ok (.goto (-77), 3) := by decide +kernel
theorem dX8_stepA_82 : decode cX8_stepA 82 = .ok (.return_, 1) := by decide +kernel
theorem dX8_stepsBC_0 : decode cX8_stepsBC 0 = .ok (.iconst 0, 1) := by decide +kernel
theorem dX8_stepsBC_1 : decode cX8_stepsBC 1 = .ok (.istore_n 3, 1) := by decide +kernel
theorem dX8_stepsBC_2 : decode cX8_stepsBC 2 = .ok (.iload_n 3, 1) := by decide +kernel
theorem dX8_stepsBC_3 : decode cX8_stepsBC 3 = .ok (.aload_n 0, 1) := by decide +kernel
theorem dX8_stepsBC_4 : decode cX8_stepsBC 4 = .ok (.getfield 219, 3) := by decide +kernel
theorem dX8_stepsBC_7 : decode cX8_stepsBC 7 = .ok (.if_icmp .ge 70, 3) := by decide +kernel
theorem dX8_stepsBC_10 : decode cX8_stepsBC 10 = .ok (.aload_n 0, 1) := by decide +kernel
theorem dX8_stepsBC_11 : decode cX8_stepsBC 11 = .ok (.getfield 103, 3) := by decide +kernel
theorem dX8_stepsBC_14 : decode cX8_stepsBC 14 = .ok (.iload_n 3, 1) := by decide +kernel
theorem dX8_stepsBC_15 : decode cX8_stepsBC 15 = .ok (.iaload, 1) := by decide +kernel
theorem dX8_stepsBC_16 : decode cX8_stepsBC 16 = .ok (.iconst 1, 1) := by decide +kernel
theorem dX8_stepsBC_17 : decode cX8_stepsBC 17 = .ok (.if_icmp .ne 54, 3) := by decide +kernel
theorem dX8_stepsBC_20 : decode cX8_stepsBC 20 = .ok (.aload_n 0, 1) := by decide +kernel
theorem dX8_stepsBC_21 : decode cX8_stepsBC 21 = .ok (.getfield 88, 3) := by decide +kernel
theorem dX8_stepsBC_24 : decode cX8_stepsBC 24 = .ok (.iload_n 3, 1) := by decide +kernel
theorem dX8_stepsBC_25 : decode cX8_stepsBC 25 = .ok (.iaload, 1) := by decide +kernel
theorem dX8_stepsBC_26 : decode cX8_stepsBC 26 = .ok (.iconst 1, 1) := by decide +kernel
theorem dX8_stepsBC_27 : decode cX8_stepsBC 27 = .ok (.if_icmp .ne 44, 3) := by decide +kernel
theorem dX8_stepsBC_30 : decode cX8_stepsBC 30 = .ok (.aload_n 0, 1) := by decide +kernel
theorem dX8_stepsBC_31 : decode cX8_stepsBC 31 = .ok (.getfield 106, 3) := by decide +kernel
theorem dX8_stepsBC_34 : decode cX8_stepsBC 34 = .ok (.iload_n 3, 1) := by decide +kernel
theorem dX8_stepsBC_35 : decode cX8_stepsBC 35 = .ok (.iaload, 1) := by decide +kernel
theorem dX8_stepsBC_36 : decode cX8_stepsBC 36 = .ok (.ifCond .ne 35, 3) := by decide +kernel
theorem dX8_stepsBC_39 : decode cX8_stepsBC 39 = .ok (.aload_n 0, 1) := by decide +kernel
theorem dX8_stepsBC_40 : decode cX8_stepsBC 40 = .ok (.getfield 88, 3) := by decide +kernel
theorem dX8_stepsBC_43 : decode cX8_stepsBC 43 = .ok (.iload_n 3, 1) := by decide +kernel
theorem dX8_stepsBC_44 : decode cX8_stepsBC 44 = .ok (.iload_n 1, 1) := by decide +kernel
theorem dX8_stepsBC_45 : decode cX8_stepsBC 45 = .ok (.aload_n 0, 1) := by decide +kernel
theorem dX8_stepsBC_46 : decode cX8_stepsBC 46 = .ok (.getfield 64, 3) := by decide +kernel
theorem dX8_stepsBC_49 : decode cX8_stepsBC 49 = .ok (.iload_n 3, 1) := by decide +kernel
theorem dX8_stepsBC_50 : decode cX8_stepsBC 50 = .ok (.iaload, 1) := by decide +kernel
theorem dX8_stepsBC_51 : decode cX8_stepsBC 51 = .ok (.iadd, 1) := by decide +kernel
theorem dX8_stepsBC_52 : decode cX8_stepsBC 52 = .ok (.iconst 2, 1) := by decide +kernel
theorem dX8_stepsBC_53 : decode cX8_stepsBC 53 = .ok (.iadd, 1) := by decide +kernel
theorem dX8_stepsBC_54 : decode cX8_stepsBC 54 = .ok (.iload_n 2, 1) := by decide +kernel
theorem dX8_stepsBC_55 : decode cX8_stepsBC 55 = .ok (.if_icmp .gt 7, 3) := by decide +kernel
theorem dX8_stepsBC_58 : decode cX8_stepsBC 58 = .ok (.iconst 2, 1) := by decide +kernel
theorem dX8_stepsBC_59 : decode cX8_stepsBC 59 = .ok (.goto 4, 3) := by decide +kernel
theorem dX8_stepsBC_62 : decode cX8_stepsBC 62 = .ok (.iconst 3, 1) := by decide +kernel
theorem dX8_stepsBC_63 : decode cX8_stepsBC 63 = .ok (.iastore, 1) := by decide +kernel
theorem dX8_stepsBC_64 : decode cX8_stepsBC 64 = .ok (.aload_n 0, 1) := by decide +kernel
theorem dX8_stepsBC_65 : decode cX8_stepsBC 65 = .ok (.getfield 109, 3) := by decide +kernel
theorem dX8_stepsBC_68 : decode cX8_stepsBC 68 = .ok (.iload_n 3, 1) := by decide +kernel
theorem dX8_stepsBC_69 : decode cX8_stepsBC 69 = .ok (.iconst 0, 1) := by decide +kernel
theorem dX8_stepsBC_70 : decode cX8_stepsBC 70 = .ok (.iastore, 1) := by decide +kernel
theorem dX8_stepsBC_71 : decode cX8_stepsBC 71 = .ok (.iinc 3 1, 3) := by decide +kernel
theorem dX8_stepsBC_74 : decode cX8_stepsBC 74 = .ok (.goto (-72), 3) := by decide +kernel
theorem dX8_stepsBC_77 : decode cX8_stepsBC 77 = .ok (.iconst 0, 1) := by decide +kernel
theorem dX8_stepsBC_78 : decode cX8_stepsBC 78 = .ok (.istore_n 3, 1) := by decide +kernel
theorem dX8_stepsBC_79 : decode cX8_stepsBC 79 = .ok (.iload_n 3, 1) := by decide +kernel
theorem dX8_stepsBC_80 : decode cX8_stepsBC 80 = .ok (.aload_n 0, 1) := by decide +kernel
theorem dX8_stepsBC_81 : decode cX8_stepsBC 81 = .ok (.getfield 219, 3) := by decide +kernel
theorem dX8_stepsBC_84 : decode cX8_stepsBC 84 = .ok (.if_icmp .ge 65, 3) := by decide +kernel
theorem dX8_stepsBC_87 : decode cX8_stepsBC 87 = .ok (.aload_n 0, 1) := by decide +kernel
theorem dX8_stepsBC_88 : decode cX8_stepsBC 88 = .ok (.getfield 103, 3) := by decide +kernel
theorem dX8_stepsBC_91 : decode cX8_stepsBC 91 = .ok (.iload_n 3, 1) := by decide +kernel
theorem dX8_stepsBC_92 : decode cX8_stepsBC 92 = .ok (.iaload, 1) := by decide +kernel
theorem dX8_stepsBC_93 : decode cX8_stepsBC 93 = .ok (.iconst 1, 1) := by decide +kernel
theorem dX8_stepsBC_94 : decode cX8_stepsBC 94 = .ok (.if_icmp .ne 49, 3) := by decide +kernel
theorem dX8_stepsBC_97 : decode cX8_stepsBC 97 = .ok (.aload_n 0, 1) := by decide +kernel
theorem dX8_stepsBC_98 : decode cX8_stepsBC 98 = .ok (.getfield 88, 3) := by decide +kernel
theorem dX8_stepsBC_101 : decode cX8_stepsBC 101 = .ok (.iload_n 3, 1) := by decide +kernel
theorem dX8_stepsBC_102 : decode cX8_stepsBC 102 = .ok (.iaload, 1) := by decide +kernel
theorem dX8_stepsBC_103 : decode cX8_stepsBC 103 = .ok (.iconst 2, 1) := by decide +kernel
theorem dX8_stepsBC_104 : decode cX8_stepsBC 104 = .ok (.if_icmp .ne 39, 3) := by decide +kernel
theorem dX8_stepsBC_107 : decode cX8_stepsBC 107 = .ok (.aload_n 0, 1) := by decide +kernel
theorem dX8_stepsBC_108 : decode cX8_stepsBC 108 = .ok (.getfield 109, 3) := by decide +kernel
theorem dX8_stepsBC_111 : decode cX8_stepsBC 111 = .ok (.iload_n 3, 1) := by decide +kernel
theorem dX8_stepsBC_112 : decode cX8_stepsBC 112 = .ok (.iaload, 1) := by decide +kernel
theorem dX8_stepsBC_113 : decode cX8_stepsBC 113 = .ok (.iconst 2, 1) := by decide +kernel
theorem dX8_stepsBC_114 : decode cX8_stepsBC 114 = .ok (.if_icmp .ne 29, 3) := by decide +kernel
theorem dX8_stepsBC_117 : decode cX8_stepsBC 117 = .ok (.aload_n 0, 1) := by decide +kernel
theorem dX8_stepsBC_118 : decode cX8_stepsBC 118 = .ok (.getfield 88, 3) := by decide +kernel
theorem dX8_stepsBC_121 : decode cX8_stepsBC 121 = .ok (.iload_n 3, 1) := by decide +kernel
theorem dX8_stepsBC_122 : decode cX8_stepsBC 122 = .ok (.iconst 4, 1) := by decide +kernel
theorem dX8_stepsBC_123 : decode cX8_stepsBC 123 = .ok (.iastore, 1) := by decide +kernel
theorem dX8_stepsBC_124 : decode cX8_stepsBC 124 = .ok (.aload_n 0, 1) := by decide +kernel
theorem dX8_stepsBC_125 : decode cX8_stepsBC 125 = .ok (.getfield 112, 3) := by decide +kernel
theorem dX8_stepsBC_128 : decode cX8_stepsBC 128 = .ok (.iload_n 3, 1) := by decide +kernel
theorem dX8_stepsBC_129 : decode cX8_stepsBC 129 = .ok (.aload_n 0, 1) := by decide +kernel
theorem dX8_stepsBC_130 : decode cX8_stepsBC 130 = .ok (.getfield 64, 3) := by decide +kernel
theorem dX8_stepsBC_133 : decode cX8_stepsBC 133 = .ok (.iload_n 3, 1) := by decide +kernel
theorem dX8_stepsBC_134 : decode cX8_stepsBC 134 = .ok (.iaload, 1) := by decide +kernel
theorem dX8_stepsBC_135 : decode cX8_stepsBC 135 = .ok (.iastore, 1) := by decide +kernel
theorem dX8_stepsBC_136 : decode cX8_stepsBC 136 = .ok (.aload_n 0, 1) := by decide +kernel
theorem dX8_stepsBC_137 : decode cX8_stepsBC 137 = .ok (.getfield 115, 3) := by decide +kernel
theorem dX8_stepsBC_140 : decode cX8_stepsBC 140 = .ok (.iload_n 3, 1) := by decide +kernel
theorem dX8_stepsBC_141 : decode cX8_stepsBC 141 = .ok (.iconst 0, 1) := by decide +kernel
theorem dX8_stepsBC_142 : decode cX8_stepsBC 142 = .ok (.iastore, 1) := by decide +kernel
theorem dX8_stepsBC_143 : decode cX8_stepsBC 143 = .ok (.iinc 3 1, 3) := by decide +kernel
theorem dX8_stepsBC_146 : decode cX8_stepsBC 146 = .ok (.goto (-67), 3) := by decide +kernel
theorem dX8_stepsBC_149 : decode cX8_stepsBC 149 = .ok (.return_, 1) := by decide +kernel
theorem dX8_sending_0 : decode cX8_sending 0 = .ok (.iconst 0, 1) := by decide +kernel
theorem dX8_sending_1 : decode cX8_sending 1 = .ok (.istore_n 3, 1) := by decide +kernel
theorem dX8_sending_2 : decode cX8_sending 2 = .ok (.iconst 0, 1) := by decide +kernel
theorem dX8_sending_3 : decode cX8_sending 3 = .ok (.istore 4, 2) := by decide +kernel
theorem dX8_sending_5 : decode cX8_sending 5 = .ok (.iconst 0, 1) := by decide +kernel
theorem dX8_sending_6 : decode cX8_sending 6 = .ok (.istore 5, 2) := by decide +kernel
theorem dX8_sending_8 : decode cX8_sending 8 = .ok (.iload 5, 2) := by decide +kernel
theorem dX8_sending_10 : decode cX8_sending 10 = .ok (.aload_n 0, 1) := by decide +kernel
theorem dX8_sending_11 : decode cX8_sending 11 = .ok (.getfield 219, 3) := by decide +kernel
theorem dX8_sending_14 : decode cX8_sending 14 = .ok (.if_icmp .ge 38, 3) := by decide +kernel
theorem dX8_sending_17 : decode cX8_sending 17 = .ok (.aload_n 0, 1) := by decide +kernel
theorem dX8_sending_18 : decode cX8_sending 18 = .ok (.getfield 103, 3) := by decide +kernel
theorem dX8_sending_21 : decode cX8_sending 21 = .ok (.iload 5, 2) := by decide +kernel
theorem dX8_sending_23 : decode cX8_sending 23 = .ok (.iaload, 1) := by decide +kernel
theorem dX8_sending_24 : decode cX8_sending 24 = .ok (.iconst 1, 1) := by decide +kernel
theorem dX8_sending_25 : decode cX8_sending 25 = .ok (.if_icmp .ne 21, 3) := by decide +kernel
theorem dX8_sending_28 : decode cX8_sending 28 = .ok (.aload_n 0, 1) := by decide +kernel
theorem dX8_sending_29 : decode cX8_sending 29 = .ok (.getfield 88, 3) := by decide +kernel
theorem dX8_sending_32 : decode cX8_sending 32 = .ok (.iload 5, 2) := by decide +kernel
theorem dX8_sending_34 : decode cX8_sending 34 = .ok (.iaload, 1) := by decide +kernel
theorem dX8_sending_35 : decode cX8_sending 35 = .ok (.iconst 4, 1) := by decide +kernel
theorem dX8_sending_36 : decode cX8_sending 36 = .ok (.if_icmp .ne 10, 3) := by decide +kernel
theorem dX8_sending_39 : decode cX8_sending 39 = .ok (.iinc 3 1, 3) := by decide +kernel
theorem dX8_sending_42 : decode cX8_sending 42 = .ok (.iload 5, 2) := by decide +kernel
theorem dX8_sending_44 : decode cX8_sending 44 = .ok (.istore 4, 2) := by decide +kernel
theorem dX8_sending_46 : decode cX8_sending 46 = .ok (.iinc 5 1, 3) := by decide +kernel
theorem dX8_sending_49 : decode cX8_sending 49 = .ok (.goto (-41), 3) := by decide +kernel
theorem dX8_sending_52 : decode cX8_sending 52 = .ok (.iconst 0, 1) := by decide +kernel
theorem dX8_sending_53 : decode cX8_sending 53 = .ok (.istore 5, 2) := by decide +kernel
theorem dX8_sending_55 : decode cX8_sending 55 = .ok (.iload 5, 2) := by decide +kernel
theorem dX8_sending_57 : decode cX8_sending 57 = .ok (.aload_n 0, 1) := by decide +kernel
theorem dX8_sending_58 : decode cX8_sending 58 = .ok (.getfield 219, 3) := by decide +kernel
theorem dX8_sending_61 : decode cX8_sending 61 = .ok (.if_icmp .ge 54, 3) := by decide +kernel
theorem dX8_sending_64 : decode cX8_sending 64 = .ok (.iload_n 3, 1) := by decide +kernel
theorem dX8_sending_65 : decode cX8_sending 65 = .ok (.iconst 1, 1) := by decide +kernel
theorem dX8_sending_66 : decode cX8_sending 66 = .ok (.if_icmp .le 49, 3) := by decide +kernel
theorem dX8_sending_69 : decode cX8_sending 69 = .ok (.aload_n 0, 1) := by decide +kernel
theorem dX8_sending_70 : decode cX8_sending 70 = .ok (.getfield 115, 3) := by decide +kernel
theorem dX8_sending_73 : decode cX8_sending 73 = .ok (.iload 5, 2) := by decide +kernel
theorem dX8_sending_75 : decode cX8_sending 75 = .ok (.aload_n 0, 1) := by decide +kernel
theorem dX8_sending_76 : decode cX8_sending 76 = .ok (.getfield 103, 3) := by decide +kernel
theorem dX8_sending_79 : decode cX8_sending 79 = .ok (.iload 5, 2) := by decide +kernel
theorem dX8_sending_81 : decode cX8_sending 81 = .ok (.iaload, 1) := by decide +kernel
theorem dX8_sending_82 : decode cX8_sending 82 = .ok (.iconst 1, 1) := by decide +kernel
theorem dX8_sending_83 : decode cX8_sending 83 = .ok (.if_icmp .ne 18, 3) := by decide +kernel
theorem dX8_sending_86 : decode cX8_sending 86 = .ok (.aload_n 0, 1) := by decide +kernel
theorem dX8_sending_87 : decode cX8_sending 87 = .ok (.getfield 88, 3) := by decide +kernel
theorem dX8_sending_90 : decode cX8_sending 90 = .ok (.iload 5, 2) := by decide +kernel
theorem dX8_sending_92 : decode cX8_sending 92 = .ok (.iaload, 1) := by decide +kernel
theorem dX8_sending_93 : decode cX8_sending 93 = .ok (.iconst 4, 1) := by decide +kernel
theorem dX8_sending_94 : decode cX8_sending 94 = .ok (.if_icmp .ne 7, 3) := by decide +kernel
theorem dX8_sending_97 : decode cX8_sending 97 = .ok (.iconst 1, 1) := by decide +kernel
theorem dX8_sending_98 : decode cX8_sending 98 = .ok (.goto 10, 3) := by decide +kernel
theorem dX8_sending_101 : decode cX8_sending 101 = .ok (.aload_n 0, 1) := by decide +kernel
theorem dX8_sending_102 : decode cX8_sending 102 = .ok (.getfield 115, 3) := by decide +kernel
theorem dX8_sending_105 : decode cX8_sending 105 = .ok (.iload 5, 2) := by decide +kernel
theorem dX8_sending_107 : decode cX8_sending 107 = .ok (.iaload, 1) := by decide +kernel
theorem dX8_sending_108 : decode cX8_sending 108 = .ok (.iastore, 1) := by decide +kernel
theorem dX8_sending_109 : decode cX8_sending 109 = .ok (.iinc 5 1, 3) := by decide +kernel
theorem dX8_sending_112 : decode cX8_sending 112 = .ok (.goto (-57), 3) := by decide +kernel
theorem dX8_sending_115 : decode cX8_sending 115 = .ok (.aload_n 0, 1) := by decide +kernel
theorem dX8_sending_116 : decode cX8_sending 116 = .ok (.getfield 58, 3) := by decide +kernel
theorem dX8_sending_119 : decode cX8_sending 119 = .ok (.sipush 384, 3) := by decide +kernel
theorem dX8_sending_122 : decode cX8_sending 122 = .ok (.iload_n 1, 1) := by decide +kernel
theorem dX8_sending_123 : decode cX8_sending 123 = .ok (.imul, 1) := by decide +kernel
theorem dX8_sending_124 : decode cX8_sending 124 = .ok (.iload_n 2, 1) := by decide +kernel
theorem dX8_sending_125 : decode cX8_sending 125 = .ok (.iadd, 1) := by decide +kernel
theorem dX8_sending_126 : decode cX8_sending 126 = .ok (.iload_n 3, 1) := by decide +kernel
theorem dX8_sending_127 : decode cX8_sending 127 = .ok (.ifCond .ne 7, 3) := by decide +kernel
theorem dX8_sending_130 : decode cX8_sending 130 = .ok (.iconst 0, 1) := by decide +kernel
theorem dX8_sending_131 : decode cX8_sending 131 = .ok (.goto 17, 3) := by decide +kernel
theorem dX8_sending_134 : decode cX8_sending 134 = .ok (.iload_n 3, 1) := by decide +kernel
theorem dX8_sending_135 : decode cX8_sending 135 = .ok (.iconst 1, 1) := by decide +kernel
theorem dX8_sending_136 : decode cX8_sending 136 = .ok (.if_icmp .ne 11, 3) := by decide +kernel
theorem dX8_sending_139 : decode cX8_sending 139 = .ok (.bipush 10, 2) := by decide +kernel
theorem dX8_sending_141 : decode cX8_sending 141 = .ok (.iload 4, 2) := by decide +kernel
theorem dX8_sending_143 : decode cX8_sending 143 = .ok (.iadd, 1) := by decide +kernel
theorem dX8_sending_144 : decode cX8_sending 144 = .ok (.goto 4, 3) := by decide +kernel
theorem dX8_sending_147 : decode cX8_sending 147 = .ok (.iconst 2, 1) := by decide +kernel
theorem dX8_sending_148 : decode cX8_sending 148 = .ok (.iastore, 1) := by decide +kernel
theorem dX8_sending_149 : decode cX8_sending 149 = .ok (.iload_n 3, 1) := by decide +kernel
theorem dX8_sending_150 : decode cX8_sending 150 = .ok (.ireturn, 1) := by decide +kernel
theorem dX8_goneFrame_0 : decode cX8_goneFrame 0 = .ok (.aload_n 0, 1) := by decide +kernel
theorem dX8_goneFrame_1 : decode cX8_goneFrame 1 = .ok (.getfield 70, 3) := by decide +kernel
theorem dX8_goneFrame_4 : decode cX8_goneFrame 4 = .ok (.iload_n 1, 1) := by decide +kernel
theorem dX8_goneFrame_5 : decode cX8_goneFrame 5 = .ok (.dup2, 1) := by decide +kernel
theorem dX8_goneFrame_6 : decode cX8_goneFrame 6 = .ok (.iaload, 1) := by decide +kernel
theorem dX8_goneFrame_7 : decode cX8_goneFrame 7 = .ok (.iconst 1, 1) := by decide +kernel
theorem dX8_goneFrame_8 : decode cX8_goneFrame 8 = .ok (.isub, 1) := by decide +kernel
theorem dX8_goneFrame_9 : decode cX8_goneFrame 9 = .ok (.iastore, 1) := by decide +kernel
theorem dX8_goneFrame_10 : decode cX8_goneFrame 10 = .ok (.aload_n 0, 1) := by decide +kernel
theorem dX8_goneFrame_11 : decode cX8_goneFrame 11 = .ok (.getfield 88, 3) := by decide +kernel
theorem dX8_goneFrame_14 : decode cX8_goneFrame 14 = .ok (.iload_n 1, 1) := by decide +kernel
theorem dX8_goneFrame_15 : decode cX8_goneFrame 15 = .ok (.iconst 0, 1) := by decide +kernel
theorem dX8_goneFrame_16 : decode cX8_goneFrame 16 = .ok (.iastore, 1) := by decide +kernel
theorem dX8_goneFrame_17 : decode cX8_goneFrame 17 = .ok (.aload_n 0, 1) := by decide +kernel
theorem dX8_goneFrame_18 : decode cX8_goneFrame 18 = .ok (.getfield 97, 3) := by decide +kernel
theorem dX8_goneFrame_21 : decode cX8_goneFrame 21 = .ok (.iload_n 1, 1) := by decide +kernel
theorem dX8_goneFrame_22 : decode cX8_goneFrame 22 = .ok (.iconst 0, 1) := by decide +kernel
theorem dX8_goneFrame_23 : decode cX8_goneFrame 23 = .ok (.iastore, 1) := by decide +kernel
theorem dX8_goneFrame_24 : decode cX8_goneFrame 24 = .ok (.return_, 1) := by decide +kernel
theorem dX8_stepD_0 : decode cX8_stepD 0 = .ok (.iconst 0, 1) := by decide +kernel
theorem dX8_stepD_1 : decode cX8_stepD 1 = .ok (.istore_n 2, 1) := by decide +kernel
theorem dX8_stepD_2 : decode cX8_stepD 2 = .ok (.iload_n 2, 1) := by decide +kernel
theorem dX8_stepD_3 : decode cX8_stepD 3 = .ok (.aload_n 0, 1) := by decide +kernel
theorem dX8_stepD_4 : decode cX8_stepD 4 = .ok (.getfield 219, 3) := by decide +kernel
theorem dX8_stepD_7 : decode cX8_stepD 7 = .ok (.if_icmp .ge 131, 3) := by decide +kernel
theorem dX8_stepD_10 : decode cX8_stepD 10 = .ok (.aload_n 0, 1) := by decide +kernel
theorem dX8_stepD_11 : decode cX8_stepD 11 = .ok (.getfield 118, 3) := by decide +kernel
theorem dX8_stepD_14 : decode cX8_stepD 14 = .ok (.iload_n 2, 1) := by decide +kernel
theorem dX8_stepD_15 : decode cX8_stepD 15 = .ok (.iconst 0, 1) := by decide +kernel
theorem dX8_stepD_16 : decode cX8_stepD 16 = .ok (.iastore, 1) := by decide +kernel
theorem dX8_stepD_17 : decode cX8_stepD 17 = .ok (.aload_n 0, 1) := by decide +kernel
theorem dX8_stepD_18 : decode cX8_stepD 18 = .ok (.getfield 103, 3) := by decide +kernel
theorem dX8_stepD_21 : decode cX8_stepD 21 = .ok (.iload_n 2, 1) := by decide +kernel
theorem dX8_stepD_22 : decode cX8_stepD 22 = .ok (.iaload, 1) := by decide +kernel
theorem dX8_stepD_23 : decode cX8_stepD 23 = .ok (.iconst 1, 1) := by decide +kernel
theorem dX8_stepD_24 : decode cX8_stepD 24 = .ok (.if_icmp .ne 108, 3) := by decide +kernel
theorem dX8_stepD_27 : decode cX8_stepD 27 = .ok (.aload_n 0, 1) := by decide +kernel
theorem dX8_stepD_28 : decode cX8_stepD 28 = .ok (.getfield 88, 3) := by decide +kernel
theorem dX8_stepD_31 : decode cX8_stepD 31 = .ok (.iload_n 2, 1) := by decide +kernel
theorem dX8_stepD_32 : decode cX8_stepD 32 = .ok (.iaload, 1) := by decide +kernel
theorem dX8_stepD_33 : decode cX8_stepD 33 = .ok (.iconst 2, 1) := by decide +kernel
theorem dX8_stepD_34 : decode cX8_stepD 34 = .ok (.if_icmp .ne 98, 3) := by decide +kernel
theorem dX8_stepD_37 : decode cX8_stepD 37 = .ok (.iload_n 1, 1) := by decide +kernel
theorem dX8_stepD_38 : decode cX8_stepD 38 = .ok (.ifCond .ne 16, 3) := by decide +kernel
theorem dX8_stepD_41 : decode cX8_stepD 41 = .ok (.aload_n 0, 1) := by decide +kernel
theorem dX8_stepD_42 : decode cX8_stepD 42 = .ok (.getfield 109, 3) := by decide +kernel
theorem dX8_stepD_45 : decode cX8_stepD 45 = .ok (.iload_n 2, 1) := by decide +kernel
theorem dX8_stepD_46 : decode cX8_stepD 46 = .ok (.dup2, 1) := by decide +kernel
theorem dX8_stepD_47 : decode cX8_stepD 47 = .ok (.iaload, 1) := by decide +kernel
theorem dX8_stepD_48 : decode cX8_stepD 48 = .ok (.iconst 1, 1) := by decide +kernel
theorem dX8_stepD_49 : decode cX8_stepD 49 = .ok (.iadd, 1) := by decide +kernel
theorem dX8_stepD_50 : decode cX8_stepD 50 = .ok (.iastore, 1) := by decide +kernel
theorem dX8_stepD_51 : decode cX8_stepD 51 = .ok (.goto 81, 3) := by decide +kernel
theorem dX8_stepD_54 : decode cX8_stepD 54 = .ok (.aload_n 0, 1) := by decide +kernel
theorem dX8_stepD_55 : decode cX8_stepD 55 = .ok (.getfield 94, 3) := by decide +kernel
theorem dX8_stepD_58 : decode cX8_stepD 58 = .ok (.iload_n 2, 1) := by decide +kernel
theorem dX8_stepD_59 : decode cX8_stepD 59 = .ok (.dup2, 1) := by decide +kernel
theorem dX8_stepD_60 : decode cX8_stepD 60 = .ok (.iaload, 1) := by decide +kernel
theorem dX8_stepD_61 : decode cX8_stepD 61 = .ok (.iconst 1, 1) := by decide +kernel
theorem dX8_stepD_62 : decode cX8_stepD 62 = .ok (.iadd, 1) := by decide +kernel
theorem dX8_stepD_63 : decode cX8_stepD 63 = .ok (.iastore, 1) := by decide +kernel
theorem dX8_stepD_64 : decode cX8_stepD 64 = .ok (.aload_n 0, 1) := by decide +kernel
theorem dX8_stepD_65 : decode cX8_stepD 65 = .ok (.getfield 91, 3) := by decide +kernel
theorem dX8_stepD_68 : decode cX8_stepD 68 = .ok (.iload_n 2, 1) := by decide +kernel
theorem dX8_stepD_69 : decode cX8_stepD 69 = .ok (.aload_n 0, 1) := by decide +kernel
theorem dX8_stepD_70 : decode cX8_stepD 70 = .ok (.getfield 91, 3) := by decide +kernel
theorem dX8_stepD_73 : decode cX8_stepD 73 = .ok (.iload_n 2, 1) := by decide +kernel
theorem dX8_stepD_74 : decode cX8_stepD 74 = .ok (.iaload, 1) := by decide +kernel
theorem dX8_stepD_75 : decode cX8_stepD 75 = .ok (.iconst 5, 1) := by decide +kernel
theorem dX8_stepD_76 : decode cX8_stepD 76 = .ok (.if_icmp .ne 7, 3) := by decide +kernel
theorem dX8_stepD_79 : decode cX8_stepD 79 = .ok (.iconst 5, 1) := by decide +kernel
theorem dX8_stepD_80 : decode cX8_stepD 80 = .ok (.goto 11, 3) := by decide +kernel
theorem dX8_stepD_83 : decode cX8_stepD 83 = .ok (.aload_n 0, 1) := by decide +kernel
theorem dX8_stepD_84 : decode cX8_stepD 84 = .ok (.getfield 91, 3) := by decide +kernel
theorem dX8_stepD_87 : decode cX8_stepD 87 = .ok (.iload_n 2, 1) := by decide +kernel
theorem dX8_stepD_88 : decode cX8_stepD 88 = .ok (.iaload, 1) := by decide +kernel
theorem dX8_stepD_89 : decode cX8_stepD 89 = .ok (.iconst 1, 1) := by decide +kernel
theorem dX8_stepD_90 : decode cX8_stepD 90 = .ok (.iadd, 1) := by decide +kernel
theorem dX8_stepD_91 : decode cX8_stepD 91 = .ok (.iastore, 1) := by decide +kernel
theorem dX8_stepD_92 : decode cX8_stepD 92 = .ok (.aload_n 0, 1) := by decide +kernel
theorem dX8_stepD_93 : decode cX8_stepD 93 = .ok (.getfield 94, 3) := by decide +kernel
theorem dX8_stepD_96 : decode cX8_stepD 96 = .ok (.iload_n 2, 1) := by decide +kernel
theorem dX8_stepD_97 : decode cX8_stepD 97 = .ok (.iaload, 1) := by decide +kernel
theorem dX8_stepD_98 : decode cX8_stepD 98 = .ok (.iconst 5, 1) := by decide +kernel
theorem dX8_stepD_99 : decode cX8_stepD 99 = .ok (.if_icmp .ne 21, 3) := by decide +kernel
theorem dX8_stepD_102 : decode cX8_stepD 102 = .ok (.aload_n 0, 1) := by decide +kernel
theorem dX8_stepD_103 : decode cX8_stepD 103 = .ok (.getfield 79, 3) := by decide +kernel
theorem dX8_stepD_106 : decode cX8_stepD 106 = .ok (.iload_n 2, 1) := by decide +kernel
theorem dX8_stepD_107 : decode cX8_stepD 107 = .ok (.dup2, 1) := by decide +kernel
theorem dX8_stepD_108 : decode cX8_stepD 108 = .ok (.iaload, 1) := by decide +kernel
theorem dX8_stepD_109 : decode cX8_stepD 109 = .ok (.iconst 1, 1) := by decide +kernel
theorem dX8_stepD_110 : decode cX8_stepD 110 = .ok (.iadd, 1) := by decide +kernel
theorem dX8_stepD_111 : decode cX8_stepD 111 = .ok (.iastore, 1) := by decide +kernel
theorem dX8_stepD_112 : decode cX8_stepD 112 = .ok (.aload_n 0, 1) := by decide +kernel
theorem dX8_stepD_113 : decode cX8_stepD 113 = .ok (.iload_n 2, 1) := by decide +kernel
theorem dX8_stepD_114 : decode cX8_stepD 114 = .ok (.invokevirtual 306, 3) := by decide +kernel
theorem dX8_stepD_117 : decode cX8_stepD 117 = .ok (.goto 15, 3) := by decide +kernel
theorem dX8_stepD_120 : decode cX8_stepD 120 = .ok (.aload_n 0, 1) := by decide +kernel
theorem dX8_stepD_121 : decode cX8_stepD 121 = .ok (.iload_n 2, 1) := by decide +kernel
theorem dX8_stepD_122 : decode cX8_stepD 122 = .ok (.invokevirtual 300, 3) := by decide +kernel
theorem dX8_stepD_125 : decode cX8_stepD 125 = .ok (.aload_n 0, 1) := by decide +kernel
theorem dX8_stepD_126 : decode cX8_stepD 126 = .ok (.getfield 118, 3) := by decide +kernel
theorem dX8_stepD_129 : decode cX8_stepD 129 = .ok (.iload_n 2, 1) := by decide +kernel
theorem dX8_stepD_130 : decode cX8_stepD 130 = .ok (.iconst 1, 1) := by decide +kernel
theorem dX8_stepD_131 : decode cX8_stepD 131 = .ok (.iastore, 1) := by decide +kernel
theorem dX8_stepD_132 : decode cX8_stepD 132 = .ok (.iinc 2 1, 3) := by decide +kernel
theorem dX8_stepD_135 : decode cX8_stepD 135 = .ok (.goto (-133), 3) := by decide +kernel
theorem dX8_stepD_138 : decode cX8_stepD 138 = .ok (.return_, 1) := by decide +kernel
theorem dX8_stepE_0 : decode cX8_stepE 0 = .ok (.iconst 0, 1) := by decide +kernel
theorem dX8_stepE_1 : decode cX8_stepE 1 = .ok (.istore_n 1, 1) := by decide +kernel
theorem dX8_stepE_2 : decode cX8_stepE 2 = .ok (.iload_n 1, 1) := by decide +kernel
theorem dX8_stepE_3 : decode cX8_stepE 3 = .ok (.aload_n 0, 1) := by decide +kernel
theorem dX8_stepE_4 : decode cX8_stepE 4 = .ok (.getfield 219, 3) := by decide +kernel
theorem dX8_stepE_7 : decode cX8_stepE 7 = .ok (.if_icmp .ge 57, 3) := by decide +kernel
theorem dX8_stepE_10 : decode cX8_stepE 10 = .ok (.aload_n 0, 1) := by decide +kernel
theorem dX8_stepE_11 : decode cX8_stepE 11 = .ok (.getfield 103, 3) := by decide +kernel
theorem dX8_stepE_14 : decode cX8_stepE 14 = .ok (.iload_n 1, 1) := by decide +kernel
theorem dX8_stepE_15 : decode cX8_stepE 15 = .ok (.iaload, 1) := by decide +kernel
theorem dX8_stepE_16 : decode cX8_stepE 16 = .ok (.iconst 1, 1) := by decide +kernel
theorem dX8_stepE_17 : decode cX8_stepE 17 = .ok (.if_icmp .ne 41, 3) := by decide +kernel
theorem dX8_stepE_20 : decode cX8_stepE 20 = .ok (.aload_n 0, 1) := by decide +kernel
theorem dX8_stepE_21 : decode cX8_stepE 21 = .ok (.getfield 88, 3) := by decide +kernel
theorem dX8_stepE_24 : decode cX8_stepE 24 = .ok (.iload_n 1, 1) := by decide +kernel
theorem dX8_stepE_25 : decode cX8_stepE 25 = .ok (.iaload, 1) := by decide +kernel
theorem dX8_stepE_26 : decode cX8_stepE 26 = .ok (.iconst 1, 1) := by decide +kernel
theorem dX8_stepE_27 : decode cX8_stepE 27 = .ok (.if_icmp .ne 31, 3) := by decide +kernel
theorem dX8_stepE_30 : decode cX8_stepE 30 = .ok (.aload_n 0, 1) := by decide +kernel
theorem dX8_stepE_31 : decode cX8_stepE 31 = .ok (.getfield 118, 3) := by decide +kernel
theorem dX8_stepE_34 : decode cX8_stepE 34 = .ok (.iload_n 1, 1) := by decide +kernel
theorem dX8_stepE_35 : decode cX8_stepE 35 = .ok (.iaload, 1) := by decide +kernel
theorem dX8_stepE_36 : decode cX8_stepE 36 = .ok (.ifCond .ne 22, 3) := by decide +kernel
theorem dX8_stepE_39 : decode cX8_stepE 39 = .ok (.aload_n 0, 1) := by decide +kernel
theorem dX8_stepE_40 : decode cX8_stepE 40 = .ok (.getfield 106, 3) := by decide +kernel
theorem dX8_stepE_43 : decode cX8_stepE 43 = .ok (.iload_n 1, 1) := by decide +kernel
theorem dX8_stepE_44 : decode cX8_stepE 44 = .ok (.iaload, 1) := by decide +kernel
theorem dX8_stepE_45 : decode cX8_stepE 45 = .ok (.ifCond .le 13, 3) := by decide +kernel
theorem dX8_stepE_48 : decode cX8_stepE 48 = .ok (.aload_n 0, 1) := by decide +kernel
theorem dX8_stepE_49 : decode cX8_stepE 49 = .ok (.getfield 106, 3) := by decide +kernel
theorem dX8_stepE_52 : decode cX8_stepE 52 = .ok (.iload_n 1, 1) := by decide +kernel
theorem dX8_stepE_53 : decode cX8_stepE 53 = .ok (.dup2, 1) := by decide +kernel
theorem dX8_stepE_54 : decode cX8_stepE 54 = .ok (.iaload, 1) := by decide +kernel
theorem dX8_stepE_55 : decode cX8_stepE 55 = .ok (.iconst 1, 1) := by decide +kernel
theorem dX8_stepE_56 : decode cX8_stepE 56 = .ok (.isub, 1) := by decide +kernel
theorem dX8_stepE_57 : decode cX8_stepE 57 = .ok (.iastore, 1) := by decide +kernel
theorem dX8_stepE_58 : decode cX8_stepE 58 = .ok (.iinc 1 1, 3) := by decide +kernel
theorem dX8_stepE_61 : decode cX8_stepE 61 = .ok (.goto (-59), 3) := by decide +kernel
theorem dX8_stepE_64 : decode cX8_stepE 64 = .ok (.return_, 1) := by decide +kernel
theorem dX8_ends_0 : decode cX8_ends 0 = .ok (.aload_n 0, 1) := by decide +kernel
theorem dX8_ends_1 : decode cX8_ends 1 = .ok (.getfield 115, 3) := by decide +kernel
theorem dX8_ends_4 : decode cX8_ends 4 = .ok (.iload_n 1, 1) := by decide +kernel
theorem dX8_ends_5 : decode cX8_ends 5 = .ok (.iaload, 1) := by decide +kernel
theorem dX8_ends_6 : decode cX8_ends 6 = .ok (.ifCond .ne 20, 3) := by decide +kernel
theorem dX8_ends_9 : decode cX8_ends 9 = .ok (.aload_n 0, 1) := by decide +kernel
theorem dX8_ends_10 : decode cX8_ends 10 = .ok (.getfield 76, 3) := by decide +kernel
theorem dX8_ends_13 : decode cX8_ends 13 = .ok (.iload_n 1, 1) := by decide +kernel
theorem dX8_ends_14 : decode cX8_ends 14 = .ok (.dup2, 1) := by decide +kernel
theorem dX8_ends_15 : decode cX8_ends 15 = .ok (.iaload, 1) := by decide +kernel
theorem dX8_ends_16 : decode cX8_ends 16 = .ok (.iconst 1, 1) := by decide +kernel
theorem dX8_ends_17 : decode cX8_ends 17 = .ok (.iadd, 1) := by decide +kernel
theorem dX8_ends_18 : decode cX8_ends 18 = .ok (.iastore, 1) := by decide +kernel
theorem dX8_ends_19 : decode cX8_ends 19 = .ok (.aload_n 0, 1) := by decide +kernel
theorem dX8_ends_20 : decode cX8_ends 20 = .ok (.iload_n 1, 1) := by decide +kernel
theorem dX8_ends_21 : decode cX8_ends 21 = .ok (.invokevirtual 306, 3) := by decide +kernel
theorem dX8_ends_24 : decode cX8_ends 24 = .ok (.iconst 1, 1) := by decide +kernel
theorem dX8_ends_25 : decode cX8_ends 25 = .ok (.ireturn, 1) := by decide +kernel
theorem dX8_ends_26 : decode cX8_ends 26 = .ok (.aload_n 0, 1) := by decide +kernel
theorem dX8_ends_27 : decode cX8_ends 27 = .ok (.getfield 100, 3) := by decide +kernel
theorem dX8_ends_30 : decode cX8_ends 30 = .ok (.iload_n 1, 1) := by decide +kernel
theorem dX8_ends_31 : decode cX8_ends 31 = .ok (.dup2, 1) := by decide +kernel
theorem dX8_ends_32 : decode cX8_ends 32 = .ok (.iaload, 1) := by decide +kernel
theorem dX8_ends_33 : decode cX8_ends 33 = .ok (.iconst 1, 1) := by decide +kernel
theorem dX8_ends_34 : decode cX8_ends 34 = .ok (.iadd, 1) := by decide +kernel
theorem dX8_ends_35 : decode cX8_ends 35 = .ok (.iastore, 1) := by decide +kernel
theorem dX8_ends_36 : decode cX8_ends 36 = .ok (.aload_n 0, 1) := by decide +kernel
theorem dX8_ends_37 : decode cX8_ends 37 = .ok (.getfield 97, 3) := by decide +kernel
theorem dX8_ends_40 : decode cX8_ends 40 = .ok (.iload_n 1, 1) := by decide +kernel
theorem dX8_ends_41 : decode cX8_ends 41 = .ok (.dup2, 1) := by decide +kernel
theorem dX8_ends_42 : decode cX8_ends 42 = .ok (.iaload, 1) := by decide +kernel
theorem dX8_ends_43 : decode cX8_ends 43 = .ok (.iconst 1, 1) := by decide +kernel
theorem dX8_ends_44 : decode cX8_ends 44 = .ok (.iadd, 1) := by decide +kernel
theorem dX8_ends_45 : decode cX8_ends 45 = .ok (.iastore, 1) := by decide +kernel
theorem dX8_ends_46 : decode cX8_ends 46 = .ok (.aload_n 0, 1) := by decide +kernel
theorem dX8_ends_47 : decode cX8_ends 47 = .ok (.getfield 97, 3) := by decide +kernel
theorem dX8_ends_50 : decode cX8_ends 50 = .ok (.iload_n 1, 1) := by decide +kernel
theorem dX8_ends_51 : decode cX8_ends 51 = .ok (.iaload, 1) := by decide +kernel
theorem dX8_ends_52 : decode cX8_ends 52 = .ok (.iconst 4, 1) := by decide +kernel
theorem dX8_ends_53 : decode cX8_ends 53 = .ok (.if_icmp .ne 21, 3) := by decide +kernel
theorem dX8_ends_56 : decode cX8_ends 56 = .ok (.aload_n 0, 1) := by decide +kernel
theorem dX8_ends_57 : decode cX8_ends 57 = .ok (.getfield 79, 3) := by decide +kernel
theorem dX8_ends_60 : decode cX8_ends 60 = .ok (.iload_n 1, 1) := by decide +kernel
theorem dX8_ends_61 : decode cX8_ends 61 = .ok (.dup2, 1) := by decide +kernel
theorem dX8_ends_62 : decode cX8_ends 62 = .ok (.iaload, 1) := by decide +kernel
theorem dX8_ends_63 : decode cX8_ends 63 = .ok (.iconst 1, 1) := by decide +kernel
theorem dX8_ends_64 : decode cX8_ends 64 = .ok (.iadd, 1) := by decide +kernel
theorem dX8_ends_65 : decode cX8_ends 65 = .ok (.iastore, 1) := by decide +kernel
theorem dX8_ends_66 : decode cX8_ends 66 = .ok (.aload_n 0, 1) := by decide +kernel
theorem dX8_ends_67 : decode cX8_ends 67 = .ok (.iload_n 1, 1) := by decide +kernel
theorem dX8_ends_68 : decode cX8_ends 68 = .ok (.invokevirtual 306, 3) := by decide +kernel
theorem dX8_ends_71 : decode cX8_ends 71 = .ok (.goto 8, 3) := by decide +kernel
theorem dX8_ends_74 : decode cX8_ends 74 = .ok (.aload_n 0, 1) := by decide +kernel
theorem dX8_ends_75 : decode cX8_ends 75 = .ok (.iload_n 1, 1) := by decide +kernel
theorem dX8_ends_76 : decode cX8_ends 76 = .ok (.invokevirtual 303, 3) := by decide +kernel
theorem dX8_ends_79 : decode cX8_ends 79 = .ok (.iconst 0, 1) := by decide +kernel
theorem dX8_ends_80 : decode cX8_ends 80 = .ok (.ireturn, 1) := by decide +kernel
theorem dX8_stepF_0 : decode cX8_stepF 0 = .ok (.iconst 0, 1) := by decide +kernel
theorem dX8_stepF_1 : decode cX8_stepF 1 = .ok (.istore_n 1, 1) := by decide +kernel
theorem dX8_stepF_2 : decode cX8_stepF 2 = .ok (.iconst 0, 1) := by decide +kernel
theorem dX8_stepF_3 : decode cX8_stepF 3 = .ok (.istore_n 2, 1) := by decide +kernel
theorem dX8_stepF_4 : decode cX8_stepF 4 = .ok (.iload_n 2, 1) := by decide +kernel
theorem dX8_stepF_5 : decode cX8_stepF 5 = .ok (.aload_n 0, 1) := by decide +kernel
theorem dX8_stepF_6 : decode cX8_stepF 6 = .ok (.getfield 219, 3) := by decide +kernel
theorem dX8_stepF_9 : decode cX8_stepF 9 = .ok (.if_icmp .ge 56, 3) := by decide +kernel
theorem dX8_stepF_12 : decode cX8_stepF 12 = .ok (.aload_n 0, 1) := by decide +kernel
theorem dX8_stepF_13 : decode cX8_stepF 13 = .ok (.getfield 103, 3) := by decide +kernel
theorem dX8_stepF_16 : decode cX8_stepF 16 = .ok (.iload_n 2, 1) := by decide +kernel
theorem dX8_stepF_17 : decode cX8_stepF 17 = .ok (.iaload, 1) := by decide +kernel
theorem dX8_stepF_18 : decode cX8_stepF 18 = .ok (.iconst 1, 1) := by decide +kernel
theorem dX8_stepF_19 : decode cX8_stepF 19 = .ok (.if_icmp .ne 40, 3) := by decide +kernel
theorem dX8_stepF_22 : decode cX8_stepF 22 = .ok (.aload_n 0, 1) := by decide +kernel
theorem dX8_stepF_23 : decode cX8_stepF 23 = .ok (.getfield 88, 3) := by decide +kernel
theorem dX8_stepF_26 : decode cX8_stepF 26 = .ok (.iload_n 2, 1) := by decide +kernel
theorem dX8_stepF_27 : decode cX8_stepF 27 = .ok (.iaload, 1) := by decide +kernel
theorem dX8_stepF_28 : decode cX8_stepF 28 = .ok (.iconst 4, 1) := by decide +kernel
theorem dX8_stepF_29 : decode cX8_stepF 29 = .ok (.if_icmp .ne 30, 3) := by decide +kernel
theorem dX8_stepF_32 : decode cX8_stepF 32 = .ok (.aload_n 0, 1) := by decide +kernel
theorem dX8_stepF_33 : decode cX8_stepF 33 = .ok (.getfield 112, 3) := by decide +kernel
theorem dX8_stepF_36 : decode cX8_stepF 36 = .ok (.iload_n 2, 1) := by decide +kernel
theorem dX8_stepF_37 : decode cX8_stepF 37 = .ok (.dup2, 1) := by decide +kernel
theorem dX8_stepF_38 : decode cX8_stepF 38 = .ok (.iaload, 1) := by decide +kernel
theorem dX8_stepF_39 : decode cX8_stepF 39 = .ok (.iconst 1, 1) := by decide +kernel
theorem dX8_stepF_40 : decode cX8_stepF 40 = .ok (.isub, 1) := by decide +kernel
theorem dX8_stepF_41 : decode cX8_stepF 41 = .ok (.iastore, 1) := by decide +kernel
theorem dX8_stepF_42 : decode cX8_stepF 42 = .ok (.aload_n 0, 1) := by decide +kernel
theorem dX8_stepF_43 : decode cX8_stepF 43 = .ok (.getfield 112, 3) := by decide +kernel
theorem dX8_stepF_46 : decode cX8_stepF 46 = .ok (.iload_n 2, 1) := by decide +kernel
theorem dX8_stepF_47 : decode cX8_stepF 47 = .ok (.iaload, 1) := by decide +kernel
theorem dX8_stepF_48 : decode cX8_stepF 48 = .ok (.ifCond .ne 11, 3) := by decide +kernel
theorem dX8_stepF_51 : decode cX8_stepF 51 = .ok (.iload_n 1, 1) := by decide +kernel
theorem dX8_stepF_52 : decode cX8_stepF 52 = .ok (.aload_n 0, 1) := by decide +kernel
theorem dX8_stepF_53 : decode cX8_stepF 53 = .ok (.iload_n 2, 1) := by decide +kernel
theorem dX8_stepF_54 : decode cX8_stepF 54 = .ok (.invokevirtual 309, 3) := by decide +kernel
theorem dX8_stepF_57 : decode cX8_stepF 57 = .ok (.iadd, 1) := by decide +kernel
theorem dX8_stepF_58 : decode cX8_stepF 58 = .ok (.istore_n 1, 1) := by decide +kernel
theorem dX8_stepF_59 : decode cX8_stepF 59 = .ok (.iinc 2 1, 3) := by decide +kernel
theorem dX8_stepF_62 : decode cX8_stepF 62 = .ok (.goto (-58), 3) := by decide +kernel
theorem dX8_stepF_65 : decode cX8_stepF 65 = .ok (.iload_n 1, 1) := by decide +kernel
theorem dX8_stepF_66 : decode cX8_stepF 66 = .ok (.ireturn, 1) := by decide +kernel
theorem dX8_uses_0 : decode cX8_uses 0 = .ok (.iconst 0, 1) := by decide +kernel
theorem dX8_uses_1 : decode cX8_uses 1 = .ok (.istore_n 2, 1) := by decide +kernel
theorem dX8_uses_2 : decode cX8_uses 2 = .ok (.iconst 0, 1) := by decide +kernel
theorem dX8_uses_3 : decode cX8_uses 3 = .ok (.istore_n 3, 1) := by decide +kernel
theorem dX8_uses_4 : decode cX8_uses 4 = .ok (.iload_n 3, 1) := by decide +kernel
theorem dX8_uses_5 : decode cX8_uses 5 = .ok (.aload_n 0, 1) := by decide +kernel
theorem dX8_uses_6 : decode cX8_uses 6 = .ok (.getfield 46, 3) := by decide +kernel
theorem dX8_uses_9 : decode cX8_uses 9 = .ok (.iload_n 1, 1) := by decide +kernel
theorem dX8_uses_10 : decode cX8_uses 10 = .ok (.iaload, 1) := by decide +kernel
theorem dX8_uses_11 : decode cX8_uses 11 = .ok (.if_icmp .ge 208, 3) := by decide +kernel
theorem dX8_uses_14 : decode cX8_uses 14 = .ok (.aload_n 0, 1) := by decide +kernel
theorem dX8_uses_15 : decode cX8_uses 15 = .ok (.getfield 49, 3) := by decide +kernel
theorem dX8_uses_18 : decode cX8_uses 18 = .ok (.bipush 7, 2) := by decide +kernel
theorem dX8_uses_20 : decode cX8_uses 20 = .ok (.iload_n 1, 1) := by decide +kernel
theorem dX8_uses_21 : decode cX8_uses 21 = .ok (.imul, 1) := by decide +kernel
theorem dX8_uses_22 : decode cX8_uses 22 = .ok (.iload_n 3, 1) := by decide +kernel
theorem dX8_uses_23 : decode cX8_uses 23 = .ok (.iadd, 1) := by decide +kernel
theorem dX8_uses_24 : decode cX8_uses 24 = .ok (.iaload, 1) := by decide +kernel
theorem dX8_uses_25 : decode cX8_uses 25 = .ok (.istore 4, 2) := by decide +kernel
theorem dX8_uses_27 : decode cX8_uses 27 = .ok (.aload_n 0, 1) := by decide +kernel
theorem dX8_uses_28 : decode cX8_uses 28 = .ok (.getfield 52, 3) := by decide +kernel
theorem dX8_uses_31 : decode cX8_uses 31 = .ok (.bipush 7, 2) := by decide +kernel
theorem dX8_uses_33 : decode cX8_uses 33 = .ok (.iload_n 1, 1) := by decide +kernel
theorem dX8_uses_34 : decode cX8_uses 34 = .ok (.imul, 1) := by decide +kernel
theorem dX8_uses_35 : decode cX8_uses 35 = .ok (.iload_n 3, 1) := by decide +kernel
theorem dX8_uses_36 : decode cX8_uses 36 = .ok (.iadd, 1) := by decide +kernel
theorem dX8_uses_37 : decode cX8_uses 37 = .ok (.iaload, 1) := by decide +kernel
theorem dX8_uses_38 : decode cX8_uses 38 = .ok (.aload_n 0, 1) := by decide +kernel
theorem dX8_uses_39 : decode cX8_uses 39 = .ok (.getfield 228, 3) := by decide +kernel
theorem dX8_uses_42 : decode cX8_uses 42 = .ok (.imul, 1) := by decide +kernel
theorem dX8_uses_43 : decode cX8_uses 43 = .ok (.aload_n 0, 1) := by decide +kernel
theorem dX8_uses_44 : decode cX8_uses 44 = .ok (.getfield 64, 3) := by decide +kernel
theorem dX8_uses_47 : decode cX8_uses 47 = .ok (.iload 4, 2) := by decide +kernel
theorem dX8_uses_49 : decode cX8_uses 49 = .ok (.iaload, 1) := by decide +kernel
theorem dX8_uses_50 : decode cX8_uses 50 = .ok (.idiv, 1) := by decide +kernel
theorem dX8_uses_51 : decode cX8_uses 51 = .ok (.istore 5, 2) := by decide +kernel
theorem dX8_uses_53 : decode cX8_uses 53 = .ok (.aload_n 0, 1) := by decide +kernel
theorem dX8_uses_54 : decode cX8_uses 54 = .ok (.getfield 103, 3) := by decide +kernel
theorem dX8_uses_57 : decode cX8_uses 57 = .ok (.iload 4, 2) := by decide +kernel
theorem dX8_uses_59 : decode cX8_uses 59 = .ok (.iaload, 1) := by decide +kernel
theorem dX8_uses_60 : decode cX8_uses 60 = .ok (.ifCond .ne 7, 3) := by decide +kernel
theorem dX8_uses_63 : decode cX8_uses 63 = .ok (.iconst 0, 1) := by decide +kernel
theorem dX8_uses_64 : decode cX8_uses 64 = .ok (.goto 27, 3) := by decide +kernel
theorem dX8_uses_67 : decode cX8_uses 67 = .ok (.iload 5, 2) := by decide +kernel
theorem dX8_uses_69 : decode cX8_uses 69 = .ok (.aload_n 0, 1) := by decide +kernel
theorem dX8_uses_70 : decode cX8_uses 70 = .ok (.getfield 73, 3) := by decide +kernel
theorem dX8_uses_73 : decode cX8_uses 73 = .ok (.iload 4, 2) := by decide +kernel
theorem dX8_uses_75 : decode cX8_uses 75 = .ok (.iaload, 1) := by decide +kernel
theorem dX8_uses_76 : decode cX8_uses 76 = .ok (.if_icmp .ge 8, 3) := by decide +kernel
theorem dX8_uses_79 : decode cX8_uses 79 = .ok (.iload 5, 2) := by decide +kernel
theorem dX8_uses_81 : decode cX8_uses 81 = .ok (.goto 10, 3) := by decide +kernel
theorem dX8_uses_84 : decode cX8_uses 84 = .ok (.aload_n 0, 1) := by decide +kernel
theorem dX8_uses_85 : decode cX8_uses 85 = .ok (.getfield 73, 3) := by decide +kernel
theorem dX8_uses_88 : decode cX8_uses 88 = .ok (.iload 4, 2) := by decide +kernel
theorem dX8_uses_90 : decode cX8_uses 90 = .ok (.iaload, 1) := by decide +kernel
theorem dX8_uses_91 : decode cX8_uses 91 = .ok (.istore 6, 2) := by decide +kernel
theorem dX8_uses_93 : decode cX8_uses 93 = .ok (.aload_n 0, 1) := by decide +kernel
theorem dX8_uses_94 : decode cX8_uses 94 = .ok (.iload_n 1, 1) := by decide +kernel
theorem dX8_uses_95 : decode cX8_uses 95 = .ok (.iload_n 3, 1) := by decide +kernel
theorem dX8_uses_96 : decode cX8_uses 96 = .ok (.invokevirtual 294, 3) := by decide +kernel
theorem dX8_uses_99 : decode cX8_uses 99 = .ok (.aload_n 0, 1) := by decide +kernel
theorem dX8_uses_100 : decode cX8_uses 100 = .ok (.getfield 228, 3) := by decide +kernel
theorem dX8_uses_103 : decode cX8_uses 103 = .ok (.imul, 1) := by decide +kernel
theorem dX8_uses_104 : decode cX8_uses 104 = .ok (.istore 7, 2) := by decide +kernel
theorem dX8_uses_106 : decode cX8_uses 106 = .ok (.iconst 0, 1) := by decide +kernel
theorem dX8_uses_107 : decode cX8_uses 107 = .ok (.istore 8, 2) := by decide +kernel
theorem dX8_uses_109 : decode cX8_uses 109 = .ok (.iload 8, 2) := by decide +kernel
theorem dX8_uses_111 : decode cX8_uses 111 = .ok (.iload 6, 2) := by decide +kernel
theorem dX8_uses_113 : decode cX8_uses 113 = .ok (.aload_n 0, 1) := by decide +kernel
theorem dX8_uses_114 : decode cX8_uses 114 = .ok (.getfield 64, 3) := by decide +kernel
theorem dX8_uses_117 : decode cX8_uses 117 = .ok (.iload 4, 2) := by decide +kernel
theorem dX8_uses_119 : decode cX8_uses 119 = .ok (.iaload, 1) := by decide +kernel
theorem dX8_uses_120 : decode cX8_uses 120 = .ok (.imul, 1) := by decide +kernel
theorem dX8_uses_121 : decode cX8_uses 121 = .ok (.if_icmp .ge 30, 3) := by decide +kernel
theorem dX8_uses_124 : decode cX8_uses 124 = .ok (.aload_n 0, 1) := by decide +kernel
theorem dX8_uses_125 : decode cX8_uses 125 = .ok (.getfield 58, 3) := by decide +kernel
theorem dX8_uses_128 : decode cX8_uses 128 = .ok (.sipush 384, 3) := by decide +kernel
theorem dX8_uses_131 : decode cX8_uses 131 = .ok (.iload_n 1, 1) := by decide +kernel
theorem dX8_uses_132 : decode cX8_uses 132 = .ok (.imul, 1) := by decide +kernel
theorem dX8_uses_133 : decode cX8_uses 133 = .ok (.iload 7, 2) := by decide +kernel
theorem dX8_uses_135 : decode cX8_uses 135 = .ok (.iadd, 1) := by decide +kernel
theorem dX8_uses_136 : decode cX8_uses 136 = .ok (.iload 8, 2) := by decide +kernel
theorem dX8_uses_138 : decode cX8_uses 138 = .ok (.iadd, 1) := by decide +kernel
theorem dX8_uses_139 : decode cX8_uses 139 = .ok (.bipush 10, 2) := by decide +kernel
theorem dX8_uses_141 : decode cX8_uses 141 = .ok (.iload 4, 2) := by decide +kernel
theorem dX8_uses_143 : decode cX8_uses 143 = .ok (.iadd, 1) := by decide +kernel
theorem dX8_uses_144 : decode cX8_uses 144 = .ok (.iastore, 1) := by decide +kernel
theorem dX8_uses_145 : decode cX8_uses 145 = .ok (.iinc 8 1, 3) := by decide +kernel
theorem dX8_uses_148 : decode cX8_uses 148 = .ok (.goto (-39), 3) := by decide +kernel
theorem dX8_uses_151 : decode cX8_uses 151 = .ok (.aload_n 0, 1) := by decide +kernel
theorem dX8_uses_152 : decode cX8_uses 152 = .ok (.getfield 73, 3) := by decide +kernel
theorem dX8_uses_155 : decode cX8_uses 155 = .ok (.iload 4, 2) := by decide +kernel
theorem dX8_uses_157 : decode cX8_uses 157 = .ok (.dup2, 1) := by decide +kernel
theorem dX8_uses_158 : decode cX8_uses 158 = .ok (.iaload, 1) := by decide +kernel
theorem dX8_uses_159 : decode cX8_uses 159 = .ok (.iload 6, 2) := by decide +kernel
theorem dX8_uses_161 : decode cX8_uses 161 = .ok (.isub, 1) := by decide +kernel
theorem dX8_uses_162 : decode cX8_uses 162 = .ok (.iastore, 1) := by decide +kernel
theorem dX8_uses_163 : decode cX8_uses 163 = .ok (.aload_n 0, 1) := by decide +kernel
theorem dX8_uses_164 : decode cX8_uses 164 = .ok (.getfield 76, 3) := by decide +kernel
theorem dX8_uses_167 : decode cX8_uses 167 = .ok (.iload 4, 2) := by decide +kernel
theorem dX8_uses_169 : decode cX8_uses 169 = .ok (.dup2, 1) := by decide +kernel
theorem dX8_uses_170 : decode cX8_uses 170 = .ok (.iaload, 1) := by decide +kernel
theorem dX8_uses_171 : decode cX8_uses 171 = .ok (.iload 6, 2) := by decide +kernel
theorem dX8_uses_173 : decode cX8_uses 173 = .ok (.iadd, 1) := by decide +kernel
theorem dX8_uses_174 : decode cX8_uses 174 = .ok (.iastore, 1) := by decide +kernel
theorem dX8_uses_175 : decode cX8_uses 175 = .ok (.aload_n 0, 1) := by decide +kernel
theorem dX8_uses_176 : decode cX8_uses 176 = .ok (.getfield 55, 3) := by decide +kernel
theorem dX8_uses_179 : decode cX8_uses 179 = .ok (.bipush 7, 2) := by decide +kernel
theorem dX8_uses_181 : decode cX8_uses 181 = .ok (.iload_n 1, 1) := by decide +kernel
theorem dX8_uses_182 : decode cX8_uses 182 = .ok (.imul, 1) := by decide +kernel
theorem dX8_uses_183 : decode cX8_uses 183 = .ok (.iload_n 3, 1) := by decide +kernel
theorem dX8_uses_184 : decode cX8_uses 184 = .ok (.iadd, 1) := by decide +kernel
theorem dX8_uses_185 : decode cX8_uses 185 = .ok (.iload 6, 2) := by decide +kernel
theorem dX8_uses_187 : decode cX8_uses 187 = .ok (.ifCond .le 7, 3) := by decide +kernel
theorem dX8_uses_190 : decode cX8_uses 190 = .ok (.iconst 0, 1) := by decide +kernel
theorem dX8_uses_191 : decode cX8_uses 191 = .ok (.goto 16, 3) := by decide +kernel
theorem dX8_uses_194 : decode cX8_uses 194 = .ok (.aload_n 0, 1) := by decide +kernel
theorem dX8_uses_195 : decode cX8_uses 195 = .ok (.getfield 55, 3) := by decide +kernel
theorem dX8_uses_198 : decode cX8_uses 198 = .ok (.bipush 7, 2) := by decide +kernel
theorem dX8_uses_200 : decode cX8_uses 200 = .ok (.iload_n 1, 1) := by decide +kernel
theorem dX8_uses_201 : decode cX8_uses 201 = .ok (.imul, 1) := by decide +kernel
theorem dX8_uses_202 : decode cX8_uses 202 = .ok (.iload_n 3, 1) := by decide +kernel
theorem dX8_uses_203 : decode cX8_uses 203 = .ok (.iadd, 1) := by decide +kernel
theorem dX8_uses_204 : decode cX8_uses 204 = .ok (.iaload, 1) := by decide +kernel
theorem dX8_uses_205 : decode cX8_uses 205 = .ok (.iconst 1, 1) := by decide +kernel
theorem dX8_uses_206 : decode cX8_uses 206 = .ok (.iadd, 1) := by decide +kernel
theorem dX8_uses_207 : decode cX8_uses 207 = .ok (.iastore, 1) := by decide +kernel
theorem dX8_uses_208 : decode cX8_uses 208 = .ok (.iload_n 2, 1) := by decide +kernel
theorem dX8_uses_209 : decode cX8_uses 209 = .ok (.iload 6, 2) := by decide +kernel
theorem dX8_uses_211 : decode cX8_uses 211 = .ok (.iadd, 1) := by decide +kernel
theorem dX8_uses_212 : decode cX8_uses 212 = .ok (.istore_n 2, 1) := by decide +kernel
theorem dX8_uses_213 : decode cX8_uses 213 = .ok (.iinc 3 1, 3) := by decide +kernel
theorem dX8_uses_216 : decode cX8_uses 216 = .ok (.goto (-212), 3) := by decide +kernel
theorem dX8_uses_219 : decode cX8_uses 219 = .ok (.iload_n 2, 1) := by decide +kernel
theorem dX8_uses_220 : decode cX8_uses 220 = .ok (.ireturn, 1) := by decide +kernel
theorem dX8_part_0 : decode cX8_part 0 = .ok (.iconst 0, 1) := by decide +kernel
theorem dX8_part_1 : decode cX8_part 1 = .ok (.istore_n 2, 1) := by decide +kernel
theorem dX8_part_2 : decode cX8_part 2 = .ok (.iload_n 2, 1) := by decide +kernel
theorem dX8_part_3 : decode cX8_part 3 = .ok (.aload_n 0, 1) := by decide +kernel
theorem dX8_part_4 : decode cX8_part 4 = .ok (.getfield 225, 3) := by decide +kernel
theorem dX8_part_7 : decode cX8_part 7 = .ok (.if_icmp .ge 30, 3) := by decide +kernel
theorem dX8_part_10 : decode cX8_part 10 = .ok (.aload_n 0, 1) := by decide +kernel
theorem dX8_part_11 : decode cX8_part 11 = .ok (.getfield 58, 3) := by decide +kernel
theorem dX8_part_14 : decode cX8_part 14 = .ok (.sipush 384, 3) := by decide +kernel
theorem dX8_part_17 : decode cX8_part 17 = .ok (.iload_n 1, 1) := by decide +kernel
theorem dX8_part_18 : decode cX8_part 18 = .ok (.imul, 1) := by decide +kernel
theorem dX8_part_19 : decode cX8_part 19 = .ok (.iload_n 2, 1) := by decide +kernel
theorem dX8_part_20 : decode cX8_part 20 = .ok (.iadd, 1) := by decide +kernel
theorem dX8_part_21 : decode cX8_part 21 = .ok (.iload_n 2, 1) := by decide +kernel
theorem dX8_part_22 : decode cX8_part 22 = .ok (.ifCond .ne 7, 3) := by decide +kernel
theorem dX8_part_25 : decode cX8_part 25 = .ok (.iconst 1, 1) := by decide +kernel
theorem dX8_part_26 : decode cX8_part 26 = .ok (.goto 4, 3) := by decide +kernel
theorem dX8_part_29 : decode cX8_part 29 = .ok (.iconst 0, 1) := by decide +kernel
theorem dX8_part_30 : decode cX8_part 30 = .ok (.iastore, 1) := by decide +kernel
theorem dX8_part_31 : decode cX8_part 31 = .ok (.iinc 2 1, 3) := by decide +kernel
theorem dX8_part_34 : decode cX8_part 34 = .ok (.goto (-32), 3) := by decide +kernel
theorem dX8_part_37 : decode cX8_part 37 = .ok (.aload_n 0, 1) := by decide +kernel
theorem dX8_part_38 : decode cX8_part 38 = .ok (.iload_n 1, 1) := by decide +kernel
theorem dX8_part_39 : decode cX8_part 39 = .ok (.invokevirtual 312, 3) := by decide +kernel
theorem dX8_part_42 : decode cX8_part 42 = .ok (.aload_n 0, 1) := by decide +kernel
theorem dX8_part_43 : decode cX8_part 43 = .ok (.iload_n 1, 1) := by decide +kernel
theorem dX8_part_44 : decode cX8_part 44 = .ok (.invokevirtual 291, 3) := by decide +kernel
theorem dX8_part_47 : decode cX8_part 47 = .ok (.aload_n 0, 1) := by decide +kernel
theorem dX8_part_48 : decode cX8_part 48 = .ok (.getfield 228, 3) := by decide +kernel
theorem dX8_part_51 : decode cX8_part 51 = .ok (.imul, 1) := by decide +kernel
theorem dX8_part_52 : decode cX8_part 52 = .ok (.istore_n 2, 1) := by decide +kernel
theorem dX8_part_53 : decode cX8_part 53 = .ok (.iconst 0, 1) := by decide +kernel
theorem dX8_part_54 : decode cX8_part 54 = .ok (.istore_n 3, 1) := by decide +kernel
theorem dX8_part_55 : decode cX8_part 55 = .ok (.iconst 1, 1) := by decide +kernel
theorem dX8_part_56 : decode cX8_part 56 = .ok (.istore 4, 2) := by decide +kernel
theorem dX8_part_58 : decode cX8_part 58 = .ok (.iload 4, 2) := by decide +kernel
theorem dX8_part_60 : decode cX8_part 60 = .ok (.iload_n 2, 1) := by decide +kernel
theorem dX8_part_61 : decode cX8_part 61 = .ok (.if_icmp .ge 52, 3) := by decide +kernel
theorem dX8_part_64 : decode cX8_part 64 = .ok (.aload_n 0, 1) := by decide +kernel
theorem dX8_part_65 : decode cX8_part 65 = .ok (.iload 4, 2) := by decide +kernel
theorem dX8_part_67 : decode cX8_part 67 = .ok (.invokevirtual 315, 3) := by decide +kernel
theorem dX8_part_70 : decode cX8_part 70 = .ok (.aload_n 0, 1) := by decide +kernel
theorem dX8_part_71 : decode cX8_part 71 = .ok (.iload 4, 2) := by decide +kernel
theorem dX8_part_73 : decode cX8_part 73 = .ok (.iload_n 2, 1) := by decide +kernel
theorem dX8_part_74 : decode cX8_part 74 = .ok (.invokevirtual 318, 3) := by decide +kernel
theorem dX8_part_77 : decode cX8_part 77 = .ok (.aload_n 0, 1) := by decide +kernel
theorem dX8_part_78 : decode cX8_part 78 = .ok (.aload_n 0, 1) := by decide +kernel
theorem dX8_part_79 : decode cX8_part 79 = .ok (.iload_n 1, 1) := by decide +kernel
theorem dX8_part_80 : decode cX8_part 80 = .ok (.iload 4, 2) := by decide +kernel
theorem dX8_part_82 : decode cX8_part 82 = .ok (.invokevirtual 321, 3) := by decide +kernel
theorem dX8_part_85 : decode cX8_part 85 = .ok (.ifCond .le 7, 3) := by decide +kernel
theorem dX8_part_88 : decode cX8_part 88 = .ok (.iconst 1, 1) := by decide +kernel
theorem dX8_part_89 : decode cX8_part 89 = .ok (.goto 4, 3) := by decide +kernel
theorem dX8_part_92 : decode cX8_part 92 = .ok (.iconst 0, 1) := by decide +kernel
theorem dX8_part_93 : decode cX8_part 93 = .ok (.invokevirtual 324, 3) := by decide +kernel
theorem dX8_part_96 : decode cX8_part 96 = .ok (.aload_n 0, 1) := by decide +kernel
theorem dX8_part_97 : decode cX8_part 97 = .ok (.invokevirtual 328, 3) := by decide +kernel
theorem dX8_part_100 : decode cX8_part 100 = .ok (.iload_n 3, 1) := by decide +kernel
theorem dX8_part_101 : decode cX8_part 101 = .ok (.aload_n 0, 1) := by decide +kernel
theorem dX8_part_102 : decode cX8_part 102 = .ok (.invokevirtual 331, 3) := by decide +kernel
theorem dX8_part_105 : decode cX8_part 105 = .ok (.iadd, 1) := by decide +kernel
theorem dX8_part_106 : decode cX8_part 106 = .ok (.istore_n 3, 1) := by decide +kernel
theorem dX8_part_107 : decode cX8_part 107 = .ok (.iinc 4 1, 3) := by decide +kernel
theorem dX8_part_110 : decode cX8_part 110 = .ok (.goto (-52), 3) := by decide +kernel
theorem dX8_part_113 : decode cX8_part 113 = .ok (.iconst 0, 1) := by decide +kernel
theorem dX8_part_114 : decode cX8_part 114 = .ok (.istore 4, 2) := by decide +kernel
theorem dX8_part_116 : decode cX8_part 116 = .ok (.iload 4, 2) := by decide +kernel
theorem dX8_part_118 : decode cX8_part 118 = .ok (.aload_n 0, 1) := by decide +kernel
theorem dX8_part_119 : decode cX8_part 119 = .ok (.getfield 219, 3) := by decide +kernel
theorem dX8_part_122 : decode cX8_part 122 = .ok (.if_icmp .ge 60, 3) := by decide +kernel
theorem dX8_part_125 : decode cX8_part 125 = .ok (.aload_n 0, 1) := by decide +kernel
theorem dX8_part_126 : decode cX8_part 126 = .ok (.getfield 88, 3) := by decide +kernel
theorem dX8_part_129 : decode cX8_part 129 = .ok (.iload 4, 2) := by decide +kernel
theorem dX8_part_131 : decode cX8_part 131 = .ok (.aload_n 0, 1) := by decide +kernel
theorem dX8_part_132 : decode cX8_part 132 = .ok (.getfield 103, 3) := by decide +kernel
theorem dX8_part_135 : decode cX8_part 135 = .ok (.iload 4, 2) := by decide +kernel
theorem dX8_part_137 : decode cX8_part 137 = .ok (.iaload, 1) := by decide +kernel
theorem dX8_part_138 : decode cX8_part 138 = .ok (.iconst 1, 1) := by decide +kernel
theorem dX8_part_139 : decode cX8_part 139 = .ok (.if_icmp .ne 29, 3) := by decide +kernel
theorem dX8_part_142 : decode cX8_part 142 = .ok (.aload_n 0, 1) := by decide +kernel
theorem dX8_part_143 : decode cX8_part 143 = .ok (.getfield 88, 3) := by decide +kernel
theorem dX8_part_146 : decode cX8_part 146 = .ok (.iload 4, 2) := by decide +kernel
theorem dX8_part_148 : decode cX8_part 148 = .ok (.iaload, 1) := by decide +kernel
theorem dX8_part_149 : decode cX8_part 149 = .ok (.iconst 1, 1) := by decide +kernel
theorem dX8_part_150 : decode cX8_part 150 = .ok (.if_icmp .eq 14, 3) := by decide +kernel
theorem dX8_part_153 : decode cX8_part 153 = .ok (.aload_n 0, 1) := by decide +kernel
theorem dX8_part_154 : decode cX8_part 154 = .ok (.getfield 88, 3) := by decide +kernel
theorem dX8_part_157 : decode cX8_part 157 = .ok (.iload 4, 2) := by decide +kernel
theorem dX8_part_159 : decode cX8_part 159 = .ok (.iaload, 1) := by decide +kernel
theorem dX8_part_160 : decode cX8_part 160 = .ok (.iconst 2, 1) := by decide +kernel
theorem dX8_part_161 : decode cX8_part 161 = .ok (.if_icmp .ne 7, 3) := by decide +kernel
theorem dX8_part_164 : decode cX8_part 164 = .ok (.iconst 3, 1) := by decide +kernel
theorem dX8_part_165 : decode cX8_part 165 = .ok (.goto 10, 3) := by decide +kernel
theorem dX8_part_168 : decode cX8_part 168 = .ok (.aload_n 0, 1) := by decide +kernel
theorem dX8_part_169 : decode cX8_part 169 = .ok (.getfield 88, 3) := by decide +kernel
theorem dX8_part_172 : decode cX8_part 172 = .ok (.iload 4, 2) := by decide +kernel
theorem dX8_part_174 : decode cX8_part 174 = .ok (.iaload, 1) := by decide +kernel
theorem dX8_part_175 : decode cX8_part 175 = .ok (.iastore, 1) := by decide +kernel
theorem dX8_part_176 : decode cX8_part 176 = .ok (.iinc 4 1, 3) := by decide +kernel
theorem dX8_part_179 : decode cX8_part 179 = .ok (.goto (-63), 3) := by decide +kernel
theorem dX8_part_182 : decode cX8_part 182 = .ok (.iload_n 3, 1) := by decide +kernel
theorem dX8_part_183 : decode cX8_part 183 = .ok (.aload_n 0, 1) := by decide +kernel
theorem dX8_part_184 : decode cX8_part 184 = .ok (.iload_n 1, 1) := by decide +kernel
theorem dX8_part_185 : decode cX8_part 185 = .ok (.invokevirtual 334, 3) := by decide +kernel
theorem dX8_part_188 : decode cX8_part 188 = .ok (.iadd, 1) := by decide +kernel
theorem dX8_part_189 : decode cX8_part 189 = .ok (.istore_n 3, 1) := by decide +kernel
theorem dX8_part_190 : decode cX8_part 190 = .ok (.aload_n 0, 1) := by decide +kernel
theorem dX8_part_191 : decode cX8_part 191 = .ok (.aload_n 0, 1) := by decide +kernel
theorem dX8_part_192 : decode cX8_part 192 = .ok (.getfield 37, 3) := by decide +kernel
theorem dX8_part_195 : decode cX8_part 195 = .ok (.iload_n 1, 1) := by decide +kernel
theorem dX8_part_196 : decode cX8_part 196 = .ok (.iaload, 1) := by decide +kernel
theorem dX8_part_197 : decode cX8_part 197 = .ok (.aload_n 0, 1) := by decide +kernel
theorem dX8_part_198 : decode cX8_part 198 = .ok (.getfield 225, 3) := by decide +kernel
theorem dX8_part_201 : decode cX8_part 201 = .ok (.iadd, 1) := by decide +kernel
theorem dX8_part_202 : decode cX8_part 202 = .ok (.putfield 237, 3) := by decide +kernel
theorem dX8_part_205 : decode cX8_part 205 = .ok (.aload_n 0, 1) := by decide +kernel
theorem dX8_part_206 : decode cX8_part 206 = .ok (.getfield 37, 3) := by decide +kernel
theorem dX8_part_209 : decode cX8_part 209 = .ok (.iload_n 1, 1) := by decide +kernel
theorem dX8_part_210 : decode cX8_part 210 = .ok (.dup2, 1) := by decide +kernel
theorem dX8_part_211 : decode cX8_part 211 = .ok (.iaload, 1) := by decide +kernel
theorem dX8_part_212 : decode cX8_part 212 = .ok (.aload_n 0, 1) := by decide +kernel
theorem dX8_part_213 : decode cX8_part 213 = .ok (.getfield 222, 3) := by decide +kernel
theorem dX8_part_216 : decode cX8_part 216 = .ok (.iadd, 1) := by decide +kernel
theorem dX8_part_217 : decode cX8_part 217 = .ok (.iastore, 1) := by decide +kernel
theorem dX8_part_218 : decode cX8_part 218 = .ok (.aload_n 0, 1) := by decide +kernel
theorem dX8_part_219 : decode cX8_part 219 = .ok (.getfield 40, 3) := by decide +kernel
theorem dX8_part_222 : decode cX8_part 222 = .ok (.iload_n 1, 1) := by decide +kernel
theorem dX8_part_223 : decode cX8_part 223 = .ok (.dup2, 1) := by decide +kernel
theorem dX8_part_224 : decode cX8_part 224 = .ok (.iaload, 1) := by decide +kernel
theorem dX8_part_225 : decode cX8_part 225 = .ok (.iconst 1, 1) := by decide +kernel
theorem dX8_part_226 : decode cX8_part 226 = .ok (.iadd, 1) := by decide +kernel
theorem dX8_part_227 : decode cX8_part 227 = .ok (.iastore, 1) := by decide +kernel
theorem dX8_part_228 : decode cX8_part 228 = .ok (.aload_n 0, 1) := by decide +kernel
theorem dX8_part_229 : decode cX8_part 229 = .ok (.dup, 1) := by decide +kernel
theorem dX8_part_230 : decode cX8_part 230 = .ok (.getfield 243, 3) := by decide +kernel
theorem dX8_part_233 : decode cX8_part 233 = .ok (.iconst 1, 1) := by decide +kernel
theorem dX8_part_234 : decode cX8_part 234 = .ok (.iadd, 1) := by decide +kernel
theorem dX8_part_235 : decode cX8_part 235 = .ok (.putfield 243, 3) := by decide +kernel
theorem dX8_part_238 : decode cX8_part 238 = .ok (.iload_n 3, 1) := by decide +kernel
theorem dX8_part_239 : decode cX8_part 239 = .ok (.ireturn, 1) := by decide +kernel
theorem dX8_run_0 : decode cX8_run 0 = .ok (.iload_n 1, 1) := by decide +kernel
theorem dX8_run_1 : decode cX8_run 1 = .ok (.i2l, 1) := by decide +kernel
theorem dX8_run_2 : decode cX8_run 2 = .ok (.lconst 1, 1) := by decide +kernel
theorem dX8_run_3 : decode cX8_run 3 = .ok (.ldc2_w 337, 3) := by decide +kernel
theorem dX8_run_6 : decode cX8_run 6 = .ok (.invokestatic 161, 3) := by decide +kernel
theorem dX8_run_9 : decode cX8_run 9 = .ok (.ifCond .ne 5, 3) := by decide +kernel
theorem dX8_run_12 : decode cX8_run 12 = .ok (.iconst (-1), 1) := by decide +kernel
theorem dX8_run_13 : decode cX8_run 13 = .ok (.ireturn, 1) := by decide +kernel
theorem dX8_run_14 : decode cX8_run 14 = .ok (.iconst 0, 1) := by decide +kernel
theorem dX8_run_15 : decode cX8_run 15 = .ok (.istore_n 2, 1) := by decide +kernel
theorem dX8_run_16 : decode cX8_run 16 = .ok (.iconst 0, 1) := by decide +kernel
theorem dX8_run_17 : decode cX8_run 17 = .ok (.istore_n 3, 1) := by decide +kernel
theorem dX8_run_18 : decode cX8_run 18 = .ok (.iload_n 3, 1) := by decide +kernel
theorem dX8_run_19 : decode cX8_run 19 = .ok (.iload_n 1, 1) := by decide +kernel
theorem dX8_run_20 : decode cX8_run 20 = .ok (.if_icmp .ge 65, 3) := by decide +kernel
theorem dX8_run_23 : decode cX8_run 23 = .ok (.iconst 0, 1) := by decide +kernel
theorem dX8_run_24 : decode cX8_run 24 = .ok (.istore 4, 2) := by decide +kernel
theorem dX8_run_26 : decode cX8_run 26 = .ok (.iconst 1, 1) := by decide +kernel
theorem dX8_run_27 : decode cX8_run 27 = .ok (.istore 5, 2) := by decide +kernel
theorem dX8_run_29 : decode cX8_run 29 = .ok (.iload 5, 2) := by decide +kernel
theorem dX8_run_31 : decode cX8_run 31 = .ok (.aload_n 0, 1) := by decide +kernel
theorem dX8_run_32 : decode cX8_run 32 = .ok (.getfield 246, 3) := by decide +kernel
theorem dX8_run_35 : decode cX8_run 35 = .ok (.if_icmp .ge 35, 3) := by decide +kernel
theorem dX8_run_38 : decode cX8_run 38 = .ok (.aload_n 0, 1) := by decide +kernel
theorem dX8_run_39 : decode cX8_run 39 = .ok (.getfield 37, 3) := by decide +kernel
theorem dX8_run_42 : decode cX8_run 42 = .ok (.iload 5, 2) := by decide +kernel
theorem dX8_run_44 : decode cX8_run 44 = .ok (.iaload, 1) := by decide +kernel
theorem dX8_run_45 : decode cX8_run 45 = .ok (.aload_n 0, 1) := by decide +kernel
theorem dX8_run_46 : decode cX8_run 46 = .ok (.getfield 37, 3) := by decide +kernel
theorem dX8_run_49 : decode cX8_run 49 = .ok (.iload 4, 2) := by decide +kernel
theorem dX8_run_51 : decode cX8_run 51 = .ok (.iaload, 1) := by decide +kernel
theorem dX8_run_52 : decode cX8_run 52 = .ok (.if_icmp .ge 8, 3) := by decide +kernel
theorem dX8_run_55 : decode cX8_run 55 = .ok (.iload 5, 2) := by decide +kernel
theorem dX8_run_57 : decode cX8_run 57 = .ok (.goto 5, 3) := by decide +kernel
theorem dX8_run_60 : decode cX8_run 60 = .ok (.iload 4, 2) := by decide +kernel
theorem dX8_run_62 : decode cX8_run 62 = .ok (.istore 4, 2) := by decide +kernel
theorem dX8_run_64 : decode cX8_run 64 = .ok (.iinc 5 1, 3) := by decide +kernel
theorem dX8_run_67 : decode cX8_run 67 = .ok (.goto (-38), 3) := by decide +kernel
theorem dX8_run_70 : decode cX8_run 70 = .ok (.iload_n 2, 1) := by decide +kernel
theorem dX8_run_71 : decode cX8_run 71 = .ok (.aload_n 0, 1) := by decide +kernel
theorem dX8_run_72 : decode cX8_run 72 = .ok (.iload 4, 2) := by decide +kernel
theorem dX8_run_74 : decode cX8_run 74 = .ok (.invokevirtual 339, 3) := by decide +kernel
theorem dX8_run_77 : decode cX8_run 77 = .ok (.iadd, 1) := by decide +kernel
theorem dX8_run_78 : decode cX8_run 78 = .ok (.istore_n 2, 1) := by decide +kernel
theorem dX8_run_79 : decode cX8_run 79 = .ok (.iinc 3 1, 3) := by decide +kernel
theorem dX8_run_82 : decode cX8_run 82 = .ok (.goto (-64), 3) := by decide +kernel
theorem dX8_run_85 : decode cX8_run 85 = .ok (.iload_n 2, 1) := by decide +kernel
theorem dX8_run_86 : decode cX8_run 86 = .ok (.ireturn, 1) := by decide +kernel
theorem dX8_air_0 : decode cX8_air 0 = .ok (.aload_n 0, 1) := by decide +kernel
theorem dX8_air_1 : decode cX8_air 1 = .ok (.iload_n 1, 1) := by decide +kernel
theorem dX8_air_2 : decode cX8_air 2 = .ok (.invokevirtual 256, 3) := by decide +kernel
theorem dX8_air_5 : decode cX8_air 5 = .ok (.ifCond .eq 19, 3) := by decide +kernel
theorem dX8_air_8 : decode cX8_air 8 = .ok (.iload_n 2, 1) := by decide +kernel
theorem dX8_air_9 : decode cX8_air 9 = .ok (.i2l, 1) := by decide +kernel
theorem dX8_air_10 : decode cX8_air 10 = .ok (.lconst 0, 1) := by decide +kernel
theorem dX8_air_11 : decode cX8_air 11 = .ok (.aload_n 0, 1) := by decide +kernel
theorem dX8_air_12 : decode cX8_air 12 = .ok (.getfield 225, 3) := by decide +kernel
theorem dX8_air_15 : decode cX8_air 15 = .ok (.iconst 1, 1) := by decide +kernel
theorem dX8_air_16 : decode cX8_air 16 = .ok (.isub, 1) := by decide +kernel
theorem dX8_air_17 : decode cX8_air 17 = .ok (.i2l, 1) := by decide +kernel
theorem dX8_air_18 : decode cX8_air 18 = .ok (.invokestatic 161, 3) := by decide +kernel
theorem dX8_air_21 : decode cX8_air 21 = .ok (.ifCond .ne 5, 3) := by decide +kernel
theorem dX8_air_24 : decode cX8_air 24 = .ok (.iconst (-1), 1) := by decide +kernel
theorem dX8_air_25 : decode cX8_air 25 = .ok (.ireturn, 1) := by decide +kernel
theorem dX8_air_26 : decode cX8_air 26 = .ok (.aload_n 0, 1) := by decide +kernel
theorem dX8_air_27 : decode cX8_air 27 = .ok (.getfield 40, 3) := by decide +kernel
theorem dX8_air_30 : decode cX8_air 30 = .ok (.iload_n 1, 1) := by decide +kernel
theorem dX8_air_31 : decode cX8_air 31 = .ok (.iaload, 1) := by decide +kernel
theorem dX8_air_32 : decode cX8_air 32 = .ok (.ifCond .ne 8, 3) := by decide +kernel
theorem dX8_air_35 : decode cX8_air 35 = .ok (.bipush (-4), 2) := by decide +kernel
theorem dX8_air_37 : decode cX8_air 37 = .ok (.goto 15, 3) := by decide +kernel
theorem dX8_air_40 : decode cX8_air 40 = .ok (.aload_n 0, 1) := by decide +kernel
theorem dX8_air_41 : decode cX8_air 41 = .ok (.getfield 58, 3) := by decide +kernel
theorem dX8_air_44 : decode cX8_air 44 = .ok (.sipush 384, 3) := by decide +kernel
theorem dX8_air_47 : decode cX8_air 47 = .ok (.iload_n 1, 1) := by decide +kernel
theorem dX8_air_48 : decode cX8_air 48 = .ok (.imul, 1) := by decide +kernel
theorem dX8_air_49 : decode cX8_air 49 = .ok (.iload_n 2, 1) := by decide +kernel
theorem dX8_air_50 : decode cX8_air 50 = .ok (.iadd, 1) := by decide +kernel
theorem dX8_air_51 : decode cX8_air 51 = .ok (.iaload, 1) := by decide +kernel
theorem dX8_air_52 : decode cX8_air 52 = .ok (.ireturn, 1) := by decide +kernel

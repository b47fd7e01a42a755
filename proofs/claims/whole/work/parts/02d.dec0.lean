theorem dX2_beginFrame_0 : decode cX2_beginFrame 0 = .ok (.aload_n 0, 1) := by decide +kernel
theorem dX2_beginFrame_1 : decode cX2_beginFrame 1 = .ok (.iconst 0, 1) := by decide +kernel
theorem dX2_beginFrame_2 : decode cX2_beginFrame 2 = .ok (.putfield 48, 3) := by decide +kernel
theorem dX2_beginFrame_5 : decode cX2_beginFrame 5 = .ok (.aload_n 0, 1) := by decide +kernel
theorem dX2_beginFrame_6 : decode cX2_beginFrame 6 = .ok (.aload_n 0, 1) := by decide +kernel
theorem dX2_beginFrame_7 : decode cX2_beginFrame 7 = .ok (.getfield 21, 3) := by decide +kernel
theorem dX2_beginFrame_10 : decode cX2_beginFrame 10 = .ok (.putfield 45, 3) := by decide +kernel
theorem dX2_beginFrame_13 : decode cX2_beginFrame 13 = .ok (.return_, 1) := by decide +kernel
theorem dX2_waitFor_0 : decode cX2_waitFor 0 = .ok (.aload_n 0, 1) := by decide +kernel
theorem dX2_waitFor_1 : decode cX2_waitFor 1 = .ok (.iconst 1, 1) := by decide +kernel
theorem dX2_waitFor_2 : decode cX2_waitFor 2 = .ok (.putfield 42, 3) := by decide +kernel
theorem dX2_waitFor_5 : decode cX2_waitFor 5 = .ok (.aload_n 0, 1) := by decide +kernel
theorem dX2_waitFor_6 : decode cX2_waitFor 6 = .ok (.iload_n 1, 1) := by decide +kernel
theorem dX2_waitFor_7 : decode cX2_waitFor 7 = .ok (.putfield 57, 3) := by decide +kernel
theorem dX2_waitFor_10 : decode cX2_waitFor 10 = .ok (.return_, 1) := by decide +kernel
theorem dX0_draw_0 : decode cX0_draw 0 = .ok (.aload_n 0, 1) := by decide +kernel
theorem dX0_draw_1 : decode cX0_draw 1 = .ok (.sipush 7919, 3) := by decide +kernel
theorem dX0_draw_4 : decode cX0_draw 4 = .ok (.aload_n 0, 1) := by decide +kernel
theorem dX0_draw_5 : decode cX0_draw 5 = .ok (.getfield 101, 3) := by decide +kernel
theorem dX0_draw_8 : decode cX0_draw 8 = .ok (.imul, 1) := by decide +kernel
theorem dX0_draw_9 : decode cX0_draw 9 = .ok (.sipush 12345, 3) := by decide +kernel
theorem dX0_draw_12 : decode cX0_draw 12 = .ok (.iadd, 1) := by decide +kernel
theorem dX0_draw_13 : decode cX0_draw 13 = .ok (.ldc 104, 2) := by decide +kernel
theorem dX0_draw_15 : decode cX0_draw 15 = .ok (.irem, 1) := by decide +kernel
theorem dX0_draw_16 : decode cX0_draw 16 = .ok (.putfield 101, 3) := by decide +kernel
theorem dX0_draw_19 : decode cX0_draw 19 = .ok (.aload_n 1, 1) := by decide +kernel
theorem dX0_draw_20 : decode cX0_draw 20 = .ok (.aload_n 0, 1) := by decide +kernel
theorem dX0_draw_21 : decode cX0_draw 21 = .ok (.getfield 101, 3) := by decide +kernel
theorem dX0_draw_24 : decode cX0_draw 24 = .ok (.iconst 1, 1) := by decide +kernel
theorem dX0_draw_25 : decode cX0_draw 25 = .ok (.aload_n 1, 1) := by decide +kernel
theorem dX0_draw_26 : decode cX0_draw 26 = .ok (.getfield 105, 3) := by decide +kernel
theorem dX0_draw_29 : decode cX0_draw 29 = .ok (.ishl, 1) := by decide +kernel
theorem dX0_draw_30 : decode cX0_draw 30 = .ok (.irem, 1) := by decide +kernel
theorem dX0_draw_31 : decode cX0_draw 31 = .ok (.invokevirtual 108, 3) := by decide +kernel
theorem dX0_draw_34 : decode cX0_draw 34 = .ok (.return_, 1) := by decide +kernel
theorem dX0_begin_0 : decode cX0_begin 0 = .ok (.aload_n 1, 1) := by decide +kernel
theorem dX0_begin_1 : decode cX0_begin 1 = .ok (.getfield 64, 3) := by decide +kernel
theorem dX0_begin_4 : decode cX0_begin 4 = .ok (.ifCond .ne 4, 3) := by decide +kernel
theorem dX0_begin_7 : decode cX0_begin 7 = .ok (.return_, 1) := by decide +kernel
theorem dX0_begin_8 : decode cX0_begin 8 = .ok (.aload_n 1, 1) := by decide +kernel
theorem dX0_begin_9 : decode cX0_begin 9 = .ok (.getfield 40, 3) := by decide +kernel
theorem dX0_begin_12 : decode cX0_begin 12 = .ok (.ifCond .ne 22, 3) := by decide +kernel
theorem dX0_begin_15 : decode cX0_begin 15 = .ok (.aload_n 1, 1) := by decide +kernel
theorem dX0_begin_16 : decode cX0_begin 16 = .ok (.getfield 68, 3) := by decide +kernel
theorem dX0_begin_19 : decode cX0_begin 19 = .ok (.ifCond .le 15, 3) := by decide +kernel
theorem dX0_begin_22 : decode cX0_begin 22 = .ok (.aload_n 1, 1) := by decide +kernel
theorem dX0_begin_23 : decode cX0_begin 23 = .ok (.invokevirtual 71, 3) := by decide +kernel
theorem dX0_begin_26 : decode cX0_begin 26 = .ok (.aload_n 0, 1) := by decide +kernel
theorem dX0_begin_27 : decode cX0_begin 27 = .ok (.aload_n 1, 1) := by decide +kernel
theorem dX0_begin_28 : decode cX0_begin 28 = .ok (.invokevirtual 74, 3) := by decide +kernel
theorem dX0_begin_31 : decode cX0_begin 31 = .ok (.goto 21, 3) := by decide +kernel
theorem dX0_begin_34 : decode cX0_begin 34 = .ok (.aload_n 1, 1) := by decide +kernel
theorem dX0_begin_35 : decode cX0_begin 35 = .ok (.getfield 40, 3) := by decide +kernel
theorem dX0_begin_38 : decode cX0_begin 38 = .ok (.iconst 3, 1) := by decide +kernel
theorem dX0_begin_39 : decode cX0_begin 39 = .ok (.if_icmp .ne 13, 3) := by decide +kernel
theorem dX0_begin_42 : decode cX0_begin 42 = .ok (.iload_n 2, 1) := by decide +kernel
theorem dX0_begin_43 : decode cX0_begin 43 = .ok (.iconst 1, 1) := by decide +kernel
theorem dX0_begin_44 : decode cX0_begin 44 = .ok (.if_icmp .ne 8, 3) := by decide +kernel
theorem dX0_begin_47 : decode cX0_begin 47 = .ok (.aload_n 0, 1) := by decide +kernel
theorem dX0_begin_48 : decode cX0_begin 48 = .ok (.aload_n 1, 1) := by decide +kernel
theorem dX0_begin_49 : decode cX0_begin 49 = .ok (.invokevirtual 74, 3) := by decide +kernel
theorem dX0_begin_52 : decode cX0_begin 52 = .ok (.return_, 1) := by decide +kernel
theorem dX2_lookOrHold_0 : decode cX2_lookOrHold 0 = .ok (.aload_n 0, 1) := by decide +kernel
theorem dX2_lookOrHold_1 : decode cX2_lookOrHold 1 = .ok (.iload_n 1, 1) := by decide +kernel
theorem dX2_lookOrHold_2 : decode cX2_lookOrHold 2 = .ok (.aload_n 0, 1) := by decide +kernel
theorem dX2_lookOrHold_3 : decode cX2_lookOrHold 3 = .ok (.getfield 18, 3) := by decide +kernel
theorem dX2_lookOrHold_6 : decode cX2_lookOrHold 6 = .ok (.iadd, 1) := by decide +kernel
theorem dX2_lookOrHold_7 : decode cX2_lookOrHold 7 = .ok (.iconst 2, 1) := by decide +kernel
theorem dX2_lookOrHold_8 : decode cX2_lookOrHold 8 = .ok (.iadd, 1) := by decide +kernel
theorem dX2_lookOrHold_9 : decode cX2_lookOrHold 9 = .ok (.iload_n 2, 1) := by decide +kernel
theorem dX2_lookOrHold_10 : decode cX2_lookOrHold 10 = .ok (.if_icmp .gt 7, 3) := by decide +kernel
theorem dX2_lookOrHold_13 : decode cX2_lookOrHold 13 = .ok (.iconst 2, 1) := by decide +kernel
theorem dX2_lookOrHold_14 : decode cX2_lookOrHold 14 = .ok (.goto 4, 3) := by decide +kernel
theorem dX2_lookOrHold_17 : decode cX2_lookOrHold 17 = .ok (.iconst 3, 1) := by decide +kernel
theorem dX2_lookOrHold_18 : decode cX2_lookOrHold 18 = .ok (.putfield 42, 3) := by decide +kernel
theorem dX2_lookOrHold_21 : decode cX2_lookOrHold 21 = .ok (.aload_n 0, 1) := by decide +kernel
theorem dX2_lookOrHold_22 : decode cX2_lookOrHold 22 = .ok (.iconst 0, 1) := by decide +kernel
theorem dX2_lookOrHold_23 : decode cX2_lookOrHold 23 = .ok (.putfield 66, 3) := by decide +kernel
theorem dX2_lookOrHold_26 : decode cX2_lookOrHold 26 = .ok (.return_, 1) := by decide +kernel
theorem dX2_startSending_0 : decode cX2_startSending 0 = .ok (.aload_n 0, 1) := by decide +kernel
theorem dX2_startSending_1 : decode cX2_startSending 1 = .ok (.iconst 4, 1) := by decide +kernel
theorem dX2_startSending_2 : decode cX2_startSending 2 = .ok (.putfield 42, 3) := by decide +kernel
theorem dX2_startSending_5 : decode cX2_startSending 5 = .ok (.aload_n 0, 1) := by decide +kernel
theorem dX2_startSending_6 : decode cX2_startSending 6 = .ok (.aload_n 0, 1) := by decide +kernel
theorem dX2_startSending_7 : decode cX2_startSending 7 = .ok (.getfield 18, 3) := by decide +kernel
theorem dX2_startSending_10 : decode cX2_startSending 10 = .ok (.putfield 69, 3) := by decide +kernel
theorem dX2_startSending_13 : decode cX2_startSending 13 = .ok (.aload_n 0, 1) := by decide +kernel
theorem dX2_startSending_14 : decode cX2_startSending 14 = .ok (.iconst 0, 1) := by decide +kernel
theorem dX2_startSending_15 : decode cX2_startSending 15 = .ok (.putfield 72, 3) := by decide +kernel
theorem dX2_startSending_18 : decode cX2_startSending 18 = .ok (.return_, 1) := by decide +kernel
theorem dX0_takeUp_0 : decode cX0_takeUp 0 = .ok (.iconst 0, 1) := by decide +kernel
theorem dX0_takeUp_1 : decode cX0_takeUp 1 = .ok (.istore_n 3, 1) := by decide +kernel
theorem dX0_takeUp_2 : decode cX0_takeUp 2 = .ok (.aload_n 0, 1) := by decide +kernel
theorem dX0_takeUp_3 : decode cX0_takeUp 3 = .ok (.iconst 0, 1) := by decide +kernel
theorem dX0_takeUp_4 : decode cX0_takeUp 4 = .ok (.putfield 32, 3) := by decide +kernel
theorem dX0_takeUp_7 : decode cX0_takeUp 7 = .ok (.aload_n 0, 1) := by decide +kernel
theorem dX0_takeUp_8 : decode cX0_takeUp 8 = .ok (.getfield 9, 3) := by decide +kernel
theorem dX0_takeUp_11 : decode cX0_takeUp 11 = .ok (.astore 4, 2) := by decide +kernel
theorem dX0_takeUp_13 : decode cX0_takeUp 13 = .ok (.aload 4, 2) := by decide +kernel
theorem dX0_takeUp_15 : decode cX0_takeUp 15 = .ok (.arraylength, 1) := by decide +kernel
theorem dX0_takeUp_16 : decode cX0_takeUp 16 = .ok (.istore 5, 2) := by decide +kernel
theorem dX0_takeUp_18 : decode cX0_takeUp 18 = .ok (.iconst 0, 1) := by decide +kernel
theorem dX0_takeUp_19 : decode cX0_takeUp 19 = .ok (.istore 6, 2) := by decide +kernel
theorem dX0_takeUp_21 : decode cX0_takeUp 21 = .ok (.iload 6, 2) := by decide +kernel
theorem dX0_takeUp_23 : decode cX0_takeUp 23 = .ok (.iload 5, 2) := by decide +kernel
theorem dX0_takeUp_25 : decode cX0_takeUp 25 = .ok (.if_icmp .ge 125, 3) := by decide +kernel
theorem dX0_takeUp_28 : decode cX0_takeUp 28 = .ok (.aload 4, 2) := by decide +kernel
theorem dX0_takeUp_30 : decode cX0_takeUp 30 = .ok (.iload 6, 2) := by decide +kernel
theorem dX0_takeUp_32 : decode cX0_takeUp 32 = .ok (.aaload, 1) := by decide +kernel
theorem dX0_takeUp_33 : decode cX0_takeUp 33 = .ok (.astore 7, 2) := by decide +kernel
theorem dX0_takeUp_35 : decode cX0_takeUp 35 = .ok (.aload_n 0, 1) := by decide +kernel
theorem dX0_takeUp_36 : decode cX0_takeUp 36 = .ok (.aload 7, 2) := by decide +kernel
theorem dX0_takeUp_38 : decode cX0_takeUp 38 = .ok (.iload_n 1, 1) := by decide +kernel
theorem dX0_takeUp_39 : decode cX0_takeUp 39 = .ok (.invokevirtual 36, 3) := by decide +kernel
theorem dX0_takeUp_42 : decode cX0_takeUp 42 = .ok (.aload 7, 2) := by decide +kernel
theorem dX0_takeUp_44 : decode cX0_takeUp 44 = .ok (.getfield 40, 3) := by decide +kernel
theorem dX0_takeUp_47 : decode cX0_takeUp 47 = .ok (.iconst 1, 1) := by decide +kernel
theorem dX0_takeUp_48 : decode cX0_takeUp 48 = .ok (.if_icmp .ne 18, 3) := by decide +kernel
theorem dX0_takeUp_51 : decode cX0_takeUp 51 = .ok (.aload 7, 2) := by decide +kernel
theorem dX0_takeUp_53 : decode cX0_takeUp 53 = .ok (.getfield 45, 3) := by decide +kernel
theorem dX0_takeUp_56 : decode cX0_takeUp 56 = .ok (.ifCond .ne 10, 3) := by decide +kernel
theorem dX0_takeUp_59 : decode cX0_takeUp 59 = .ok (.aload 7, 2) := by decide +kernel
theorem dX0_takeUp_61 : decode cX0_takeUp 61 = .ok (.iload_n 1, 1) := by decide +kernel
theorem dX0_takeUp_62 : decode cX0_takeUp 62 = .ok (.iload_n 2, 1) := by decide +kernel
theorem dX0_takeUp_63 : decode cX0_takeUp 63 = .ok (.invokevirtual 48, 3) := by decide +kernel
theorem dX0_takeUp_66 : decode cX0_takeUp 66 = .ok (.aload 7, 2) := by decide +kernel
theorem dX0_takeUp_68 : decode cX0_takeUp 68 = .ok (.getfield 40, 3) := by decide +kernel
theorem dX0_takeUp_71 : decode cX0_takeUp 71 = .ok (.iconst 2, 1) := by decide +kernel
theorem dX0_takeUp_72 : decode cX0_takeUp 72 = .ok (.if_icmp .ne 17, 3) := by decide +kernel
theorem dX0_takeUp_75 : decode cX0_takeUp 75 = .ok (.aload 7, 2) := by decide +kernel
theorem dX0_takeUp_77 : decode cX0_takeUp 77 = .ok (.getfield 52, 3) := by decide +kernel
theorem dX0_takeUp_80 : decode cX0_takeUp 80 = .ok (.iconst 2, 1) := by decide +kernel
theorem dX0_takeUp_81 : decode cX0_takeUp 81 = .ok (.if_icmp .lt 8, 3) := by decide +kernel
theorem dX0_takeUp_84 : decode cX0_takeUp 84 = .ok (.aload 7, 2) := by decide +kernel
theorem dX0_takeUp_86 : decode cX0_takeUp 86 = .ok (.invokevirtual 55, 3) := by decide +kernel
theorem dX0_takeUp_89 : decode cX0_takeUp 89 = .ok (.aload 7, 2) := by decide +kernel
theorem dX0_takeUp_91 : decode cX0_takeUp 91 = .ok (.getfield 40, 3) := by decide +kernel
theorem dX0_takeUp_94 : decode cX0_takeUp 94 = .ok (.iconst 4, 1) := by decide +kernel
theorem dX0_takeUp_95 : decode cX0_takeUp 95 = .ok (.if_icmp .ne 22, 3) := by decide +kernel
theorem dX0_takeUp_98 : decode cX0_takeUp 98 = .ok (.aload_n 0, 1) := by decide +kernel
theorem dX0_takeUp_99 : decode cX0_takeUp 99 = .ok (.dup, 1) := by decide +kernel
theorem dX0_takeUp_100 : decode cX0_takeUp 100 = .ok (.getfield 32, 3) := by decide +kernel
theorem dX0_takeUp_103 : decode cX0_takeUp 103 = .ok (.iconst 1, 1) := by decide +kernel
theorem dX0_takeUp_104 : decode cX0_takeUp 104 = .ok (.iadd, 1) := by decide +kernel
theorem dX0_takeUp_105 : decode cX0_takeUp 105 = .ok (.putfield 32, 3) := by decide +kernel
theorem dX0_takeUp_108 : decode cX0_takeUp 108 = .ok (.aload_n 0, 1) := by decide +kernel
theorem dX0_takeUp_109 : decode cX0_takeUp 109 = .ok (.aload 7, 2) := by decide +kernel
theorem dX0_takeUp_111 : decode cX0_takeUp 111 = .ok (.getfield 58, 3) := by decide +kernel
theorem dX0_takeUp_114 : decode cX0_takeUp 114 = .ok (.putfield 61, 3) := by decide +kernel
theorem dX0_takeUp_117 : decode cX0_takeUp 117 = .ok (.iload_n 3, 1) := by decide +kernel
theorem dX0_takeUp_118 : decode cX0_takeUp 118 = .ok (.ifCond .ne 20, 3) := by decide +kernel
theorem dX0_takeUp_121 : decode cX0_takeUp 121 = .ok (.aload 7, 2) := by decide +kernel
theorem dX0_takeUp_123 : decode cX0_takeUp 123 = .ok (.getfield 40, 3) := by decide +kernel
theorem dX0_takeUp_126 : decode cX0_takeUp 126 = .ok (.ifCond .eq 16, 3) := by decide +kernel
theorem dX0_takeUp_129 : decode cX0_takeUp 129 = .ok (.aload 7, 2) := by decide +kernel
theorem dX0_takeUp_131 : decode cX0_takeUp 131 = .ok (.getfield 40, 3) := by decide +kernel
theorem dX0_takeUp_134 : decode cX0_takeUp 134 = .ok (.iconst 3, 1) := by decide +kernel
theorem dX0_takeUp_135 : decode cX0_takeUp 135 = .ok (.if_icmp .eq 7, 3) := by decide +kernel
theorem dX0_takeUp_138 : decode cX0_takeUp 138 = .ok (.iconst 1, 1) := by decide +kernel
theorem dX0_takeUp_139 : decode cX0_takeUp 139 = .ok (.goto 4, 3) := by decide +kernel
theorem dX0_takeUp_142 : decode cX0_takeUp 142 = .ok (.iconst 0, 1) := by decide +kernel
theorem dX0_takeUp_143 : decode cX0_takeUp 143 = .ok (.istore_n 3, 1) := by decide +kernel
theorem dX0_takeUp_144 : decode cX0_takeUp 144 = .ok (.iinc 6 1, 3) := by decide +kernel
theorem dX0_takeUp_147 : decode cX0_takeUp 147 = .ok (.goto (-126), 3) := by decide +kernel
theorem dX0_takeUp_150 : decode cX0_takeUp 150 = .ok (.iload_n 3, 1) := by decide +kernel
theorem dX0_takeUp_151 : decode cX0_takeUp 151 = .ok (.ireturn, 1) := by decide +kernel
theorem dX0_airNow_0 : decode cX0_airNow 0 = .ok (.aload_n 0, 1) := by decide +kernel
theorem dX0_airNow_1 : decode cX0_airNow 1 = .ok (.getfield 32, 3) := by decide +kernel
theorem dX0_airNow_4 : decode cX0_airNow 4 = .ok (.iconst 1, 1) := by decide +kernel
theorem dX0_airNow_5 : decode cX0_airNow 5 = .ok (.if_icmp .le 5, 3) := by decide +kernel
theorem dX0_airNow_8 : decode cX0_airNow 8 = .ok (.iconst 2, 1) := by decide +kernel
theorem dX0_airNow_9 : decode cX0_airNow 9 = .ok (.ireturn, 1) := by decide +kernel
theorem dX0_airNow_10 : decode cX0_airNow 10 = .ok (.aload_n 0, 1) := by decide +kernel
theorem dX0_airNow_11 : decode cX0_airNow 11 = .ok (.getfield 32, 3) := by decide +kernel
theorem dX0_airNow_14 : decode cX0_airNow 14 = .ok (.iconst 1, 1) := by decide +kernel
theorem dX0_airNow_15 : decode cX0_airNow 15 = .ok (.if_icmp .ne 13, 3) := by decide +kernel
theorem dX0_airNow_18 : decode cX0_airNow 18 = .ok (.bipush 10, 2) := by decide +kernel
theorem dX0_airNow_20 : decode cX0_airNow 20 = .ok (.aload_n 0, 1) := by decide +kernel
theorem dX0_airNow_21 : decode cX0_airNow 21 = .ok (.getfield 61, 3) := by decide +kernel
theorem dX0_airNow_24 : decode cX0_airNow 24 = .ok (.iadd, 1) := by decide +kernel
theorem dX0_airNow_25 : decode cX0_airNow 25 = .ok (.goto 4, 3) := by decide +kernel
theorem dX0_airNow_28 : decode cX0_airNow 28 = .ok (.iconst 0, 1) := by decide +kernel
theorem dX0_airNow_29 : decode cX0_airNow 29 = .ok (.ireturn, 1) := by decide +kernel
theorem dX2_endFrame_0 : decode cX2_endFrame 0 = .ok (.aload_n 0, 1) := by decide +kernel
theorem dX2_endFrame_1 : decode cX2_endFrame 1 = .ok (.dup, 1) := by decide +kernel
theorem dX2_endFrame_2 : decode cX2_endFrame 2 = .ok (.getfield 24, 3) := by decide +kernel
theorem dX2_endFrame_5 : decode cX2_endFrame 5 = .ok (.iconst 1, 1) := by decide +kernel
theorem dX2_endFrame_6 : decode cX2_endFrame 6 = .ok (.isub, 1) := by decide +kernel
theorem dX2_endFrame_7 : decode cX2_endFrame 7 = .ok (.putfield 24, 3) := by decide +kernel
theorem dX2_endFrame_10 : decode cX2_endFrame 10 = .ok (.aload_n 0, 1) := by decide +kernel
theorem dX2_endFrame_11 : decode cX2_endFrame 11 = .ok (.iconst 0, 1) := by decide +kernel
theorem dX2_endFrame_12 : decode cX2_endFrame 12 = .ok (.putfield 42, 3) := by decide +kernel
theorem dX2_endFrame_15 : decode cX2_endFrame 15 = .ok (.aload_n 0, 1) := by decide +kernel
theorem dX2_endFrame_16 : decode cX2_endFrame 16 = .ok (.iconst 0, 1) := by decide +kernel
theorem dX2_endFrame_17 : decode cX2_endFrame 17 = .ok (.putfield 51, 3) := by decide +kernel
theorem dX2_endFrame_20 : decode cX2_endFrame 20 = .ok (.return_, 1) := by decide +kernel
theorem dX2_giveUp_0 : decode cX2_giveUp 0 = .ok (.aload_n 0, 1) := by decide +kernel
theorem dX2_giveUp_1 : decode cX2_giveUp 1 = .ok (.dup, 1) := by decide +kernel
theorem dX2_giveUp_2 : decode cX2_giveUp 2 = .ok (.getfield 33, 3) := by decide +kernel
theorem dX2_giveUp_5 : decode cX2_giveUp 5 = .ok (.iconst 1, 1) := by decide +kernel
theorem dX2_giveUp_6 : decode cX2_giveUp 6 = .ok (.iadd, 1) := by decide +kernel
theorem dX2_giveUp_7 : decode cX2_giveUp 7 = .ok (.putfield 33, 3) := by decide +kernel
theorem dX2_giveUp_10 : decode cX2_giveUp 10 = .ok (.aload_n 0, 1) := by decide +kernel
theorem dX2_giveUp_11 : decode cX2_giveUp 11 = .ok (.invokevirtual 82, 3) := by decide +kernel
theorem dX2_giveUp_14 : decode cX2_giveUp 14 = .ok (.return_, 1) := by decide +kernel
theorem dX2_foundBusy_0 : decode cX2_foundBusy 0 = .ok (.aload_n 0, 1) := by decide +kernel
theorem dX2_foundBusy_1 : decode cX2_foundBusy 1 = .ok (.dup, 1) := by decide +kernel
theorem dX2_foundBusy_2 : decode cX2_foundBusy 2 = .ok (.getfield 48, 3) := by decide +kernel
theorem dX2_foundBusy_5 : decode cX2_foundBusy 5 = .ok (.iconst 1, 1) := by decide +kernel
theorem dX2_foundBusy_6 : decode cX2_foundBusy 6 = .ok (.iadd, 1) := by decide +kernel
theorem dX2_foundBusy_7 : decode cX2_foundBusy 7 = .ok (.putfield 48, 3) := by decide +kernel
theorem dX2_foundBusy_10 : decode cX2_foundBusy 10 = .ok (.aload_n 0, 1) := by decide +kernel
theorem dX2_foundBusy_11 : decode cX2_foundBusy 11 = .ok (.iconst 5, 1) := by decide +kernel
theorem dX2_foundBusy_12 : decode cX2_foundBusy 12 = .ok (.aload_n 0, 1) := by decide +kernel
theorem dX2_foundBusy_13 : decode cX2_foundBusy 13 = .ok (.getfield 45, 3) := by decide +kernel
theorem dX2_foundBusy_16 : decode cX2_foundBusy 16 = .ok (.iconst 1, 1) := by decide +kernel
theorem dX2_foundBusy_17 : decode cX2_foundBusy 17 = .ok (.iadd, 1) := by decide +kernel
theorem dX2_foundBusy_18 : decode cX2_foundBusy 18 = .ok (.invokestatic 76, 3) := by decide +kernel
theorem dX2_foundBusy_21 : decode cX2_foundBusy 21 = .ok (.putfield 45, 3) := by decide +kernel
theorem dX2_foundBusy_24 : decode cX2_foundBusy 24 = .ok (.aload_n 0, 1) := by decide +kernel
theorem dX2_foundBusy_25 : decode cX2_foundBusy 25 = .ok (.getfield 48, 3) := by decide +kernel
theorem dX2_foundBusy_28 : decode cX2_foundBusy 28 = .ok (.iconst 5, 1) := by decide +kernel
theorem dX2_foundBusy_29 : decode cX2_foundBusy 29 = .ok (.if_icmp .lt 9, 3) := by decide +kernel
theorem dX2_foundBusy_32 : decode cX2_foundBusy 32 = .ok (.aload_n 0, 1) := by decide +kernel
theorem dX2_foundBusy_33 : decode cX2_foundBusy 33 = .ok (.invokevirtual 79, 3) := by decide +kernel
theorem dX2_foundBusy_36 : decode cX2_foundBusy 36 = .ok (.iconst 0, 1) := by decide +kernel
theorem dX2_foundBusy_37 : decode cX2_foundBusy 37 = .ok (.ireturn, 1) := by decide +kernel
theorem dX2_foundBusy_38 : decode cX2_foundBusy 38 = .ok (.iconst 1, 1) := by decide +kernel
theorem dX2_foundBusy_39 : decode cX2_foundBusy 39 = .ok (.ireturn, 1) := by decide +kernel
theorem dX2_waitLess_0 : decode cX2_waitLess 0 = .ok (.aload_n 0, 1) := by decide +kernel
theorem dX2_waitLess_1 : decode cX2_waitLess 1 = .ok (.iconst 0, 1) := by decide +kernel
theorem dX2_waitLess_2 : decode cX2_waitLess 2 = .ok (.aload_n 0, 1) := by decide +kernel
theorem dX2_waitLess_3 : decode cX2_waitLess 3 = .ok (.getfield 57, 3) := by decide +kernel
theorem dX2_waitLess_6 : decode cX2_waitLess 6 = .ok (.iconst 1, 1) := by decide +kernel
theorem dX2_waitLess_7 : decode cX2_waitLess 7 = .ok (.isub, 1) := by decide +kernel
theorem dX2_waitLess_8 : decode cX2_waitLess 8 = .ok (.invokestatic 60, 3) := by decide +kernel
theorem dX2_waitLess_11 : decode cX2_waitLess 11 = .ok (.putfield 57, 3) := by decide +kernel
theorem dX2_waitLess_14 : decode cX2_waitLess 14 = .ok (.return_, 1) := by decide +kernel
theorem dX0_listenAndWait_0 : decode cX0_listenAndWait 0 = .ok (.aload_n 0, 1) := by decide +kernel
theorem dX0_listenAndWait_1 : decode cX0_listenAndWait 1 = .ok (.getfield 9, 3) := by decide +kernel
theorem dX0_listenAndWait_4 : decode cX0_listenAndWait 4 = .ok (.astore_n 1, 1) := by decide +kernel
theorem dX0_listenAndWait_5 : decode cX0_listenAndWait 5 = .ok (.aload_n 1, 1) := by decide +kernel
theorem dX0_listenAndWait_6 : decode cX0_listenAndWait 6 = .ok (.arraylength, 1) := by decide +kernel
theorem dX0_listenAndWait_7 : decode cX0_listenAndWait 7 = .ok (.istore_n 2, 1) := by decide +kernel
theorem dX0_listenAndWait_8 : decode cX0_listenAndWait 8 = .ok (.iconst 0, 1) := by decide +kernel
theorem dX0_listenAndWait_9 : decode cX0_listenAndWait 9 = .ok (.istore_n 3, 1) := by decide +kernel
theorem dX0_listenAndWait_10 : decode cX0_listenAndWait 10 = .ok (.iload_n 3, 1) := by decide +kernel
theorem dX0_listenAndWait_11 : decode cX0_listenAndWait 11 = .ok (.iload_n 2, 1) := by decide +kernel
theorem dX0_listenAndWait_12 : decode cX0_listenAndWait 12 = .ok (.if_icmp .ge 122, 3) := by decide +kernel
theorem dX0_listenAndWait_15 : decode cX0_listenAndWait 15 = .ok (.aload_n 1, 1) := by decide +kernel
theorem dX0_listenAndWait_16 : decode cX0_listenAndWait 16 = .ok (.iload_n 3, 1) := by decide +kernel
theorem dX0_listenAndWait_17 : decode cX0_listenAndWait 17 = .ok (.aaload, 1) := by decide +kernel
theorem dX0_listenAndWait_18 : decode cX0_listenAndWait 18 = .ok (.astore 4, 2) := by decide +kernel
theorem dX0_listenAndWait_20 : decode cX0_listenAndWait 20 = .ok (.aload 4, 2) := by decide +kernel
theorem dX0_listenAndWait_22 : decode cX0_listenAndWait 22 = .ok (.getfield 40, 3) := by decide +kernel
theorem dX0_listenAndWait_25 : decode cX0_listenAndWait 25 = .ok (.iconst 4, 1) := by decide +kernel
theorem dX0_listenAndWait_26 : decode cX0_listenAndWait 26 = .ok (.if_icmp .ne 32, 3) := by decide +kernel
theorem dX0_listenAndWait_29 : decode cX0_listenAndWait 29 = .ok (.aload 4, 2) := by decide +kernel
theorem dX0_listenAndWait_31 : decode cX0_listenAndWait 31 = .ok (.aload 4, 2) := by decide +kernel
theorem dX0_listenAndWait_33 : decode cX0_listenAndWait 33 = .ok (.getfield 78, 3) := by decide +kernel
theorem dX0_listenAndWait_36 : decode cX0_listenAndWait 36 = .ok (.ifCond .ne 11, 3) := by decide +kernel
theorem dX0_listenAndWait_39 : decode cX0_listenAndWait 39 = .ok (.aload_n 0, 1) := by decide +kernel
theorem dX0_listenAndWait_40 : decode cX0_listenAndWait 40 = .ok (.getfield 32, 3) := by decide +kernel
theorem dX0_listenAndWait_43 : decode cX0_listenAndWait 43 = .ok (.iconst 1, 1) := by decide +kernel
theorem dX0_listenAndWait_44 : decode cX0_listenAndWait 44 = .ok (.if_icmp .le 7, 3) := by decide +kernel
theorem dX0_listenAndWait_47 : decode cX0_listenAndWait 47 = .ok (.iconst 1, 1) := by decide +kernel
theorem dX0_listenAndWait_48 : decode cX0_listenAndWait 48 = .ok (.goto 4, 3) := by decide +kernel
theorem dX0_listenAndWait_51 : decode cX0_listenAndWait 51 = .ok (.iconst 0, 1) := by decide +kernel
theorem dX0_listenAndWait_52 : decode cX0_listenAndWait 52 = .ok (.putfield 78, 3) := by decide +kernel
theorem dX0_listenAndWait_55 : decode cX0_listenAndWait 55 = .ok (.goto 73, 3) := by decide +kernel
theorem dX0_listenAndWait_58 : decode cX0_listenAndWait 58 = .ok (.aload 4, 2) := by decide +kernel
theorem dX0_listenAndWait_60 : decode cX0_listenAndWait 60 = .ok (.getfield 40, 3) := by decide +kernel
theorem dX0_listenAndWait_63 : decode cX0_listenAndWait 63 = .ok (.iconst 2, 1) := by decide +kernel
theorem dX0_listenAndWait_64 : decode cX0_listenAndWait 64 = .ok (.if_icmp .ne 24, 3) := by decide +kernel
theorem dX0_listenAndWait_67 : decode cX0_listenAndWait 67 = .ok (.aload_n 0, 1) := by decide +kernel
theorem dX0_listenAndWait_68 : decode cX0_listenAndWait 68 = .ok (.getfield 32, 3) := by decide +kernel
theorem dX0_listenAndWait_71 : decode cX0_listenAndWait 71 = .ok (.ifCond .ne 17, 3) := by decide +kernel
theorem dX0_listenAndWait_74 : decode cX0_listenAndWait 74 = .ok (.aload 4, 2) := by decide +kernel
theorem dX0_listenAndWait_76 : decode cX0_listenAndWait 76 = .ok (.dup, 1) := by decide +kernel
theorem dX0_listenAndWait_77 : decode cX0_listenAndWait 77 = .ok (.getfield 52, 3) := by decide +kernel
theorem dX0_listenAndWait_80 : decode cX0_listenAndWait 80 = .ok (.iconst 1, 1) := by decide +kernel
theorem dX0_listenAndWait_81 : decode cX0_listenAndWait 81 = .ok (.iadd, 1) := by decide +kernel
theorem dX0_listenAndWait_82 : decode cX0_listenAndWait 82 = .ok (.putfield 52, 3) := by decide +kernel
theorem dX0_listenAndWait_85 : decode cX0_listenAndWait 85 = .ok (.goto 43, 3) := by decide +kernel
theorem dX0_listenAndWait_88 : decode cX0_listenAndWait 88 = .ok (.aload 4, 2) := by decide +kernel
theorem dX0_listenAndWait_90 : decode cX0_listenAndWait 90 = .ok (.getfield 40, 3) := by decide +kernel
theorem dX0_listenAndWait_93 : decode cX0_listenAndWait 93 = .ok (.iconst 2, 1) := by decide +kernel
theorem dX0_listenAndWait_94 : decode cX0_listenAndWait 94 = .ok (.if_icmp .ne 20, 3) := by decide +kernel
theorem dX0_listenAndWait_97 : decode cX0_listenAndWait 97 = .ok (.aload 4, 2) := by decide +kernel
theorem dX0_listenAndWait_99 : decode cX0_listenAndWait 99 = .ok (.invokevirtual 81, 3) := by decide +kernel
theorem dX0_listenAndWait_102 : decode cX0_listenAndWait 102 = .ok (.ifCond .eq 26, 3) := by decide +kernel
theorem dX0_listenAndWait_105 : decode cX0_listenAndWait 105 = .ok (.aload_n 0, 1) := by decide +kernel
theorem dX0_listenAndWait_106 : decode cX0_listenAndWait 106 = .ok (.aload 4, 2) := by decide +kernel
theorem dX0_listenAndWait_108 : decode cX0_listenAndWait 108 = .ok (.invokevirtual 74, 3) := by decide +kernel
theorem dX0_listenAndWait_111 : decode cX0_listenAndWait 111 = .ok (.goto 17, 3) := by decide +kernel
theorem dX0_listenAndWait_114 : decode cX0_listenAndWait 114 = .ok (.aload 4, 2) := by decide +kernel
theorem dX0_listenAndWait_116 : decode cX0_listenAndWait 116 = .ok (.getfield 40, 3) := by decide +kernel
theorem dX0_listenAndWait_119 : decode cX0_listenAndWait 119 = .ok (.iconst 1, 1) := by decide +kernel
theorem dX0_listenAndWait_120 : decode cX0_listenAndWait 120 = .ok (.if_icmp .ne 8, 3) := by decide +kernel
theorem dX0_listenAndWait_123 : decode cX0_listenAndWait 123 = .ok (.aload 4, 2) := by decide +kernel
theorem dX0_listenAndWait_125 : decode cX0_listenAndWait 125 = .ok (.invokevirtual 85, 3) := by decide +kernel
theorem dX0_listenAndWait_128 : decode cX0_listenAndWait 128 = .ok (.iinc 3 1, 3) := by decide +kernel
theorem dX0_listenAndWait_131 : decode cX0_listenAndWait 131 = .ok (.goto (-121), 3) := by decide +kernel
theorem dX0_listenAndWait_134 : decode cX0_listenAndWait 134 = .ok (.return_, 1) := by decide +kernel
theorem dX2_frameSent_0 : decode cX2_frameSent 0 = .ok (.aload_n 0, 1) := by decide +kernel
theorem dX2_frameSent_1 : decode cX2_frameSent 1 = .ok (.dup, 1) := by decide +kernel
theorem dX2_frameSent_2 : decode cX2_frameSent 2 = .ok (.getfield 30, 3) := by decide +kernel
theorem dX2_frameSent_5 : decode cX2_frameSent 5 = .ok (.iconst 1, 1) := by decide +kernel
theorem dX2_frameSent_6 : decode cX2_frameSent 6 = .ok (.iadd, 1) := by decide +kernel
theorem dX2_frameSent_7 : decode cX2_frameSent 7 = .ok (.putfield 30, 3) := by decide +kernel
theorem dX2_frameSent_10 : decode cX2_frameSent 10 = .ok (.aload_n 0, 1) := by decide +kernel
theorem dX2_frameSent_11 : decode cX2_frameSent 11 = .ok (.invokevirtual 82, 3) := by decide +kernel
theorem dX2_frameSent_14 : decode cX2_frameSent 14 = .ok (.return_, 1) := by decide +kernel
theorem dX2_foundHurt_0 : decode cX2_foundHurt 0 = .ok (.aload_n 0, 1) := by decide +kernel
theorem dX2_foundHurt_1 : decode cX2_foundHurt 1 = .ok (.dup, 1) := by decide +kernel
theorem dX2_foundHurt_2 : decode cX2_foundHurt 2 = .ok (.getfield 54, 3) := by decide +kernel
theorem dX2_foundHurt_5 : decode cX2_foundHurt 5 = .ok (.iconst 1, 1) := by decide +kernel
theorem dX2_foundHurt_6 : decode cX2_foundHurt 6 = .ok (.iadd, 1) := by decide +kernel
theorem dX2_foundHurt_7 : decode cX2_foundHurt 7 = .ok (.putfield 54, 3) := by decide +kernel
theorem dX2_foundHurt_10 : decode cX2_foundHurt 10 = .ok (.aload_n 0, 1) := by decide +kernel
theorem dX2_foundHurt_11 : decode cX2_foundHurt 11 = .ok (.dup, 1) := by decide +kernel
theorem dX2_foundHurt_12 : decode cX2_foundHurt 12 = .ok (.getfield 51, 3) := by decide +kernel
theorem dX2_foundHurt_15 : decode cX2_foundHurt 15 = .ok (.iconst 1, 1) := by decide +kernel
theorem dX2_foundHurt_16 : decode cX2_foundHurt 16 = .ok (.iadd, 1) := by decide +kernel
theorem dX2_foundHurt_17 : decode cX2_foundHurt 17 = .ok (.putfield 51, 3) := by decide +kernel
theorem dX2_foundHurt_20 : decode cX2_foundHurt 20 = .ok (.aload_n 0, 1) := by decide +kernel
theorem dX2_foundHurt_21 : decode cX2_foundHurt 21 = .ok (.getfield 51, 3) := by decide +kernel
theorem dX2_foundHurt_24 : decode cX2_foundHurt 24 = .ok (.iconst 4, 1) := by decide +kernel
theorem dX2_foundHurt_25 : decode cX2_foundHurt 25 = .ok (.if_icmp .lt 9, 3) := by decide +kernel
theorem dX2_foundHurt_28 : decode cX2_foundHurt 28 = .ok (.aload_n 0, 1) := by decide +kernel
theorem dX2_foundHurt_29 : decode cX2_foundHurt 29 = .ok (.invokevirtual 79, 3) := by decide +kernel
theorem dX2_foundHurt_32 : decode cX2_foundHurt 32 = .ok (.iconst 0, 1) := by decide +kernel
theorem dX2_foundHurt_33 : decode cX2_foundHurt 33 = .ok (.ireturn, 1) := by decide +kernel
theorem dX2_foundHurt_34 : decode cX2_foundHurt 34 = .ok (.iconst 1, 1) := by decide +kernel
theorem dX2_foundHurt_35 : decode cX2_foundHurt 35 = .ok (.ireturn, 1) := by decide +kernel
theorem dX0_endFrame_0 : decode cX0_endFrame 0 = .ok (.aload_n 1, 1) := by decide +kernel
theorem dX0_endFrame_1 : decode cX0_endFrame 1 = .ok (.getfield 78, 3) := by decide +kernel
theorem dX0_endFrame_4 : decode cX0_endFrame 4 = .ok (.ifCond .ne 9, 3) := by decide +kernel
theorem dX0_endFrame_7 : decode cX0_endFrame 7 = .ok (.aload_n 1, 1) := by decide +kernel
theorem dX0_endFrame_8 : decode cX0_endFrame 8 = .ok (.invokevirtual 95, 3) := by decide +kernel
theorem dX0_endFrame_11 : decode cX0_endFrame 11 = .ok (.iconst 1, 1) := by decide +kernel
theorem dX0_endFrame_12 : decode cX0_endFrame 12 = .ok (.ireturn, 1) := by decide +kernel
theorem dX0_endFrame_13 : decode cX0_endFrame 13 = .ok (.aload_n 1, 1) := by decide +kernel
theorem dX0_endFrame_14 : decode cX0_endFrame 14 = .ok (.invokevirtual 98, 3) := by decide +kernel
theorem dX0_endFrame_17 : decode cX0_endFrame 17 = .ok (.ifCond .eq 12, 3) := by decide +kernel
theorem dX0_endFrame_20 : decode cX0_endFrame 20 = .ok (.aload_n 1, 1) := by decide +kernel
theorem dX0_endFrame_21 : decode cX0_endFrame 21 = .ok (.invokevirtual 71, 3) := by decide +kernel
theorem dX0_endFrame_24 : decode cX0_endFrame 24 = .ok (.aload_n 0, 1) := by decide +kernel
theorem dX0_endFrame_25 : decode cX0_endFrame 25 = .ok (.aload_n 1, 1) := by decide +kernel
theorem dX0_endFrame_26 : decode cX0_endFrame 26 = .ok (.invokevirtual 74, 3) := by decide +kernel
theorem dX0_endFrame_29 : decode cX0_endFrame 29 = .ok (.iconst 0, 1) := by decide +kernel
theorem dX0_endFrame_30 : decode cX0_endFrame 30 = .ok (.ireturn, 1) := by decide +kernel
theorem dX0_endFrames_0 : decode cX0_endFrames 0 = .ok (.iconst 0, 1) := by decide +kernel
theorem dX0_endFrames_1 : decode cX0_endFrames 1 = .ok (.istore_n 1, 1) := by decide +kernel
theorem dX0_endFrames_2 : decode cX0_endFrames 2 = .ok (.aload_n 0, 1) := by decide +kernel
theorem dX0_endFrames_3 : decode cX0_endFrames 3 = .ok (.getfield 9, 3) := by decide +kernel
theorem dX0_endFrames_6 : decode cX0_endFrames 6 = .ok (.astore_n 2, 1) := by decide +kernel
theorem dX0_endFrames_7 : decode cX0_endFrames 7 = .ok (.aload_n 2, 1) := by decide +kernel
theorem dX0_endFrames_8 : decode cX0_endFrames 8 = .ok (.arraylength, 1) := by decide +kernel
theorem dX0_endFrames_9 : decode cX0_endFrames 9 = .ok (.istore_n 3, 1) := by decide +kernel
theorem dX0_endFrames_10 : decode cX0_endFrames 10 = .ok (.iconst 0, 1) := by decide +kernel
theorem dX0_endFrames_11 : decode cX0_endFrames 11 = .ok (.istore 4, 2) := by decide +kernel
theorem dX0_endFrames_13 : decode cX0_endFrames 13 = .ok (.iload 4, 2) := by decide +kernel
theorem dX0_endFrames_15 : decode cX0_endFrames 15 = .ok (.iload_n 3, 1) := by decide +kernel
theorem dX0_endFrames_16 : decode cX0_endFrames 16 = .ok (.if_icmp .ge 52, 3) := by decide +kernel
theorem dX0_endFrames_19 : decode cX0_endFrames 19 = .ok (.aload_n 2, 1) := by decide +kernel
theorem dX0_endFrames_20 : decode cX0_endFrames 20 = .ok (.iload 4, 2) := by decide +kernel
theorem dX0_endFrames_22 : decode cX0_endFrames 22 = .ok (.aaload, 1) := by decide +kernel
theorem dX0_endFrames_23 : decode cX0_endFrames 23 = .ok (.astore 5, 2) := by decide +kernel
theorem dX0_endFrames_25 : decode cX0_endFrames 25 = .ok (.aload 5, 2) := by decide +kernel
theorem dX0_endFrames_27 : decode cX0_endFrames 27 = .ok (.getfield 40, 3) := by decide +kernel
theorem dX0_endFrames_30 : decode cX0_endFrames 30 = .ok (.iconst 4, 1) := by decide +kernel
theorem dX0_endFrames_31 : decode cX0_endFrames 31 = .ok (.if_icmp .ne 31, 3) := by decide +kernel
theorem dX0_endFrames_34 : decode cX0_endFrames 34 = .ok (.aload 5, 2) := by decide +kernel
theorem dX0_endFrames_36 : decode cX0_endFrames 36 = .ok (.dup, 1) := by decide +kernel
theorem dX0_endFrames_37 : decode cX0_endFrames 37 = .ok (.getfield 88, 3) := by decide +kernel
theorem dX0_endFrames_40 : decode cX0_endFrames 40 = .ok (.iconst 1, 1) := by decide +kernel
theorem dX0_endFrames_41 : decode cX0_endFrames 41 = .ok (.isub, 1) := by decide +kernel
theorem dX0_endFrames_42 : decode cX0_endFrames 42 = .ok (.putfield 88, 3) := by decide +kernel
theorem dX0_endFrames_45 : decode cX0_endFrames 45 = .ok (.aload 5, 2) := by decide +kernel
theorem dX0_endFrames_47 : decode cX0_endFrames 47 = .ok (.getfield 88, 3) := by decide +kernel
theorem dX0_endFrames_50 : decode cX0_endFrames 50 = .ok (.ifCond .gt 12, 3) := by decide +kernel
theorem dX0_endFrames_53 : decode cX0_endFrames 53 = .ok (.iload_n 1, 1) := by decide +kernel
theorem dX0_endFrames_54 : decode cX0_endFrames 54 = .ok (.aload_n 0, 1) := by decide +kernel
theorem dX0_endFrames_55 : decode cX0_endFrames 55 = .ok (.aload 5, 2) := by decide +kernel
theorem dX0_endFrames_57 : decode cX0_endFrames 57 = .ok (.invokevirtual 91, 3) := by decide +kernel
theorem dX0_endFrames_60 : decode cX0_endFrames 60 = .ok (.iadd, 1) := by decide +kernel
theorem dX0_endFrames_61 : decode cX0_endFrames 61 = .ok (.istore_n 1, 1) := by decide +kernel
theorem dX0_endFrames_62 : decode cX0_endFrames 62 = .ok (.iinc 4 1, 3) := by decide +kernel
theorem dX0_endFrames_65 : decode cX0_endFrames 65 = .ok (.goto (-52), 3) := by decide +kernel
theorem dX0_endFrames_68 : decode cX0_endFrames 68 = .ok (.iload_n 1, 1) := by decide +kernel
theorem dX0_endFrames_69 : decode cX0_endFrames 69 = .ok (.ireturn, 1) := by decide +kernel
theorem dX0_holdAll_0 : decode cX0_holdAll 0 = .ok (.aload_n 0, 1) := by decide +kernel
theorem dX0_holdAll_1 : decode cX0_holdAll 1 = .ok (.getfield 9, 3) := by decide +kernel
theorem dX0_holdAll_4 : decode cX0_holdAll 4 = .ok (.astore_n 1, 1) := by decide +kernel
theorem dX0_holdAll_5 : decode cX0_holdAll 5 = .ok (.aload_n 1, 1) := by decide +kernel
theorem dX0_holdAll_6 : decode cX0_holdAll 6 = .ok (.arraylength, 1) := by decide +kernel
theorem dX0_holdAll_7 : decode cX0_holdAll 7 = .ok (.istore_n 2, 1) := by decide +kernel
theorem dX0_holdAll_8 : decode cX0_holdAll 8 = .ok (.iconst 0, 1) := by decide +kernel
theorem dX0_holdAll_9 : decode cX0_holdAll 9 = .ok (.istore_n 3, 1) := by decide +kernel
theorem dX0_holdAll_10 : decode cX0_holdAll 10 = .ok (.iload_n 3, 1) := by decide +kernel
theorem dX0_holdAll_11 : decode cX0_holdAll 11 = .ok (.iload_n 2, 1) := by decide +kernel
theorem dX0_holdAll_12 : decode cX0_holdAll 12 = .ok (.if_icmp .ge 38, 3) := by decide +kernel
theorem dX0_holdAll_15 : decode cX0_holdAll 15 = .ok (.aload_n 1, 1) := by decide +kernel
theorem dX0_holdAll_16 : decode cX0_holdAll 16 = .ok (.iload_n 3, 1) := by decide +kernel
theorem dX0_holdAll_17 : decode cX0_holdAll 17 = .ok (.aaload, 1) := by decide +kernel
theorem dX0_holdAll_18 : decode cX0_holdAll 18 = .ok (.astore 4, 2) := by decide +kernel
theorem dX0_holdAll_20 : decode cX0_holdAll 20 = .ok (.aload 4, 2) := by decide +kernel
theorem dX0_holdAll_22 : decode cX0_holdAll 22 = .ok (.getfield 40, 3) := by decide +kernel
theorem dX0_holdAll_25 : decode cX0_holdAll 25 = .ok (.iconst 1, 1) := by decide +kernel
theorem dX0_holdAll_26 : decode cX0_holdAll 26 = .ok (.if_icmp .eq 12, 3) := by decide +kernel
theorem dX0_holdAll_29 : decode cX0_holdAll 29 = .ok (.aload 4, 2) := by decide +kernel
theorem dX0_holdAll_31 : decode cX0_holdAll 31 = .ok (.getfield 40, 3) := by decide +kernel
theorem dX0_holdAll_34 : decode cX0_holdAll 34 = .ok (.iconst 2, 1) := by decide +kernel
theorem dX0_holdAll_35 : decode cX0_holdAll 35 = .ok (.if_icmp .ne 9, 3) := by decide +kernel
theorem dX0_holdAll_38 : decode cX0_holdAll 38 = .ok (.aload 4, 2) := by decide +kernel
theorem dX0_holdAll_40 : decode cX0_holdAll 40 = .ok (.iconst 3, 1) := by decide +kernel
theorem dX0_holdAll_41 : decode cX0_holdAll 41 = .ok (.putfield 40, 3) := by decide +kernel
theorem dX0_holdAll_44 : decode cX0_holdAll 44 = .ok (.iinc 3 1, 3) := by decide +kernel
theorem dX0_holdAll_47 : decode cX0_holdAll 47 = .ok (.goto (-37), 3) := by decide +kernel
theorem dX0_holdAll_50 : decode cX0_holdAll 50 = .ok (.return_, 1) := by decide +kernel
theorem dX0_play_0 : decode cX0_play 0 = .ok (.iconst 0, 1) := by decide +kernel
theorem dX0_play_1 : decode cX0_play 1 = .ok (.istore_n 3, 1) := by decide +kernel
theorem dX0_play_2 : decode cX0_play 2 = .ok (.iconst 1, 1) := by decide +kernel
theorem dX0_play_3 : decode cX0_play 3 = .ok (.istore 4, 2) := by decide +kernel
theorem dX0_play_5 : decode cX0_play 5 = .ok (.iconst 1, 1) := by decide +kernel
theorem dX0_play_6 : decode cX0_play 6 = .ok (.istore 5, 2) := by decide +kernel
theorem dX0_play_8 : decode cX0_play 8 = .ok (.iload 5, 2) := by decide +kernel
theorem dX0_play_10 : decode cX0_play 10 = .ok (.iload_n 2, 1) := by decide +kernel
theorem dX0_play_11 : decode cX0_play 11 = .ok (.if_icmp .ge 49, 3) := by decide +kernel
theorem dX0_play_14 : decode cX0_play 14 = .ok (.iload 5, 2) := by decide +kernel
theorem dX0_play_16 : decode cX0_play 16 = .ok (.aload_n 1, 1) := by decide +kernel
theorem dX0_play_17 : decode cX0_play 17 = .ok (.arraylength, 1) := by decide +kernel
theorem dX0_play_18 : decode cX0_play 18 = .ok (.if_icmp .ge 42, 3) := by decide +kernel
theorem dX0_play_21 : decode cX0_play 21 = .ok (.iload 4, 2) := by decide +kernel
theorem dX0_play_23 : decode cX0_play 23 = .ok (.ifCond .eq 37, 3) := by decide +kernel
theorem dX0_play_26 : decode cX0_play 26 = .ok (.aload_n 0, 1) := by decide +kernel
theorem dX0_play_27 : decode cX0_play 27 = .ok (.iload 5, 2) := by decide +kernel
theorem dX0_play_29 : decode cX0_play 29 = .ok (.iload_n 2, 1) := by decide +kernel
theorem dX0_play_30 : decode cX0_play 30 = .ok (.invokevirtual 15, 3) := by decide +kernel
theorem dX0_play_33 : decode cX0_play 33 = .ok (.istore 4, 2) := by decide +kernel
theorem dX0_play_35 : decode cX0_play 35 = .ok (.aload_n 1, 1) := by decide +kernel
theorem dX0_play_36 : decode cX0_play 36 = .ok (.iload 5, 2) := by decide +kernel
theorem dX0_play_38 : decode cX0_play 38 = .ok (.aload_n 0, 1) := by decide +kernel
theorem dX0_play_39 : decode cX0_play 39 = .ok (.invokevirtual 19, 3) := by decide +kernel
theorem dX0_play_42 : decode cX0_play 42 = .ok (.iastore, 1) := by decide +kernel
theorem dX0_play_43 : decode cX0_play 43 = .ok (.aload_n 0, 1) := by decide +kernel
theorem dX0_play_44 : decode cX0_play 44 = .ok (.invokevirtual 23, 3) := by decide +kernel
theorem dX0_play_47 : decode cX0_play 47 = .ok (.iload_n 3, 1) := by decide +kernel
theorem dX0_play_48 : decode cX0_play 48 = .ok (.aload_n 0, 1) := by decide +kernel
theorem dX0_play_49 : decode cX0_play 49 = .ok (.invokevirtual 26, 3) := by decide +kernel
theorem dX0_play_52 : decode cX0_play 52 = .ok (.iadd, 1) := by decide +kernel
theorem dX0_play_53 : decode cX0_play 53 = .ok (.istore_n 3, 1) := by decide +kernel
theorem dX0_play_54 : decode cX0_play 54 = .ok (.iinc 5 1, 3) := by decide +kernel
theorem dX0_play_57 : decode cX0_play 57 = .ok (.goto (-49), 3) := by decide +kernel
theorem dX0_play_60 : decode cX0_play 60 = .ok (.aload_n 0, 1) := by decide +kernel
theorem dX0_play_61 : decode cX0_play 61 = .ok (.invokevirtual 29, 3) := by decide +kernel
theorem dX0_play_64 : decode cX0_play 64 = .ok (.iload_n 3, 1) := by decide +kernel
theorem dX0_play_65 : decode cX0_play 65 = .ok (.ireturn, 1) := by decide +kernel
theorem dX4_clear_0 : decode cX4_clear 0 = .ok (.aload_n 0, 1) := by decide +kernel
theorem dX4_clear_1 : decode cX4_clear 1 = .ok (.iconst 0, 1) := by decide +kernel
theorem dX4_clear_2 : decode cX4_clear 2 = .ok (.putfield 21, 3) := by decide +kernel
theorem dX4_clear_5 : decode cX4_clear 5 = .ok (.return_, 1) := by decide +kernel
theorem dX1_layAt_0 : decode cX1_layAt 0 = .ok (.aload_n 0, 1) := by decide +kernel
theorem dX1_layAt_1 : decode cX1_layAt 1 = .ok (.iload_n 1, 1) := by decide +kernel
theorem dX1_layAt_2 : decode cX1_layAt 2 = .ok (.putfield 22, 3) := by decide +kernel
theorem dX1_layAt_5 : decode cX1_layAt 5 = .ok (.aload_n 0, 1) := by decide +kernel
theorem dX1_layAt_6 : decode cX1_layAt 6 = .ok (.iload_n 2, 1) := by decide +kernel
theorem dX1_layAt_7 : decode cX1_layAt 7 = .ok (.putfield 26, 3) := by decide +kernel
theorem dX1_layAt_10 : decode cX1_layAt 10 = .ok (.aload_n 0, 1) := by decide +kernel
theorem dX1_layAt_11 : decode cX1_layAt 11 = .ok (.iload_n 3, 1) := by decide +kernel
theorem dX1_layAt_12 : decode cX1_layAt 12 = .ok (.putfield 29, 3) := by decide +kernel
theorem dX1_layAt_15 : decode cX1_layAt 15 = .ok (.aload_n 0, 1) := by decide +kernel
theorem dX1_layAt_16 : decode cX1_layAt 16 = .ok (.iconst 0, 1) := by decide +kernel
theorem dX1_layAt_17 : decode cX1_layAt 17 = .ok (.putfield 32, 3) := by decide +kernel
theorem dX1_layAt_20 : decode cX1_layAt 20 = .ok (.aload_n 0, 1) := by decide +kernel
theorem dX1_layAt_21 : decode cX1_layAt 21 = .ok (.iconst 0, 1) := by decide +kernel
theorem dX1_layAt_22 : decode cX1_layAt 22 = .ok (.putfield 35, 3) := by decide +kernel
theorem dX1_layAt_25 : decode cX1_layAt 25 = .ok (.aload_n 0, 1) := by decide +kernel
theorem dX1_layAt_26 : decode cX1_layAt 26 = .ok (.getfield 12, 3) := by decide +kernel
theorem dX1_layAt_29 : decode cX1_layAt 29 = .ok (.invokevirtual 38, 3) := by decide +kernel
theorem dX1_layAt_32 : decode cX1_layAt 32 = .ok (.return_, 1) := by decide +kernel
theorem dX1_enlist_0 : decode cX1_enlist 0 = .ok (.aload_n 0, 1) := by decide +kernel
theorem dX1_enlist_1 : decode cX1_enlist 1 = .ok (.dup, 1) := by decide +kernel
theorem dX1_enlist_2 : decode cX1_enlist 2 = .ok (.getfield 32, 3) := by decide +kernel
theorem dX1_enlist_5 : decode cX1_enlist 5 = .ok (.iconst 1, 1) := by decide +kernel
theorem dX1_enlist_6 : decode cX1_enlist 6 = .ok (.iload_n 1, 1) := by decide +kernel
theorem dX1_enlist_7 : decode cX1_enlist 7 = .ok (.ishl, 1) := by decide +kernel
theorem dX1_enlist_8 : decode cX1_enlist 8 = .ok (.ior, 1) := by decide +kernel
theorem dX1_enlist_9 : decode cX1_enlist 9 = .ok (.putfield 32, 3) := by decide +kernel
theorem dX1_enlist_12 : decode cX1_enlist 12 = .ok (.return_, 1) := by decide +kernel
theorem dX1_lists_0 : decode cX1_lists 0 = .ok (.aload_n 0, 1) := by decide +kernel
theorem dX1_lists_1 : decode cX1_lists 1 = .ok (.getfield 32, 3) := by decide +kernel
theorem dX1_lists_4 : decode cX1_lists 4 = .ok (.iconst 1, 1) := by decide +kernel
theorem dX1_lists_5 : decode cX1_lists 5 = .ok (.iload_n 1, 1) := by decide +kernel
theorem dX1_lists_6 : decode cX1_lists 6 = .ok (.ishl, 1) := by decide +kernel
theorem dX1_lists_7 : decode cX1_lists 7 = .ok (.iand, 1) := by decide +kernel
theorem dX1_lists_8 : decode cX1_lists 8 = .ok (.ifCond .eq 7, 3) := by decide +kernel
theorem dX1_lists_11 : decode cX1_lists 11 = .ok (.iconst 1, 1) := by decide +kernel
theorem dX1_lists_12 : decode cX1_lists 12 = .ok (.goto 4, 3) := by decide +kernel
theorem dX1_lists_15 : decode cX1_lists 15 = .ok (.iconst 0, 1) := by decide +kernel
theorem dX1_lists_16 : decode cX1_lists 16 = .ok (.ireturn, 1) := by decide +kernel
theorem dX4_placeOf_0 : decode cX4_placeOf 0 = .ok (.iconst 0, 1) := by decide +kernel
theorem dX4_placeOf_1 : decode cX4_placeOf 1 = .ok (.istore_n 2, 1) := by decide +kernel
theorem dX4_placeOf_2 : decode cX4_placeOf 2 = .ok (.iload_n 2, 1) := by decide +kernel
theorem dX4_placeOf_3 : decode cX4_placeOf 3 = .ok (.aload_n 0, 1) := by decide +kernel
theorem dX4_placeOf_4 : decode cX4_placeOf 4 = .ok (.getfield 21, 3) := by decide +kernel
theorem dX4_placeOf_7 : decode cX4_placeOf 7 = .ok (.if_icmp .ge 30, 3) := by decide +kernel
theorem dX4_placeOf_10 : decode cX4_placeOf 10 = .ok (.iload_n 2, 1) := by decide +kernel
theorem dX4_placeOf_11 : decode cX4_placeOf 11 = .ok (.aload_n 0, 1) := by decide +kernel
theorem dX4_placeOf_12 : decode cX4_placeOf 12 = .ok (.getfield 9, 3) := by decide +kernel
theorem dX4_placeOf_15 : decode cX4_placeOf 15 = .ok (.arraylength, 1) := by decide +kernel
theorem dX4_placeOf_16 : decode cX4_placeOf 16 = .ok (.if_icmp .ge 21, 3) := by decide +kernel
theorem dX4_placeOf_19 : decode cX4_placeOf 19 = .ok (.aload_n 0, 1) := by decide +kernel
theorem dX4_placeOf_20 : decode cX4_placeOf 20 = .ok (.getfield 9, 3) := by decide +kernel
theorem dX4_placeOf_23 : decode cX4_placeOf 23 = .ok (.iload_n 2, 1) := by decide +kernel
theorem dX4_placeOf_24 : decode cX4_placeOf 24 = .ok (.iaload, 1) := by decide +kernel
theorem dX4_placeOf_25 : decode cX4_placeOf 25 = .ok (.iload_n 1, 1) := by decide +kernel
theorem dX4_placeOf_26 : decode cX4_placeOf 26 = .ok (.if_icmp .ne 5, 3) := by decide +kernel
theorem dX4_placeOf_29 : decode cX4_placeOf 29 = .ok (.iload_n 2, 1) := by decide +kernel
theorem dX4_placeOf_30 : decode cX4_placeOf 30 = .ok (.ireturn, 1) := by decide +kernel
theorem dX4_placeOf_31 : decode cX4_placeOf 31 = .ok (.iinc 2 1, 3) := by decide +kernel
theorem dX4_placeOf_34 : decode cX4_placeOf 34 = .ok (.goto (-32), 3) := by decide +kernel
theorem dX4_placeOf_37 : decode cX4_placeOf 37 = .ok (.bipush (-4), 2) := by decide +kernel
theorem dX4_placeOf_39 : decode cX4_placeOf 39 = .ok (.ireturn, 1) := by decide +kernel
theorem dX4_firstSlot_0 : decode cX4_firstSlot 0 = .ok (.bipush 16, 2) := by decide +kernel
theorem dX4_firstSlot_2 : decode cX4_firstSlot 2 = .ok (.istore_n 2, 1) := by decide +kernel
theorem dX4_firstSlot_3 : decode cX4_firstSlot 3 = .ok (.iconst 0, 1) := by decide +kernel
theorem dX4_firstSlot_4 : decode cX4_firstSlot 4 = .ok (.istore_n 3, 1) := by decide +kernel
theorem dX4_firstSlot_5 : decode cX4_firstSlot 5 = .ok (.iload_n 3, 1) := by decide +kernel
theorem dX4_firstSlot_6 : decode cX4_firstSlot 6 = .ok (.iload_n 1, 1) := by decide +kernel
theorem dX4_firstSlot_7 : decode cX4_firstSlot 7 = .ok (.if_icmp .gt 35, 3) := by decide +kernel
theorem dX4_firstSlot_10 : decode cX4_firstSlot 10 = .ok (.iload_n 3, 1) := by decide +kernel
theorem dX4_firstSlot_11 : decode cX4_firstSlot 11 = .ok (.aload_n 0, 1) := by decide +kernel
theorem dX4_firstSlot_12 : decode cX4_firstSlot 12 = .ok (.getfield 21, 3) := by decide +kernel
theorem dX4_firstSlot_15 : decode cX4_firstSlot 15 = .ok (.if_icmp .ge 27, 3) := by decide +kernel
theorem dX4_firstSlot_18 : decode cX4_firstSlot 18 = .ok (.iload_n 3, 1) := by decide +kernel
theorem dX4_firstSlot_19 : decode cX4_firstSlot 19 = .ok (.aload_n 0, 1) := by decide +kernel
theorem dX4_firstSlot_20 : decode cX4_firstSlot 20 = .ok (.getfield 15, 3) := by decide +kernel
theorem dX4_firstSlot_23 : decode cX4_firstSlot 23 = .ok (.arraylength, 1) := by decide +kernel
theorem dX4_firstSlot_24 : decode cX4_firstSlot 24 = .ok (.if_icmp .ge 18, 3) := by decide +kernel
theorem dX4_firstSlot_27 : decode cX4_firstSlot 27 = .ok (.iload_n 2, 1) := by decide +kernel
theorem dX4_firstSlot_28 : decode cX4_firstSlot 28 = .ok (.aload_n 0, 1) := by decide +kernel
theorem dX4_firstSlot_29 : decode cX4_firstSlot 29 = .ok (.getfield 15, 3) := by decide +kernel
theorem dX4_firstSlot_32 : decode cX4_firstSlot 32 = .ok (.iload_n 3, 1) := by decide +kernel
theorem dX4_firstSlot_33 : decode cX4_firstSlot 33 = .ok (.iaload, 1) := by decide +kernel
theorem dX4_firstSlot_34 : decode cX4_firstSlot 34 = .ok (.isub, 1) := by decide +kernel
theorem dX4_firstSlot_35 : decode cX4_firstSlot 35 = .ok (.istore_n 2, 1) := by decide +kernel
theorem dX4_firstSlot_36 : decode cX4_firstSlot 36 = .ok (.iinc 3 1, 3) := by decide +kernel
theorem dX4_firstSlot_39 : decode cX4_firstSlot 39 = .ok (.goto (-34), 3) := by decide +kernel
theorem dX4_firstSlot_42 : decode cX4_firstSlot 42 = .ok (.iload_n 2, 1) := by decide +kernel
theorem dX4_firstSlot_43 : decode cX4_firstSlot 43 = .ok (.ireturn, 1) := by decide +kernel
theorem dX4_tell_0 : decode cX4_tell 0 = .ok (.iload_n 1, 1) := by decide +kernel
theorem dX4_tell_1 : decode cX4_tell 1 = .ok (.ifCond .lt 20, 3) := by decide +kernel
theorem dX4_tell_4 : decode cX4_tell 4 = .ok (.iload_n 1, 1) := by decide +kernel
theorem dX4_tell_5 : decode cX4_tell 5 = .ok (.aload_n 0, 1) := by decide +kernel
theorem dX4_tell_6 : decode cX4_tell 6 = .ok (.getfield 21, 3) := by decide +kernel
theorem dX4_tell_9 : decode cX4_tell 9 = .ok (.if_icmp .ge 12, 3) := by decide +kernel
theorem dX4_tell_12 : decode cX4_tell 12 = .ok (.iload_n 1, 1) := by decide +kernel
theorem dX4_tell_13 : decode cX4_tell 13 = .ok (.aload_n 0, 1) := by decide +kernel
theorem dX4_tell_14 : decode cX4_tell 14 = .ok (.getfield 9, 3) := by decide +kernel
theorem dX4_tell_17 : decode cX4_tell 17 = .ok (.arraylength, 1) := by decide +kernel
theorem dX4_tell_18 : decode cX4_tell 18 = .ok (.if_icmp .lt 6, 3) := by decide +kernel
theorem dX4_tell_21 : decode cX4_tell 21 = .ok (.bipush (-4), 2) := by decide +kernel
theorem dX4_tell_23 : decode cX4_tell 23 = .ok (.ireturn, 1) := by decide +kernel
theorem dX4_tell_24 : decode cX4_tell 24 = .ok (.iload_n 2, 1) := by decide +kernel
theorem dX4_tell_25 : decode cX4_tell 25 = .ok (.tableswitch 58 0 3 #[31, 38, 44, 51], 31) := by decide +kernel
theorem dX4_tell_56 : decode cX4_tell 56 = .ok (.aload_n 0, 1) := by decide +kernel
theorem dX4_tell_57 : decode cX4_tell 57 = .ok (.getfield 9, 3) := by decide +kernel
theorem dX4_tell_60 : decode cX4_tell 60 = .ok (.iload_n 1, 1) := by decide +kernel
theorem dX4_tell_61 : decode cX4_tell 61 = .ok (.iaload, 1) := by decide +kernel
theorem dX4_tell_62 : decode cX4_tell 62 = .ok (.ireturn, 1) := by decide +kernel
theorem dX4_tell_63 : decode cX4_tell 63 = .ok (.aload_n 0, 1) := by decide +kernel
theorem dX4_tell_64 : decode cX4_tell 64 = .ok (.iload_n 1, 1) := by decide +kernel
theorem dX4_tell_65 : decode cX4_tell 65 = .ok (.invokevirtual 25, 3) := by decide +kernel
theorem dX4_tell_68 : decode cX4_tell 68 = .ok (.ireturn, 1) := by decide +kernel
theorem dX4_tell_69 : decode cX4_tell 69 = .ok (.aload_n 0, 1) := by decide +kernel
theorem dX4_tell_70 : decode cX4_tell 70 = .ok (.getfield 15, 3) := by decide +kernel
theorem dX4_tell_73 : decode cX4_tell 73 = .ok (.iload_n 1, 1) := by decide +kernel
theorem dX4_tell_74 : decode cX4_tell 74 = .ok (.iaload, 1) := by decide +kernel
theorem dX4_tell_75 : decode cX4_tell 75 = .ok (.ireturn, 1) := by decide +kernel
theorem dX4_tell_76 : decode cX4_tell 76 = .ok (.aload_n 0, 1) := by decide +kernel
theorem dX4_tell_77 : decode cX4_tell 77 = .ok (.getfield 18, 3) := by decide +kernel
theorem dX4_tell_80 : decode cX4_tell 80 = .ok (.iload_n 1, 1) := by decide +kernel
theorem dX4_tell_81 : decode cX4_tell 81 = .ok (.iaload, 1) := by decide +kernel
theorem dX4_tell_82 : decode cX4_tell 82 = .ok (.ireturn, 1) := by decide +kernel
theorem dX4_tell_83 : decode cX4_tell 83 = .ok (.iconst (-1), 1) := by decide +kernel
theorem dX4_tell_84 : decode cX4_tell 84 = .ok (.ireturn, 1) := by decide +kernel
theorem dX4_removeAt_0 : decode cX4_removeAt 0 = .ok (.iload_n 1, 1) := by decide +kernel
theorem dX4_removeAt_1 : decode cX4_removeAt 1 = .ok (.ifCond .lt 11, 3) := by decide +kernel
theorem dX4_removeAt_4 : decode cX4_removeAt 4 = .ok (.iload_n 1, 1) := by decide +kernel
theorem dX4_removeAt_5 : decode cX4_removeAt 5 = .ok (.aload_n 0, 1) := by decide +kernel
theorem dX4_removeAt_6 : decode cX4_removeAt 6 = .ok (.getfield 21, 3) := by decide +kernel
theorem dX4_removeAt_9 : decode cX4_removeAt 9 = .ok (.if_icmp .lt 4, 3) := by decide +kernel
theorem dX4_removeAt_12 : decode cX4_removeAt 12 = .ok (.return_, 1) := by decide +kernel
theorem dX4_removeAt_13 : decode cX4_removeAt 13 = .ok (.iload_n 1, 1) := by decide +kernel
theorem dX4_removeAt_14 : decode cX4_removeAt 14 = .ok (.iconst 1, 1) := by decide +kernel
theorem dX4_removeAt_15 : decode cX4_removeAt 15 = .ok (.iadd, 1) := by decide +kernel
theorem dX4_removeAt_16 : decode cX4_removeAt 16 = .ok (.istore_n 2, 1) := by decide +kernel
theorem dX4_removeAt_17 : decode cX4_removeAt 17 = .ok (.iload_n 2, 1) := by decide +kernel
theorem dX4_removeAt_18 : decode cX4_removeAt 18 = .ok (.aload_n 0, 1) := by decide +kernel
theorem dX4_removeAt_19 : decode cX4_removeAt 19 = .ok (.getfield 21, 3) := by decide +kernel
theorem dX4_removeAt_22 : decode cX4_removeAt 22 = .ok (.if_icmp .ge 60, 3) := by decide +kernel
theorem dX4_removeAt_25 : decode cX4_removeAt 25 = .ok (.iload_n 2, 1) := by decide +kernel
theorem dX4_removeAt_26 : decode cX4_removeAt 26 = .ok (.aload_n 0, 1) := by decide +kernel
theorem dX4_removeAt_27 : decode cX4_removeAt 27 = .ok (.getfield 9, 3) := by decide +kernel
theorem dX4_removeAt_30 : decode cX4_removeAt 30 = .ok (.arraylength, 1) := by decide +kernel
theorem dX4_removeAt_31 : decode cX4_removeAt 31 = .ok (.if_icmp .ge 51, 3) := by decide +kernel
theorem dX4_removeAt_34 : decode cX4_removeAt 34 = .ok (.aload_n 0, 1) := by decide +kernel
theorem dX4_removeAt_35 : decode cX4_removeAt 35 = .ok (.getfield 9, 3) := by decide +kernel
theorem dX4_removeAt_38 : decode cX4_removeAt 38 = .ok (.iload_n 2, 1) := by decide +kernel
theorem dX4_removeAt_39 : decode cX4_removeAt 39 = .ok (.iconst 1, 1) := by decide +kernel
theorem dX4_removeAt_40 : decode cX4_removeAt 40 = .ok (.isub, 1) := by decide +kernel
theorem dX4_removeAt_41 : decode cX4_removeAt 41 = .ok (.aload_n 0, 1) := by decide +kernel
theorem dX4_removeAt_42 : decode cX4_removeAt 42 = .ok (.getfield 9, 3) := by decide +kernel
theorem dX4_removeAt_45 : decode cX4_removeAt 45 = .ok (.iload_n 2, 1) := by decide +kernel
theorem dX4_removeAt_46 : decode cX4_removeAt 46 = .ok (.iaload, 1) := by decide +kernel
theorem dX4_removeAt_47 : decode cX4_removeAt 47 = .ok (.iastore, 1) := by decide +kernel
theorem dX4_removeAt_48 : decode cX4_removeAt 48 = .ok (.aload_n 0, 1) := by decide +kernel
theorem dX4_removeAt_49 : decode cX4_removeAt 49 = .ok (.getfield 15, 3) := by decide +kernel
theorem dX4_removeAt_52 : decode cX4_removeAt 52 = .ok (.iload_n 2, 1) := by decide +kernel
theorem dX4_removeAt_53 : decode cX4_removeAt 53 = .ok (.iconst 1, 1) := by decide +kernel
theorem dX4_removeAt_54 : decode cX4_removeAt 54 = .ok (.isub, 1) := by decide +kernel
theorem dX4_removeAt_55 : decode cX4_removeAt 55 = .ok (.aload_n 0, 1) := by decide +kernel
theorem dX4_removeAt_56 : decode cX4_removeAt 56 = .ok (.getfield 15, 3) := by decide +kernel
theorem dX4_removeAt_59 : decode cX4_removeAt 59 = .ok (.iload_n 2, 1) := by decide +kernel
theorem dX4_removeAt_60 : decode cX4_removeAt 60 = .ok (.iaload, 1) := by decide +kernel
theorem dX4_removeAt_61 : decode cX4_removeAt 61 = .ok (.iastore, 1) := by decide +kernel
theorem dX4_removeAt_62 : decode cX4_removeAt 62 = .ok (.aload_n 0, 1) := by decide +kernel
theorem dX4_removeAt_63 : decode cX4_removeAt 63 = .ok (.getfield 18, 3) := by decide +kernel
theorem dX4_removeAt_66 : decode cX4_removeAt 66 = .ok (.iload_n 2, 1) := by decide +kernel
theorem dX4_removeAt_67 : decode cX4_removeAt 67 = .ok (.iconst 1, 1) := by decide +kernel
theorem dX4_removeAt_68 : decode cX4_removeAt 68 = .ok (.isub, 1) := by decide +kernel
theorem dX4_removeAt_69 : decode cX4_removeAt 69 = .ok (.aload_n 0, 1) := by decide +kernel
theorem dX4_removeAt_70 : decode cX4_removeAt 70 = .ok (.getfield 18, 3) := by decide +kernel
theorem dX4_removeAt_73 : decode cX4_removeAt 73 = .ok (.iload_n 2, 1) := by decide +kernel
theorem dX4_removeAt_74 : decode cX4_removeAt 74 = .ok (.iaload, 1) := by decide +kernel
theorem dX4_removeAt_75 : decode cX4_removeAt 75 = .ok (.iastore, 1) := by decide +kernel
theorem dX4_removeAt_76 : decode cX4_removeAt 76 = .ok (.iinc 2 1, 3) := by decide +kernel
theorem dX4_removeAt_79 : decode cX4_removeAt 79 = .ok (.goto (-62), 3) := by decide +kernel
theorem dX4_removeAt_82 : decode cX4_removeAt 82 = .ok (.aload_n 0, 1) := by decide +kernel
theorem dX4_removeAt_83 : decode cX4_removeAt 83 = .ok (.dup, 1) := by decide +kernel
theorem dX4_removeAt_84 : decode cX4_removeAt 84 = .ok (.getfield 21, 3) := by decide +kernel
theorem dX4_removeAt_87 : decode cX4_removeAt 87 = .ok (.iconst 1, 1) := by decide +kernel
theorem dX4_removeAt_88 : decode cX4_removeAt 88 = .ok (.isub, 1) := by decide +kernel
theorem dX4_removeAt_89 : decode cX4_removeAt 89 = .ok (.putfield 21, 3) := by decide +kernel
theorem dX4_removeAt_92 : decode cX4_removeAt 92 = .ok (.return_, 1) := by decide +kernel
theorem dX4_removeOf_0 : decode cX4_removeOf 0 = .ok (.aload_n 0, 1) := by decide +kernel
theorem dX4_removeOf_1 : decode cX4_removeOf 1 = .ok (.iload_n 1, 1) := by decide +kernel
theorem dX4_removeOf_2 : decode cX4_removeOf 2 = .ok (.invokevirtual 29, 3) := by decide +kernel
theorem dX4_removeOf_5 : decode cX4_removeOf 5 = .ok (.istore_n 2, 1) := by decide +kernel
theorem dX4_removeOf_6 : decode cX4_removeOf 6 = .ok (.iload_n 2, 1) := by decide +kernel
theorem dX4_removeOf_7 : decode cX4_removeOf 7 = .ok (.bipush (-4), 2) := by decide +kernel
theorem dX4_removeOf_9 : decode cX4_removeOf 9 = .ok (.if_icmp .ne 7, 3) := by decide +kernel
theorem dX4_removeOf_12 : decode cX4_removeOf 12 = .ok (.iconst 0, 1) := by decide +kernel
theorem dX4_removeOf_13 : decode cX4_removeOf 13 = .ok (.goto 9, 3) := by decide +kernel
theorem dX4_removeOf_16 : decode cX4_removeOf 16 = .ok (.aload_n 0, 1) := by decide +kernel
theorem dX4_removeOf_17 : decode cX4_removeOf 17 = .ok (.iload_n 2, 1) := by decide +kernel
theorem dX4_removeOf_18 : decode cX4_removeOf 18 = .ok (.iconst 2, 1) := by decide +kernel
theorem dX4_removeOf_19 : decode cX4_removeOf 19 = .ok (.invokevirtual 32, 3) := by decide +kernel
theorem dX4_removeOf_22 : decode cX4_removeOf 22 = .ok (.istore_n 3, 1) := by decide +kernel
theorem dX4_removeOf_23 : decode cX4_removeOf 23 = .ok (.aload_n 0, 1) := by decide +kernel
theorem dX4_removeOf_24 : decode cX4_removeOf 24 = .ok (.iload_n 2, 1) := by decide +kernel
theorem dX4_removeOf_25 : decode cX4_removeOf 25 = .ok (.invokevirtual 36, 3) := by decide +kernel
theorem dX4_removeOf_28 : decode cX4_removeOf 28 = .ok (.iload_n 3, 1) := by decide +kernel
theorem dX4_removeOf_29 : decode cX4_removeOf 29 = .ok (.ireturn, 1) := by decide +kernel
theorem dX1_forget_0 : decode cX1_forget 0 = .ok (.aload_n 0, 1) := by decide +kernel
theorem dX1_forget_1 : decode cX1_forget 1 = .ok (.dup, 1) := by decide +kernel
theorem dX1_forget_2 : decode cX1_forget 2 = .ok (.getfield 32, 3) := by decide +kernel
theorem dX1_forget_5 : decode cX1_forget 5 = .ok (.iconst 1, 1) := by decide +kernel
theorem dX1_forget_6 : decode cX1_forget 6 = .ok (.iload_n 1, 1) := by decide +kernel
theorem dX1_forget_7 : decode cX1_forget 7 = .ok (.ishl, 1) := by decide +kernel
theorem dX1_forget_8 : decode cX1_forget 8 = .ok (.iconst (-1), 1) := by decide +kernel
theorem dX1_forget_9 : decode cX1_forget 9 = .ok (.ixor, 1) := by decide +kernel
theorem dX1_forget_10 : decode cX1_forget 10 = .ok (.iand, 1) := by decide +kernel
theorem dX1_forget_11 : decode cX1_forget 11 = .ok (.putfield 32, 3) := by decide +kernel
theorem dX1_forget_14 : decode cX1_forget 14 = .ok (.aload_n 0, 1) := by decide +kernel
theorem dX1_forget_15 : decode cX1_forget 15 = .ok (.getfield 12, 3) := by decide +kernel
theorem dX1_forget_18 : decode cX1_forget 18 = .ok (.iload_n 1, 1) := by decide +kernel
theorem dX1_forget_19 : decode cX1_forget 19 = .ok (.invokevirtual 41, 3) := by decide +kernel
theorem dX1_forget_22 : decode cX1_forget 22 = .ok (.pop, 1) := by decide +kernel
theorem dX1_forget_23 : decode cX1_forget 23 = .ok (.return_, 1) := by decide +kernel
theorem dX4_sharedSlots_0 : decode cX4_sharedSlots 0 = .ok (.aload_n 0, 1) := by decide +kernel
theorem dX4_sharedSlots_1 : decode cX4_sharedSlots 1 = .ok (.aload_n 0, 1) := by decide +kernel
theorem dX4_sharedSlots_2 : decode cX4_sharedSlots 2 = .ok (.getfield 21, 3) := by decide +kernel
theorem dX4_sharedSlots_5 : decode cX4_sharedSlots 5 = .ok (.iconst 1, 1) := by decide +kernel
theorem dX4_sharedSlots_6 : decode cX4_sharedSlots 6 = .ok (.isub, 1) := by decide +kernel
theorem dX4_sharedSlots_7 : decode cX4_sharedSlots 7 = .ok (.invokevirtual 25, 3) := by decide +kernel
theorem dX4_sharedSlots_10 : decode cX4_sharedSlots 10 = .ok (.ireturn, 1) := by decide +kernel
theorem dX1_tell_0 : decode cX1_tell 0 = .ok (.iload_n 1, 1) := by decide +kernel
theorem dX1_tell_1 : decode cX1_tell 1 = .ok (.tableswitch 72 0 5 #[39, 44, 49, 57, 62, 67], 39) := by decide +kernel
theorem dX1_tell_40 : decode cX1_tell 40 = .ok (.aload_n 0, 1) := by decide +kernel
theorem dX1_tell_41 : decode cX1_tell 41 = .ok (.getfield 26, 3) := by decide +kernel
theorem dX1_tell_44 : decode cX1_tell 44 = .ok (.ireturn, 1) := by decide +kernel
theorem dX1_tell_45 : decode cX1_tell 45 = .ok (.aload_n 0, 1) := by decide +kernel
theorem dX1_tell_46 : decode cX1_tell 46 = .ok (.getfield 22, 3) := by decide +kernel
theorem dX1_tell_49 : decode cX1_tell 49 = .ok (.ireturn, 1) := by decide +kernel
theorem dX1_tell_50 : decode cX1_tell 50 = .ok (.aload_n 0, 1) := by decide +kernel
theorem dX1_tell_51 : decode cX1_tell 51 = .ok (.getfield 12, 3) := by decide +kernel
theorem dX1_tell_54 : decode cX1_tell 54 = .ok (.invokevirtual 45, 3) := by decide +kernel
theorem dX1_tell_57 : decode cX1_tell 57 = .ok (.ireturn, 1) := by decide +kernel
theorem dX1_tell_58 : decode cX1_tell 58 = .ok (.aload_n 0, 1) := by decide +kernel
theorem dX1_tell_59 : decode cX1_tell 59 = .ok (.getfield 32, 3) := by decide +kernel
theorem dX1_tell_62 : decode cX1_tell 62 = .ok (.ireturn, 1) := by decide +kernel
theorem dX1_tell_63 : decode cX1_tell 63 = .ok (.aload_n 0, 1) := by decide +kernel
theorem dX1_tell_64 : decode cX1_tell 64 = .ok (.getfield 29, 3) := by decide +kernel
theorem dX1_tell_67 : decode cX1_tell 67 = .ok (.ireturn, 1) := by decide +kernel
theorem dX1_tell_68 : decode cX1_tell 68 = .ok (.aload_n 0, 1) := by decide +kernel
theorem dX1_tell_69 : decode cX1_tell 69 = .ok (.getfield 35, 3) := by decide +kernel
theorem dX1_tell_72 : decode cX1_tell 72 = .ok (.ireturn, 1) := by decide +kernel
theorem dX1_tell_73 : decode cX1_tell 73 = .ok (.iconst (-1), 1) := by decide +kernel
theorem dX1_tell_74 : decode cX1_tell 74 = .ok (.ireturn, 1) := by decide +kernel
theorem dX2_layAt_0 : decode cX2_layAt 0 = .ok (.aload_n 0, 1) := by decide +kernel
theorem dX2_layAt_1 : decode cX2_layAt 1 = .ok (.iload_n 1, 1) := by decide +kernel
theorem dX2_layAt_2 : decode cX2_layAt 2 = .ok (.putfield 15, 3) := by decide +kernel
theorem dX2_layAt_5 : decode cX2_layAt 5 = .ok (.aload_n 0, 1) := by decide +kernel
theorem dX2_layAt_6 : decode cX2_layAt 6 = .ok (.iload_n 2, 1) := by decide +kernel
theorem dX2_layAt_7 : decode cX2_layAt 7 = .ok (.putfield 18, 3) := by decide +kernel
theorem dX2_layAt_10 : decode cX2_layAt 10 = .ok (.aload_n 0, 1) := by decide +kernel
theorem dX2_layAt_11 : decode cX2_layAt 11 = .ok (.iload_n 3, 1) := by decide +kernel
theorem dX2_layAt_12 : decode cX2_layAt 12 = .ok (.putfield 21, 3) := by decide +kernel
theorem dX2_layAt_15 : decode cX2_layAt 15 = .ok (.aload_n 0, 1) := by decide +kernel
theorem dX2_layAt_16 : decode cX2_layAt 16 = .ok (.iconst 0, 1) := by decide +kernel
theorem dX2_layAt_17 : decode cX2_layAt 17 = .ok (.putfield 24, 3) := by decide +kernel
theorem dX2_layAt_20 : decode cX2_layAt 20 = .ok (.aload_n 0, 1) := by decide +kernel
theorem dX2_layAt_21 : decode cX2_layAt 21 = .ok (.iconst 0, 1) := by decide +kernel
theorem dX2_layAt_22 : decode cX2_layAt 22 = .ok (.putfield 27, 3) := by decide +kernel
theorem dX2_layAt_25 : decode cX2_layAt 25 = .ok (.aload_n 0, 1) := by decide +kernel
theorem dX2_layAt_26 : decode cX2_layAt 26 = .ok (.iconst 0, 1) := by decide +kernel
theorem dX2_layAt_27 : decode cX2_layAt 27 = .ok (.putfield 30, 3) := by decide +kernel
theorem dX2_layAt_30 : decode cX2_layAt 30 = .ok (.aload_n 0, 1) := by decide +kernel
theorem dX2_layAt_31 : decode cX2_layAt 31 = .ok (.iconst 0, 1) := by decide +kernel
theorem dX2_layAt_32 : decode cX2_layAt 32 = .ok (.putfield 33, 3) := by decide +kernel
theorem dX2_layAt_35 : decode cX2_layAt 35 = .ok (.aload_n 0, 1) := by decide +kernel
theorem dX2_layAt_36 : decode cX2_layAt 36 = .ok (.iconst 0, 1) := by decide +kernel
theorem dX2_layAt_37 : decode cX2_layAt 37 = .ok (.putfield 36, 3) := by decide +kernel
theorem dX2_layAt_40 : decode cX2_layAt 40 = .ok (.aload_n 0, 1) := by decide +kernel
theorem dX2_layAt_41 : decode cX2_layAt 41 = .ok (.iconst 0, 1) := by decide +kernel
theorem dX2_layAt_42 : decode cX2_layAt 42 = .ok (.putfield 39, 3) := by decide +kernel
theorem dX2_layAt_45 : decode cX2_layAt 45 = .ok (.aload_n 0, 1) := by decide +kernel
theorem dX2_layAt_46 : decode cX2_layAt 46 = .ok (.iconst 0, 1) := by decide +kernel
theorem dX2_layAt_47 : decode cX2_layAt 47 = .ok (.putfield 42, 3) := by decide +kernel
theorem dX2_layAt_50 : decode cX2_layAt 50 = .ok (.aload_n 0, 1) := by decide +kernel
theorem dX2_layAt_51 : decode cX2_layAt 51 = .ok (.iload_n 3, 1) := by decide +kernel
theorem dX2_layAt_52 : decode cX2_layAt 52 = .ok (.putfield 45, 3) := by decide +kernel
theorem dX2_layAt_55 : decode cX2_layAt 55 = .ok (.aload_n 0, 1) := by decide +kernel
theorem dX2_layAt_56 : decode cX2_layAt 56 = .ok (.iconst 0, 1) := by decide +kernel
theorem dX2_layAt_57 : decode cX2_layAt 57 = .ok (.putfield 48, 3) := by decide +kernel
theorem dX2_layAt_60 : decode cX2_layAt 60 = .ok (.aload_n 0, 1) := by decide +kernel
theorem dX2_layAt_61 : decode cX2_layAt 61 = .ok (.iconst 0, 1) := by decide +kernel
theorem dX2_layAt_62 : decode cX2_layAt 62 = .ok (.putfield 51, 3) := by decide +kernel
theorem dX2_layAt_65 : decode cX2_layAt 65 = .ok (.aload_n 0, 1) := by decide +kernel
theorem dX2_layAt_66 : decode cX2_layAt 66 = .ok (.iconst 0, 1) := by decide +kernel
theorem dX2_layAt_67 : decode cX2_layAt 67 = .ok (.putfield 54, 3) := by decide +kernel
theorem dX2_layAt_70 : decode cX2_layAt 70 = .ok (.return_, 1) := by decide +kernel
theorem dX2_comeHome_0 : decode cX2_comeHome 0 = .ok (.aload_n 0, 1) := by decide +kernel
theorem dX2_comeHome_1 : decode cX2_comeHome 1 = .ok (.iload_n 1, 1) := by decide +kernel
theorem dX2_comeHome_2 : decode cX2_comeHome 2 = .ok (.putfield 15, 3) := by decide +kernel
theorem dX2_comeHome_5 : decode cX2_comeHome 5 = .ok (.aload_n 0, 1) := by decide +kernel
theorem dX2_comeHome_6 : decode cX2_comeHome 6 = .ok (.iconst 0, 1) := by decide +kernel
theorem dX2_comeHome_7 : decode cX2_comeHome 7 = .ok (.putfield 36, 3) := by decide +kernel
theorem dX2_comeHome_10 : decode cX2_comeHome 10 = .ok (.return_, 1) := by decide +kernel
theorem dX2_isOrphan_0 : decode cX2_isOrphan 0 = .ok (.aload_n 0, 1) := by decide +kernel
theorem dX2_isOrphan_1 : decode cX2_isOrphan 1 = .ok (.getfield 15, 3) := by decide +kernel
theorem dX2_isOrphan_4 : decode cX2_isOrphan 4 = .ok (.bipush (-4), 2) := by decide +kernel
theorem dX2_isOrphan_6 : decode cX2_isOrphan 6 = .ok (.if_icmp .ne 7, 3) := by decide +kernel
theorem dX2_isOrphan_9 : decode cX2_isOrphan 9 = .ok (.iconst 1, 1) := by decide +kernel
theorem dX2_isOrphan_10 : decode cX2_isOrphan 10 = .ok (.goto 4, 3) := by decide +kernel
theorem dX2_isOrphan_13 : decode cX2_isOrphan 13 = .ok (.iconst 0, 1) := by decide +kernel
theorem dX2_isOrphan_14 : decode cX2_isOrphan 14 = .ok (.ireturn, 1) := by decide +kernel
theorem dX2_hearsBeacon_0 : decode cX2_hearsBeacon 0 = .ok (.aload_n 0, 1) := by decide +kernel
theorem dX2_hearsBeacon_1 : decode cX2_hearsBeacon 1 = .ok (.getfield 39, 3) := by decide +kernel
theorem dX2_hearsBeacon_4 : decode cX2_hearsBeacon 4 = .ok (.ifCond .ne 10, 3) := by decide +kernel
theorem dX2_hearsBeacon_7 : decode cX2_hearsBeacon 7 = .ok (.aload_n 0, 1) := by decide +kernel
theorem dX2_hearsBeacon_8 : decode cX2_hearsBeacon 8 = .ok (.iconst 0, 1) := by decide +kernel
theorem dX2_hearsBeacon_9 : decode cX2_hearsBeacon 9 = .ok (.putfield 36, 3) := by decide +kernel
theorem dX2_hearsBeacon_12 : decode cX2_hearsBeacon 12 = .ok (.iconst 1, 1) := by decide +kernel
theorem dX2_hearsBeacon_13 : decode cX2_hearsBeacon 13 = .ok (.ireturn, 1) := by decide +kernel
theorem dX2_hearsBeacon_14 : decode cX2_hearsBeacon 14 = .ok (.aload_n 0, 1) := by decide +kernel
theorem dX2_hearsBeacon_15 : decode cX2_hearsBeacon 15 = .ok (.dup, 1) := by decide +kernel
theorem dX2_hearsBeacon_16 : decode cX2_hearsBeacon 16 = .ok (.getfield 39, 3) := by decide +kernel
theorem dX2_hearsBeacon_19 : decode cX2_hearsBeacon 19 = .ok (.iconst 1, 1) := by decide +kernel
theorem dX2_hearsBeacon_20 : decode cX2_hearsBeacon 20 = .ok (.isub, 1) := by decide +kernel
theorem dX2_hearsBeacon_21 : decode cX2_hearsBeacon 21 = .ok (.putfield 39, 3) := by decide +kernel
theorem dX2_hearsBeacon_24 : decode cX2_hearsBeacon 24 = .ok (.aload_n 0, 1) := by decide +kernel
theorem dX2_hearsBeacon_25 : decode cX2_hearsBeacon 25 = .ok (.dup, 1) := by decide +kernel
theorem dX2_hearsBeacon_26 : decode cX2_hearsBeacon 26 = .ok (.getfield 36, 3) := by decide +kernel
theorem dX2_hearsBeacon_29 : decode cX2_hearsBeacon 29 = .ok (.iconst 1, 1) := by decide +kernel
theorem dX2_hearsBeacon_30 : decode cX2_hearsBeacon 30 = .ok (.iadd, 1) := by decide +kernel
theorem dX2_hearsBeacon_31 : decode cX2_hearsBeacon 31 = .ok (.putfield 36, 3) := by decide +kernel
theorem dX2_hearsBeacon_34 : decode cX2_hearsBeacon 34 = .ok (.aload_n 0, 1) := by decide +kernel
theorem dX2_hearsBeacon_35 : decode cX2_hearsBeacon 35 = .ok (.getfield 36, 3) := by decide +kernel
theorem dX2_hearsBeacon_38 : decode cX2_hearsBeacon 38 = .ok (.iconst 4, 1) := by decide +kernel
theorem dX2_hearsBeacon_39 : decode cX2_hearsBeacon 39 = .ok (.if_icmp .lt 9, 3) := by decide +kernel
theorem dX2_hearsBeacon_42 : decode cX2_hearsBeacon 42 = .ok (.aload_n 0, 1) := by decide +kernel
theorem dX2_hearsBeacon_43 : decode cX2_hearsBeacon 43 = .ok (.bipush (-4), 2) := by decide +kernel
theorem dX2_hearsBeacon_45 : decode cX2_hearsBeacon 45 = .ok (.putfield 15, 3) := by decide +kernel
theorem dX2_hearsBeacon_48 : decode cX2_hearsBeacon 48 = .ok (.iconst 0, 1) := by decide +kernel
theorem dX2_hearsBeacon_49 : decode cX2_hearsBeacon 49 = .ok (.ireturn, 1) := by decide +kernel
theorem dX2_sendPromised_0 : decode cX2_sendPromised 0 = .ok (.aload_n 0, 1) := by decide +kernel
theorem dX2_sendPromised_1 : decode cX2_sendPromised 1 = .ok (.getfield 85, 3) := by decide +kernel
theorem dX2_sendPromised_4 : decode cX2_sendPromised 4 = .ok (.ifCond .ne 5, 3) := by decide +kernel
theorem dX2_sendPromised_7 : decode cX2_sendPromised 7 = .ok (.iconst 0, 1) := by decide +kernel
theorem dX2_sendPromised_8 : decode cX2_sendPromised 8 = .ok (.ireturn, 1) := by decide +kernel
theorem dX2_sendPromised_9 : decode cX2_sendPromised 9 = .ok (.aload_n 0, 1) := by decide +kernel
theorem dX2_sendPromised_10 : decode cX2_sendPromised 10 = .ok (.getfield 27, 3) := by decide +kernel
theorem dX2_sendPromised_13 : decode cX2_sendPromised 13 = .ok (.iload_n 3, 1) := by decide +kernel
theorem dX2_sendPromised_14 : decode cX2_sendPromised 14 = .ok (.iconst 1, 1) := by decide +kernel
theorem dX2_sendPromised_15 : decode cX2_sendPromised 15 = .ok (.aload_n 0, 1) := by decide +kernel
theorem dX2_sendPromised_16 : decode cX2_sendPromised 16 = .ok (.getfield 18, 3) := by decide +kernel
theorem dX2_sendPromised_19 : decode cX2_sendPromised 19 = .ok (.invokestatic 60, 3) := by decide +kernel
theorem dX2_sendPromised_22 : decode cX2_sendPromised 22 = .ok (.idiv, 1) := by decide +kernel
theorem dX2_sendPromised_23 : decode cX2_sendPromised 23 = .ok (.invokestatic 76, 3) := by decide +kernel
theorem dX2_sendPromised_26 : decode cX2_sendPromised 26 = .ok (.istore 4, 2) := by decide +kernel
theorem dX2_sendPromised_28 : decode cX2_sendPromised 28 = .ok (.iload_n 2, 1) := by decide +kernel
theorem dX2_sendPromised_29 : decode cX2_sendPromised 29 = .ok (.iload 4, 2) := by decide +kernel
theorem dX2_sendPromised_31 : decode cX2_sendPromised 31 = .ok (.aload_n 0, 1) := by decide +kernel
theorem dX2_sendPromised_32 : decode cX2_sendPromised 32 = .ok (.getfield 18, 3) := by decide +kernel
theorem dX2_sendPromised_35 : decode cX2_sendPromised 35 = .ok (.imul, 1) := by decide +kernel
theorem dX2_sendPromised_36 : decode cX2_sendPromised 36 = .ok (.iadd, 1) := by decide +kernel
theorem dX2_sendPromised_37 : decode cX2_sendPromised 37 = .ok (.aload_n 1, 1) := by decide +kernel
theorem dX2_sendPromised_38 : decode cX2_sendPromised 38 = .ok (.arraylength, 1) := by decide +kernel
theorem dX2_sendPromised_39 : decode cX2_sendPromised 39 = .ok (.invokestatic 76, 3) := by decide +kernel
theorem dX2_sendPromised_42 : decode cX2_sendPromised 42 = .ok (.istore 5, 2) := by decide +kernel
theorem dX2_sendPromised_44 : decode cX2_sendPromised 44 = .ok (.iconst 0, 1) := by decide +kernel
theorem dX2_sendPromised_45 : decode cX2_sendPromised 45 = .ok (.iload_n 2, 1) := by decide +kernel
theorem dX2_sendPromised_46 : decode cX2_sendPromised 46 = .ok (.invokestatic 60, 3) := by decide +kernel
theorem dX2_sendPromised_49 : decode cX2_sendPromised 49 = .ok (.istore 6, 2) := by decide +kernel
theorem dX2_sendPromised_51 : decode cX2_sendPromised 51 = .ok (.iload 6, 2) := by decide +kernel
theorem dX2_sendPromised_53 : decode cX2_sendPromised 53 = .ok (.iload 5, 2) := by decide +kernel
theorem dX2_sendPromised_55 : decode cX2_sendPromised 55 = .ok (.if_icmp .ge 20, 3) := by decide +kernel
theorem dX2_sendPromised_58 : decode cX2_sendPromised 58 = .ok (.aload_n 1, 1) := by decide +kernel
theorem dX2_sendPromised_59 : decode cX2_sendPromised 59 = .ok (.iload 6, 2) := by decide +kernel
theorem dX2_sendPromised_61 : decode cX2_sendPromised 61 = .ok (.bipush 10, 2) := by decide +kernel
theorem dX2_sendPromised_63 : decode cX2_sendPromised 63 = .ok (.aload_n 0, 1) := by decide +kernel
theorem dX2_sendPromised_64 : decode cX2_sendPromised 64 = .ok (.getfield 9, 3) := by decide +kernel
theorem dX2_sendPromised_67 : decode cX2_sendPromised 67 = .ok (.iadd, 1) := by decide +kernel
theorem dX2_sendPromised_68 : decode cX2_sendPromised 68 = .ok (.iastore, 1) := by decide +kernel
theorem dX2_sendPromised_69 : decode cX2_sendPromised 69 = .ok (.iinc 6 1, 3) := by decide +kernel
theorem dX2_sendPromised_72 : decode cX2_sendPromised 72 = .ok (.goto (-21), 3) := by decide +kernel
theorem dX2_sendPromised_75 : decode cX2_sendPromised 75 = .ok (.aload_n 0, 1) := by decide +kernel
theorem dX2_sendPromised_76 : decode cX2_sendPromised 76 = .ok (.dup, 1) := by decide +kernel
theorem dX2_sendPromised_77 : decode cX2_sendPromised 77 = .ok (.getfield 27, 3) := by decide +kernel
theorem dX2_sendPromised_80 : decode cX2_sendPromised 80 = .ok (.iload 4, 2) := by decide +kernel
theorem dX2_sendPromised_82 : decode cX2_sendPromised 82 = .ok (.isub, 1) := by decide +kernel
theorem dX2_sendPromised_83 : decode cX2_sendPromised 83 = .ok (.putfield 27, 3) := by decide +kernel
theorem dX2_sendPromised_86 : decode cX2_sendPromised 86 = .ok (.aload_n 0, 1) := by decide +kernel
theorem dX2_sendPromised_87 : decode cX2_sendPromised 87 = .ok (.dup, 1) := by decide +kernel
theorem dX2_sendPromised_88 : decode cX2_sendPromised 88 = .ok (.getfield 30, 3) := by decide +kernel
theorem dX2_sendPromised_91 : decode cX2_sendPromised 91 = .ok (.iload 4, 2) := by decide +kernel
theorem dX2_sendPromised_93 : decode cX2_sendPromised 93 = .ok (.iadd, 1) := by decide +kernel
theorem dX2_sendPromised_94 : decode cX2_sendPromised 94 = .ok (.putfield 30, 3) := by decide +kernel
theorem dX2_sendPromised_97 : decode cX2_sendPromised 97 = .ok (.iload 4, 2) := by decide +kernel
theorem dX2_sendPromised_99 : decode cX2_sendPromised 99 = .ok (.ireturn, 1) := by decide +kernel
theorem dX2_tell_0 : decode cX2_tell 0 = .ok (.iload_n 1, 1) := by decide +kernel
theorem dX2_tell_1 : decode cX2_tell 1 = .ok (.tableswitch 141 0 13 #[71, 76, 81, 86, 91, 96, 101, 106, 111, 116, 121, 126, 131, 136], 71) := by decide +kernel
theorem dX2_tell_72 : decode cX2_tell 72 = .ok (.aload_n 0, 1) := by decide +kernel
theorem dX2_tell_73 : decode cX2_tell 73 = .ok (.getfield 15, 3) := by decide +kernel
theorem dX2_tell_76 : decode cX2_tell 76 = .ok (.ireturn, 1) := by decide +kernel
theorem dX2_tell_77 : decode cX2_tell 77 = .ok (.aload_n 0, 1) := by decide +kernel
theorem dX2_tell_78 : decode cX2_tell 78 = .ok (.getfield 18, 3) := by decide +kernel
theorem dX2_tell_81 : decode cX2_tell 81 = .ok (.ireturn, 1) := by decide +kernel
theorem dX2_tell_82 : decode cX2_tell 82 = .ok (.aload_n 0, 1) := by decide +kernel
theorem dX2_tell_83 : decode cX2_tell 83 = .ok (.getfield 21, 3) := by decide +kernel
theorem dX2_tell_86 : decode cX2_tell 86 = .ok (.ireturn, 1) := by decide +kernel
theorem dX2_tell_87 : decode cX2_tell 87 = .ok (.aload_n 0, 1) := by decide +kernel
theorem dX2_tell_88 : decode cX2_tell 88 = .ok (.getfield 24, 3) := by decide +kernel
theorem dX2_tell_91 : decode cX2_tell 91 = .ok (.ireturn, 1) := by decide +kernel
theorem dX2_tell_92 : decode cX2_tell 92 = .ok (.aload_n 0, 1) := by decide +kernel
theorem dX2_tell_93 : decode cX2_tell 93 = .ok (.getfield 27, 3) := by decide +kernel
theorem dX2_tell_96 : decode cX2_tell 96 = .ok (.ireturn, 1) := by decide +kernel
theorem dX2_tell_97 : decode cX2_tell 97 = .ok (.aload_n 0, 1) := by decide +kernel
theorem dX2_tell_98 : decode cX2_tell 98 = .ok (.getfield 30, 3) := by decide +kernel
theorem dX2_tell_101 : decode cX2_tell 101 = .ok (.ireturn, 1) := by decide +kernel
theorem dX2_tell_102 : decode cX2_tell 102 = .ok (.aload_n 0, 1) := by decide +kernel
theorem dX2_tell_103 : decode cX2_tell 103 = .ok (.getfield 33, 3) := by decide +kernel
theorem dX2_tell_106 : decode cX2_tell 106 = .ok (.ireturn, 1) := by decide +kernel
theorem dX2_tell_107 : decode cX2_tell 107 = .ok (.aload_n 0, 1) := by decide +kernel
theorem dX2_tell_108 : decode cX2_tell 108 = .ok (.getfield 36, 3) := by decide +kernel
theorem dX2_tell_111 : decode cX2_tell 111 = .ok (.ireturn, 1) := by decide +kernel
theorem dX2_tell_112 : decode cX2_tell 112 = .ok (.aload_n 0, 1) := by decide +kernel
theorem dX2_tell_113 : decode cX2_tell 113 = .ok (.getfield 39, 3) := by decide +kernel
theorem dX2_tell_116 : decode cX2_tell 116 = .ok (.ireturn, 1) := by decide +kernel
theorem dX2_tell_117 : decode cX2_tell 117 = .ok (.aload_n 0, 1) := by decide +kernel
theorem dX2_tell_118 : decode cX2_tell 118 = .ok (.getfield 42, 3) := by decide +kernel
theorem dX2_tell_121 : decode cX2_tell 121 = .ok (.ireturn, 1) := by decide +kernel
theorem dX2_tell_122 : decode cX2_tell 122 = .ok (.aload_n 0, 1) := by decide +kernel
theorem dX2_tell_123 : decode cX2_tell 123 = .ok (.getfield 45, 3) := by decide +kernel
theorem dX2_tell_126 : decode cX2_tell 126 = .ok (.ireturn, 1) := by decide +kernel
theorem dX2_tell_127 : decode cX2_tell 127 = .ok (.aload_n 0, 1) := by decide +kernel
theorem dX2_tell_128 : decode cX2_tell 128 = .ok (.getfield 48, 3) := by decide +kernel
theorem dX2_tell_131 : decode cX2_tell 131 = .ok (.ireturn, 1) := by decide +kernel
theorem dX2_tell_132 : decode cX2_tell 132 = .ok (.aload_n 0, 1) := by decide +kernel
theorem dX2_tell_133 : decode cX2_tell 133 = .ok (.getfield 51, 3) := by decide +kernel
theorem dX2_tell_136 : decode cX2_tell 136 = .ok (.ireturn, 1) := by decide +kernel
theorem dX2_tell_137 : decode cX2_tell 137 = .ok (.aload_n 0, 1) := by decide +kernel
theorem dX2_tell_138 : decode cX2_tell 138 = .ok (.getfield 54, 3) := by decide +kernel
theorem dX2_tell_141 : decode cX2_tell 141 = .ok (.ireturn, 1) := by decide +kernel
theorem dX2_tell_142 : decode cX2_tell 142 = .ok (.iconst (-1), 1) := by decide +kernel
theorem dX2_tell_143 : decode cX2_tell 143 = .ok (.ireturn, 1) := by decide +kernel
theorem dX3_addCoordinator_0 : decode cX3_addCoordinator 0 = .ok (.aload_n 0, 1) := by decide +kernel
theorem dX3_addCoordinator_1 : decode cX3_addCoordinator 1 = .ok (.getfield 34, 3) := by decide +kernel
theorem dX3_addCoordinator_4 : decode cX3_addCoordinator 4 = .ok (.istore_n 3, 1) := by decide +kernel
theorem dX3_addCoordinator_5 : decode cX3_addCoordinator 5 = .ok (.iload_n 3, 1) := by decide +kernel
theorem dX3_addCoordinator_6 : decode cX3_addCoordinator 6 = .ok (.ifCond .lt 32, 3) := by decide +kernel
theorem dX3_addCoordinator_9 : decode cX3_addCoordinator 9 = .ok (.iload_n 3, 1) := by decide +kernel
theorem dX3_addCoordinator_10 : decode cX3_addCoordinator 10 = .ok (.iconst 4, 1) := by decide +kernel
theorem dX3_addCoordinator_11 : decode cX3_addCoordinator 11 = .ok (.if_icmp .ge 27, 3) := by decide +kernel
theorem dX3_addCoordinator_14 : decode cX3_addCoordinator 14 = .ok (.aload_n 0, 1) := by decide +kernel
theorem dX3_addCoordinator_15 : decode cX3_addCoordinator 15 = .ok (.getfield 9, 3) := by decide +kernel
theorem dX3_addCoordinator_18 : decode cX3_addCoordinator 18 = .ok (.iload_n 3, 1) := by decide +kernel
theorem dX3_addCoordinator_19 : decode cX3_addCoordinator 19 = .ok (.iload_n 1, 1) := by decide +kernel
theorem dX3_addCoordinator_20 : decode cX3_addCoordinator 20 = .ok (.iastore, 1) := by decide +kernel
theorem dX3_addCoordinator_21 : decode cX3_addCoordinator 21 = .ok (.aload_n 0, 1) := by decide +kernel
theorem dX3_addCoordinator_22 : decode cX3_addCoordinator 22 = .ok (.getfield 15, 3) := by decide +kernel
theorem dX3_addCoordinator_25 : decode cX3_addCoordinator 25 = .ok (.iload_n 3, 1) := by decide +kernel
theorem dX3_addCoordinator_26 : decode cX3_addCoordinator 26 = .ok (.iload_n 2, 1) := by decide +kernel
theorem dX3_addCoordinator_27 : decode cX3_addCoordinator 27 = .ok (.iastore, 1) := by decide +kernel
theorem dX3_addCoordinator_28 : decode cX3_addCoordinator 28 = .ok (.aload_n 0, 1) := by decide +kernel
theorem dX3_addCoordinator_29 : decode cX3_addCoordinator 29 = .ok (.dup, 1) := by decide +kernel
theorem dX3_addCoordinator_30 : decode cX3_addCoordinator 30 = .ok (.getfield 34, 3) := by decide +kernel
theorem dX3_addCoordinator_33 : decode cX3_addCoordinator 33 = .ok (.iconst 1, 1) := by decide +kernel
theorem dX3_addCoordinator_34 : decode cX3_addCoordinator 34 = .ok (.iadd, 1) := by decide +kernel
theorem dX3_addCoordinator_35 : decode cX3_addCoordinator 35 = .ok (.putfield 34, 3) := by decide +kernel
theorem dX3_addCoordinator_38 : decode cX3_addCoordinator 38 = .ok (.return_, 1) := by decide +kernel
theorem dX3_clear_0 : decode cX3_clear 0 = .ok (.aload_n 0, 1) := by decide +kernel
theorem dX3_clear_1 : decode cX3_clear 1 = .ok (.iconst 4, 1) := by decide +kernel
theorem dX3_clear_2 : decode cX3_clear 2 = .ok (.putfield 27, 3) := by decide +kernel
theorem dX3_clear_5 : decode cX3_clear 5 = .ok (.aload_n 0, 1) := by decide +kernel
theorem dX3_clear_6 : decode cX3_clear 6 = .ok (.iconst 0, 1) := by decide +kernel
theorem dX3_clear_7 : decode cX3_clear 7 = .ok (.putfield 31, 3) := by decide +kernel
theorem dX3_clear_10 : decode cX3_clear 10 = .ok (.aload_n 0, 1) := by decide +kernel
theorem dX3_clear_11 : decode cX3_clear 11 = .ok (.iconst 0, 1) := by decide +kernel
theorem dX3_clear_12 : decode cX3_clear 12 = .ok (.putfield 34, 3) := by decide +kernel
theorem dX3_clear_15 : decode cX3_clear 15 = .ok (.aload_n 0, 1) := by decide +kernel
theorem dX3_clear_16 : decode cX3_clear 16 = .ok (.bipush (-4), 2) := by decide +kernel
theorem dX3_clear_18 : decode cX3_clear 18 = .ok (.iconst 0, 1) := by decide +kernel
theorem dX3_clear_19 : decode cX3_clear 19 = .ok (.invokevirtual 37, 3) := by decide +kernel
theorem dX3_clear_22 : decode cX3_clear 22 = .ok (.return_, 1) := by decide +kernel
theorem dX3_setOrders_0 : decode cX3_setOrders 0 = .ok (.aload_n 0, 1) := by decide +kernel
theorem dX3_setOrders_1 : decode cX3_setOrders 1 = .ok (.bipush 48, 2) := by decide +kernel
theorem dX3_setOrders_3 : decode cX3_setOrders 3 = .ok (.iload_n 1, 1) := by decide +kernel
theorem dX3_setOrders_4 : decode cX3_setOrders 4 = .ok (.ishl, 1) := by decide +kernel
theorem dX3_setOrders_5 : decode cX3_setOrders 5 = .ok (.putfield 41, 3) := by decide +kernel
theorem dX3_setOrders_8 : decode cX3_setOrders 8 = .ok (.aload_n 0, 1) := by decide +kernel
theorem dX3_setOrders_9 : decode cX3_setOrders 9 = .ok (.bipush 48, 2) := by decide +kernel
theorem dX3_setOrders_11 : decode cX3_setOrders 11 = .ok (.iload_n 2, 1) := by decide +kernel
theorem dX3_setOrders_12 : decode cX3_setOrders 12 = .ok (.ishl, 1) := by decide +kernel
theorem dX3_setOrders_13 : decode cX3_setOrders 13 = .ok (.putfield 44, 3) := by decide +kernel
theorem dX3_setOrders_16 : decode cX3_setOrders 16 = .ok (.aload_n 0, 1) := by decide +kernel
theorem dX3_setOrders_17 : decode cX3_setOrders 17 = .ok (.iconst 3, 1) := by decide +kernel
theorem dX3_setOrders_18 : decode cX3_setOrders 18 = .ok (.iload_n 2, 1) := by decide +kernel
theorem dX3_setOrders_19 : decode cX3_setOrders 19 = .ok (.ishl, 1) := by decide +kernel
theorem dX3_setOrders_20 : decode cX3_setOrders 20 = .ok (.putfield 47, 3) := by decide +kernel
theorem dX3_setOrders_23 : decode cX3_setOrders 23 = .ok (.aload_n 0, 1) := by decide +kernel
theorem dX3_setOrders_24 : decode cX3_setOrders 24 = .ok (.iload_n 3, 1) := by decide +kernel
theorem dX3_setOrders_25 : decode cX3_setOrders 25 = .ok (.putfield 50, 3) := by decide +kernel
theorem dX3_setOrders_28 : decode cX3_setOrders 28 = .ok (.return_, 1) := by decide +kernel
theorem dX3_startAt_0 : decode cX3_startAt 0 = .ok (.iload_n 1, 1) := by decide +kernel
theorem dX3_startAt_1 : decode cX3_startAt 1 = .ok (.ifCond .lt 29, 3) := by decide +kernel
theorem dX3_startAt_4 : decode cX3_startAt 4 = .ok (.iload_n 1, 1) := by decide +kernel
theorem dX3_startAt_5 : decode cX3_startAt 5 = .ok (.aload_n 0, 1) := by decide +kernel
theorem dX3_startAt_6 : decode cX3_startAt 6 = .ok (.getfield 34, 3) := by decide +kernel
theorem dX3_startAt_9 : decode cX3_startAt 9 = .ok (.if_icmp .ge 21, 3) := by decide +kernel
theorem dX3_startAt_12 : decode cX3_startAt 12 = .ok (.iload_n 1, 1) := by decide +kernel
theorem dX3_startAt_13 : decode cX3_startAt 13 = .ok (.aload_n 0, 1) := by decide +kernel
theorem dX3_startAt_14 : decode cX3_startAt 14 = .ok (.getfield 15, 3) := by decide +kernel
theorem dX3_startAt_17 : decode cX3_startAt 17 = .ok (.arraylength, 1) := by decide +kernel
theorem dX3_startAt_18 : decode cX3_startAt 18 = .ok (.if_icmp .ge 12, 3) := by decide +kernel
theorem dX3_startAt_21 : decode cX3_startAt 21 = .ok (.aload_n 0, 1) := by decide +kernel
theorem dX3_startAt_22 : decode cX3_startAt 22 = .ok (.getfield 15, 3) := by decide +kernel
theorem dX3_startAt_25 : decode cX3_startAt 25 = .ok (.iload_n 1, 1) := by decide +kernel
theorem dX3_startAt_26 : decode cX3_startAt 26 = .ok (.iaload, 1) := by decide +kernel
theorem dX3_startAt_27 : decode cX3_startAt 27 = .ok (.goto 4, 3) := by decide +kernel
theorem dX3_startAt_30 : decode cX3_startAt 30 = .ok (.iconst 0, 1) := by decide +kernel
theorem dX3_startAt_31 : decode cX3_startAt 31 = .ok (.ireturn, 1) := by decide +kernel
theorem dX3_startBehind_0 : decode cX3_startBehind 0 = .ok (.aload_n 0, 1) := by decide +kernel
theorem dX3_startBehind_1 : decode cX3_startBehind 1 = .ok (.iload_n 1, 1) := by decide +kernel
theorem dX3_startBehind_2 : decode cX3_startBehind 2 = .ok (.invokevirtual 53, 3) := by decide +kernel
theorem dX3_startBehind_5 : decode cX3_startBehind 5 = .ok (.iload_n 2, 1) := by decide +kernel
theorem dX3_startBehind_6 : decode cX3_startBehind 6 = .ok (.iadd, 1) := by decide +kernel
theorem dX3_startBehind_7 : decode cX3_startBehind 7 = .ok (.istore_n 3, 1) := by decide +kernel
theorem dX3_startBehind_8 : decode cX3_startBehind 8 = .ok (.iload_n 3, 1) := by decide +kernel
theorem dX3_startBehind_9 : decode cX3_startBehind 9 = .ok (.aload_n 0, 1) := by decide +kernel
theorem dX3_startBehind_10 : decode cX3_startBehind 10 = .ok (.getfield 41, 3) := by decide +kernel
theorem dX3_startBehind_13 : decode cX3_startBehind 13 = .ok (.if_icmp .lt 12, 3) := by decide +kernel
theorem dX3_startBehind_16 : decode cX3_startBehind 16 = .ok (.iload_n 3, 1) := by decide +kernel
theorem dX3_startBehind_17 : decode cX3_startBehind 17 = .ok (.aload_n 0, 1) := by decide +kernel
theorem dX3_startBehind_18 : decode cX3_startBehind 18 = .ok (.getfield 41, 3) := by decide +kernel
theorem dX3_startBehind_21 : decode cX3_startBehind 21 = .ok (.isub, 1) := by decide +kernel
theorem dX3_startBehind_22 : decode cX3_startBehind 22 = .ok (.goto 4, 3) := by decide +kernel
theorem dX3_startBehind_25 : decode cX3_startBehind 25 = .ok (.iload_n 3, 1) := by decide +kernel
theorem dX3_startBehind_26 : decode cX3_startBehind 26 = .ok (.ireturn, 1) := by decide +kernel
theorem dX3_clashOf_0 : decode cX3_clashOf 0 = .ok (.iconst 0, 1) := by decide +kernel
theorem dX3_clashOf_1 : decode cX3_clashOf 1 = .ok (.istore_n 2, 1) := by decide +kernel
theorem dX3_clashOf_2 : decode cX3_clashOf 2 = .ok (.iload_n 2, 1) := by decide +kernel
theorem dX3_clashOf_3 : decode cX3_clashOf 3 = .ok (.aload_n 0, 1) := by decide +kernel
theorem dX3_clashOf_4 : decode cX3_clashOf 4 = .ok (.getfield 34, 3) := by decide +kernel
theorem dX3_clashOf_7 : decode cX3_clashOf 7 = .ok (.if_icmp .ge 53, 3) := by decide +kernel
theorem dX3_clashOf_10 : decode cX3_clashOf 10 = .ok (.iload_n 2, 1) := by decide +kernel
theorem dX3_clashOf_11 : decode cX3_clashOf 11 = .ok (.aload_n 0, 1) := by decide +kernel
theorem dX3_clashOf_12 : decode cX3_clashOf 12 = .ok (.getfield 15, 3) := by decide +kernel
theorem dX3_clashOf_15 : decode cX3_clashOf 15 = .ok (.arraylength, 1) := by decide +kernel
theorem dX3_clashOf_16 : decode cX3_clashOf 16 = .ok (.if_icmp .ge 44, 3) := by decide +kernel
theorem dX3_clashOf_19 : decode cX3_clashOf 19 = .ok (.iload_n 1, 1) := by decide +kernel
theorem dX3_clashOf_20 : decode cX3_clashOf 20 = .ok (.aload_n 0, 1) := by decide +kernel
theorem dX3_clashOf_21 : decode cX3_clashOf 21 = .ok (.getfield 15, 3) := by decide +kernel
theorem dX3_clashOf_24 : decode cX3_clashOf 24 = .ok (.iload_n 2, 1) := by decide +kernel
theorem dX3_clashOf_25 : decode cX3_clashOf 25 = .ok (.iaload, 1) := by decide +kernel
theorem dX3_clashOf_26 : decode cX3_clashOf 26 = .ok (.isub, 1) := by decide +kernel
theorem dX3_clashOf_27 : decode cX3_clashOf 27 = .ok (.invokestatic 57, 3) := by decide +kernel
theorem dX3_clashOf_30 : decode cX3_clashOf 30 = .ok (.istore_n 3, 1) := by decide +kernel
theorem dX3_clashOf_31 : decode cX3_clashOf 31 = .ok (.iload_n 3, 1) := by decide +kernel
theorem dX3_clashOf_32 : decode cX3_clashOf 32 = .ok (.aload_n 0, 1) := by decide +kernel
theorem dX3_clashOf_33 : decode cX3_clashOf 33 = .ok (.getfield 44, 3) := by decide +kernel
theorem dX3_clashOf_36 : decode cX3_clashOf 36 = .ok (.if_icmp .lt 16, 3) := by decide +kernel
theorem dX3_clashOf_39 : decode cX3_clashOf 39 = .ok (.aload_n 0, 1) := by decide +kernel
theorem dX3_clashOf_40 : decode cX3_clashOf 40 = .ok (.getfield 41, 3) := by decide +kernel
theorem dX3_clashOf_43 : decode cX3_clashOf 43 = .ok (.iload_n 3, 1) := by decide +kernel
theorem dX3_clashOf_44 : decode cX3_clashOf 44 = .ok (.isub, 1) := by decide +kernel
theorem dX3_clashOf_45 : decode cX3_clashOf 45 = .ok (.aload_n 0, 1) := by decide +kernel
theorem dX3_clashOf_46 : decode cX3_clashOf 46 = .ok (.getfield 44, 3) := by decide +kernel
theorem dX3_clashOf_49 : decode cX3_clashOf 49 = .ok (.if_icmp .ge 5, 3) := by decide +kernel
theorem dX3_clashOf_52 : decode cX3_clashOf 52 = .ok (.iload_n 2, 1) := by decide +kernel
theorem dX3_clashOf_53 : decode cX3_clashOf 53 = .ok (.ireturn, 1) := by decide +kernel
theorem dX3_clashOf_54 : decode cX3_clashOf 54 = .ok (.iinc 2 1, 3) := by decide +kernel
theorem dX3_clashOf_57 : decode cX3_clashOf 57 = .ok (.goto (-55), 3) := by decide +kernel
theorem dX3_clashOf_60 : decode cX3_clashOf 60 = .ok (.bipush (-4), 2) := by decide +kernel
theorem dX3_clashOf_62 : decode cX3_clashOf 62 = .ok (.ireturn, 1) := by decide +kernel
theorem dX3_addDevice_0 : decode cX3_addDevice 0 = .ok (.aload_n 0, 1) := by decide +kernel
theorem dX3_addDevice_1 : decode cX3_addDevice 1 = .ok (.getfield 31, 3) := by decide +kernel
theorem dX3_addDevice_4 : decode cX3_addDevice 4 = .ok (.istore 4, 2) := by decide +kernel
theorem dX3_addDevice_6 : decode cX3_addDevice 6 = .ok (.iload 4, 2) := by decide +kernel
theorem dX3_addDevice_8 : decode cX3_addDevice 8 = .ok (.ifCond .lt 44, 3) := by decide +kernel
theorem dX3_addDevice_11 : decode cX3_addDevice 11 = .ok (.iload 4, 2) := by decide +kernel
theorem dX3_addDevice_13 : decode cX3_addDevice 13 = .ok (.bipush 8, 2) := by decide +kernel
theorem dX3_addDevice_15 : decode cX3_addDevice 15 = .ok (.if_icmp .ge 37, 3) := by decide +kernel
theorem dX3_addDevice_18 : decode cX3_addDevice 18 = .ok (.aload_n 0, 1) := by decide +kernel
theorem dX3_addDevice_19 : decode cX3_addDevice 19 = .ok (.getfield 18, 3) := by decide +kernel
theorem dX3_addDevice_22 : decode cX3_addDevice 22 = .ok (.iload 4, 2) := by decide +kernel
theorem dX3_addDevice_24 : decode cX3_addDevice 24 = .ok (.iload_n 1, 1) := by decide +kernel
theorem dX3_addDevice_25 : decode cX3_addDevice 25 = .ok (.iastore, 1) := by decide +kernel
theorem dX3_addDevice_26 : decode cX3_addDevice 26 = .ok (.aload_n 0, 1) := by decide +kernel
theorem dX3_addDevice_27 : decode cX3_addDevice 27 = .ok (.getfield 21, 3) := by decide +kernel
theorem dX3_addDevice_30 : decode cX3_addDevice 30 = .ok (.iload 4, 2) := by decide +kernel
theorem dX3_addDevice_32 : decode cX3_addDevice 32 = .ok (.iload_n 2, 1) := by decide +kernel
theorem dX3_addDevice_33 : decode cX3_addDevice 33 = .ok (.iastore, 1) := by decide +kernel
theorem dX3_addDevice_34 : decode cX3_addDevice 34 = .ok (.aload_n 0, 1) := by decide +kernel
theorem dX3_addDevice_35 : decode cX3_addDevice 35 = .ok (.getfield 24, 3) := by decide +kernel
theorem dX3_addDevice_38 : decode cX3_addDevice 38 = .ok (.iload 4, 2) := by decide +kernel
theorem dX3_addDevice_40 : decode cX3_addDevice 40 = .ok (.iload_n 3, 1) := by decide +kernel
theorem dX3_addDevice_41 : decode cX3_addDevice 41 = .ok (.iastore, 1) := by decide +kernel
theorem dX3_addDevice_42 : decode cX3_addDevice 42 = .ok (.aload_n 0, 1) := by decide +kernel
theorem dX3_addDevice_43 : decode cX3_addDevice 43 = .ok (.dup, 1) := by decide +kernel
theorem dX3_addDevice_44 : decode cX3_addDevice 44 = .ok (.getfield 31, 3) := by decide +kernel
theorem dX3_addDevice_47 : decode cX3_addDevice 47 = .ok (.iconst 1, 1) := by decide +kernel
theorem dX3_addDevice_48 : decode cX3_addDevice 48 = .ok (.iadd, 1) := by decide +kernel
theorem dX3_addDevice_49 : decode cX3_addDevice 49 = .ok (.putfield 31, 3) := by decide +kernel
theorem dX3_addDevice_52 : decode cX3_addDevice 52 = .ok (.return_, 1) := by decide +kernel
theorem dX3_parentAt_0 : decode cX3_parentAt 0 = .ok (.iload_n 1, 1) := by decide +kernel
theorem dX3_parentAt_1 : decode cX3_parentAt 1 = .ok (.ifCond .lt 29, 3) := by decide +kernel
theorem dX3_parentAt_4 : decode cX3_parentAt 4 = .ok (.iload_n 1, 1) := by decide +kernel
theorem dX3_parentAt_5 : decode cX3_parentAt 5 = .ok (.aload_n 0, 1) := by decide +kernel
theorem dX3_parentAt_6 : decode cX3_parentAt 6 = .ok (.getfield 34, 3) := by decide +kernel
theorem dX3_parentAt_9 : decode cX3_parentAt 9 = .ok (.if_icmp .ge 21, 3) := by decide +kernel
theorem dX3_parentAt_12 : decode cX3_parentAt 12 = .ok (.iload_n 1, 1) := by decide +kernel
theorem dX3_parentAt_13 : decode cX3_parentAt 13 = .ok (.aload_n 0, 1) := by decide +kernel
theorem dX3_parentAt_14 : decode cX3_parentAt 14 = .ok (.getfield 9, 3) := by decide +kernel
theorem dX3_parentAt_17 : decode cX3_parentAt 17 = .ok (.arraylength, 1) := by decide +kernel
theorem dX3_parentAt_18 : decode cX3_parentAt 18 = .ok (.if_icmp .ge 12, 3) := by decide +kernel
theorem dX3_parentAt_21 : decode cX3_parentAt 21 = .ok (.aload_n 0, 1) := by decide +kernel
theorem dX3_parentAt_22 : decode cX3_parentAt 22 = .ok (.getfield 9, 3) := by decide +kernel
theorem dX3_parentAt_25 : decode cX3_parentAt 25 = .ok (.iload_n 1, 1) := by decide +kernel
theorem dX3_parentAt_26 : decode cX3_parentAt 26 = .ok (.iaload, 1) := by decide +kernel
theorem dX3_parentAt_27 : decode cX3_parentAt 27 = .ok (.goto 5, 3) := by decide +kernel
theorem dX3_parentAt_30 : decode cX3_parentAt 30 = .ok (.bipush (-4), 2) := by decide +kernel
theorem dX3_parentAt_32 : decode cX3_parentAt 32 = .ok (.ireturn, 1) := by decide +kernel
theorem dX3_homeAt_0 : decode cX3_homeAt 0 = .ok (.iload_n 1, 1) := by decide +kernel
theorem dX3_homeAt_1 : decode cX3_homeAt 1 = .ok (.ifCond .lt 29, 3) := by decide +kernel
theorem dX3_homeAt_4 : decode cX3_homeAt 4 = .ok (.iload_n 1, 1) := by decide +kernel
theorem dX3_homeAt_5 : decode cX3_homeAt 5 = .ok (.aload_n 0, 1) := by decide +kernel
theorem dX3_homeAt_6 : decode cX3_homeAt 6 = .ok (.getfield 31, 3) := by decide +kernel
theorem dX3_homeAt_9 : decode cX3_homeAt 9 = .ok (.if_icmp .ge 21, 3) := by decide +kernel
theorem dX3_homeAt_12 : decode cX3_homeAt 12 = .ok (.iload_n 1, 1) := by decide +kernel
theorem dX3_homeAt_13 : decode cX3_homeAt 13 = .ok (.aload_n 0, 1) := by decide +kernel
theorem dX3_homeAt_14 : decode cX3_homeAt 14 = .ok (.getfield 18, 3) := by decide +kernel
theorem dX3_homeAt_17 : decode cX3_homeAt 17 = .ok (.arraylength, 1) := by decide +kernel
theorem dX3_homeAt_18 : decode cX3_homeAt 18 = .ok (.if_icmp .ge 12, 3) := by decide +kernel
theorem dX3_homeAt_21 : decode cX3_homeAt 21 = .ok (.aload_n 0, 1) := by decide +kernel
theorem dX3_homeAt_22 : decode cX3_homeAt 22 = .ok (.getfield 18, 3) := by decide +kernel
theorem dX3_homeAt_25 : decode cX3_homeAt 25 = .ok (.iload_n 1, 1) := by decide +kernel
theorem dX3_homeAt_26 : decode cX3_homeAt 26 = .ok (.iaload, 1) := by decide +kernel
theorem dX3_homeAt_27 : decode cX3_homeAt 27 = .ok (.goto 5, 3) := by decide +kernel
theorem dX3_homeAt_30 : decode cX3_homeAt 30 = .ok (.bipush (-4), 2) := by decide +kernel
theorem dX3_homeAt_32 : decode cX3_homeAt 32 = .ok (.ireturn, 1) := by decide +kernel
theorem dX3_lengthAt_0 : decode cX3_lengthAt 0 = .ok (.iload_n 1, 1) := by decide +kernel
theorem dX3_lengthAt_1 : decode cX3_lengthAt 1 = .ok (.ifCond .lt 29, 3) := by decide +kernel
theorem dX3_lengthAt_4 : decode cX3_lengthAt 4 = .ok (.iload_n 1, 1) := by decide +kernel
theorem dX3_lengthAt_5 : decode cX3_lengthAt 5 = .ok (.aload_n 0, 1) := by decide +kernel
theorem dX3_lengthAt_6 : decode cX3_lengthAt 6 = .ok (.getfield 31, 3) := by decide +kernel
theorem dX3_lengthAt_9 : decode cX3_lengthAt 9 = .ok (.if_icmp .ge 21, 3) := by decide +kernel
theorem dX3_lengthAt_12 : decode cX3_lengthAt 12 = .ok (.iload_n 1, 1) := by decide +kernel
theorem dX3_lengthAt_13 : decode cX3_lengthAt 13 = .ok (.aload_n 0, 1) := by decide +kernel
theorem dX3_lengthAt_14 : decode cX3_lengthAt 14 = .ok (.getfield 21, 3) := by decide +kernel
theorem dX3_lengthAt_17 : decode cX3_lengthAt 17 = .ok (.arraylength, 1) := by decide +kernel
theorem dX3_lengthAt_18 : decode cX3_lengthAt 18 = .ok (.if_icmp .ge 12, 3) := by decide +kernel
theorem dX3_lengthAt_21 : decode cX3_lengthAt 21 = .ok (.aload_n 0, 1) := by decide +kernel
theorem dX3_lengthAt_22 : decode cX3_lengthAt 22 = .ok (.getfield 21, 3) := by decide +kernel
theorem dX3_lengthAt_25 : decode cX3_lengthAt 25 = .ok (.iload_n 1, 1) := by decide +kernel
theorem dX3_lengthAt_26 : decode cX3_lengthAt 26 = .ok (.iaload, 1) := by decide +kernel
theorem dX3_lengthAt_27 : decode cX3_lengthAt 27 = .ok (.goto 4, 3) := by decide +kernel
theorem dX3_lengthAt_30 : decode cX3_lengthAt 30 = .ok (.iconst 1, 1) := by decide +kernel
theorem dX3_lengthAt_31 : decode cX3_lengthAt 31 = .ok (.ireturn, 1) := by decide +kernel
theorem dX3_exponentAt_0 : decode cX3_exponentAt 0 = .ok (.iload_n 1, 1) := by decide +kernel
theorem dX3_exponentAt_1 : decode cX3_exponentAt 1 = .ok (.ifCond .lt 29, 3) := by decide +kernel
theorem dX3_exponentAt_4 : decode cX3_exponentAt 4 = .ok (.iload_n 1, 1) := by decide +kernel
theorem dX3_exponentAt_5 : decode cX3_exponentAt 5 = .ok (.aload_n 0, 1) := by decide +kernel
theorem dX3_exponentAt_6 : decode cX3_exponentAt 6 = .ok (.getfield 31, 3) := by decide +kernel
theorem dX3_exponentAt_9 : decode cX3_exponentAt 9 = .ok (.if_icmp .ge 21, 3) := by decide +kernel
theorem dX3_exponentAt_12 : decode cX3_exponentAt 12 = .ok (.iload_n 1, 1) := by decide +kernel
theorem dX3_exponentAt_13 : decode cX3_exponentAt 13 = .ok (.aload_n 0, 1) := by decide +kernel
theorem dX3_exponentAt_14 : decode cX3_exponentAt 14 = .ok (.getfield 24, 3) := by decide +kernel
theorem dX3_exponentAt_17 : decode cX3_exponentAt 17 = .ok (.arraylength, 1) := by decide +kernel
theorem dX3_exponentAt_18 : decode cX3_exponentAt 18 = .ok (.if_icmp .ge 12, 3) := by decide +kernel
theorem dX3_exponentAt_21 : decode cX3_exponentAt 21 = .ok (.aload_n 0, 1) := by decide +kernel
theorem dX3_exponentAt_22 : decode cX3_exponentAt 22 = .ok (.getfield 24, 3) := by decide +kernel
theorem dX3_exponentAt_25 : decode cX3_exponentAt 25 = .ok (.iload_n 1, 1) := by decide +kernel
theorem dX3_exponentAt_26 : decode cX3_exponentAt 26 = .ok (.iaload, 1) := by decide +kernel
theorem dX3_exponentAt_27 : decode cX3_exponentAt 27 = .ok (.goto 4, 3) := by decide +kernel
theorem dX3_exponentAt_30 : decode cX3_exponentAt 30 = .ok (.iconst 0, 1) := by decide +kernel
theorem dX3_exponentAt_31 : decode cX3_exponentAt 31 = .ok (.ireturn, 1) := by decide +kernel
theorem dX3_firstBeacon_0 : decode cX3_firstBeacon 0 = .ok (.iload_n 2, 1) := by decide +kernel
theorem dX3_firstBeacon_1 : decode cX3_firstBeacon 1 = .ok (.iload_n 1, 1) := by decide +kernel
theorem dX3_firstBeacon_2 : decode cX3_firstBeacon 2 = .ok (.if_icmp .gt 5, 3) := by decide +kernel
theorem dX3_firstBeacon_5 : decode cX3_firstBeacon 5 = .ok (.iload_n 1, 1) := by decide +kernel
theorem dX3_firstBeacon_6 : decode cX3_firstBeacon 6 = .ok (.ireturn, 1) := by decide +kernel
theorem dX3_firstBeacon_7 : decode cX3_firstBeacon 7 = .ok (.iload_n 2, 1) := by decide +kernel
theorem dX3_firstBeacon_8 : decode cX3_firstBeacon 8 = .ok (.iload_n 1, 1) := by decide +kernel
theorem dX3_firstBeacon_9 : decode cX3_firstBeacon 9 = .ok (.isub, 1) := by decide +kernel
theorem dX3_firstBeacon_10 : decode cX3_firstBeacon 10 = .ok (.aload_n 0, 1) := by decide +kernel
theorem dX3_firstBeacon_11 : decode cX3_firstBeacon 11 = .ok (.getfield 41, 3) := by decide +kernel
theorem dX3_firstBeacon_14 : decode cX3_firstBeacon 14 = .ok (.iadd, 1) := by decide +kernel
theorem dX3_firstBeacon_15 : decode cX3_firstBeacon 15 = .ok (.iconst 1, 1) := by decide +kernel
theorem dX3_firstBeacon_16 : decode cX3_firstBeacon 16 = .ok (.isub, 1) := by decide +kernel
theorem dX3_firstBeacon_17 : decode cX3_firstBeacon 17 = .ok (.iconst 1, 1) := by decide +kernel
theorem dX3_firstBeacon_18 : decode cX3_firstBeacon 18 = .ok (.aload_n 0, 1) := by decide +kernel
theorem dX3_firstBeacon_19 : decode cX3_firstBeacon 19 = .ok (.getfield 41, 3) := by decide +kernel
theorem dX3_firstBeacon_22 : decode cX3_firstBeacon 22 = .ok (.invokestatic 62, 3) := by decide +kernel
theorem dX3_firstBeacon_25 : decode cX3_firstBeacon 25 = .ok (.idiv, 1) := by decide +kernel
theorem dX3_firstBeacon_26 : decode cX3_firstBeacon 26 = .ok (.istore_n 3, 1) := by decide +kernel
theorem dX3_firstBeacon_27 : decode cX3_firstBeacon 27 = .ok (.iload_n 1, 1) := by decide +kernel
theorem dX3_firstBeacon_28 : decode cX3_firstBeacon 28 = .ok (.iload_n 3, 1) := by decide +kernel
theorem dX3_firstBeacon_29 : decode cX3_firstBeacon 29 = .ok (.aload_n 0, 1) := by decide +kernel
theorem dX3_firstBeacon_30 : decode cX3_firstBeacon 30 = .ok (.getfield 41, 3) := by decide +kernel
theorem dX3_firstBeacon_33 : decode cX3_firstBeacon 33 = .ok (.imul, 1) := by decide +kernel
theorem dX3_firstBeacon_34 : decode cX3_firstBeacon 34 = .ok (.iadd, 1) := by decide +kernel
theorem dX3_firstBeacon_35 : decode cX3_firstBeacon 35 = .ok (.ireturn, 1) := by decide +kernel
theorem dX4_add_0 : decode cX4_add 0 = .ok (.aload_n 0, 1) := by decide +kernel
theorem dX4_add_1 : decode cX4_add 1 = .ok (.getfield 21, 3) := by decide +kernel
theorem dX4_add_4 : decode cX4_add 4 = .ok (.bipush 7, 2) := by decide +kernel
theorem dX4_add_6 : decode cX4_add 6 = .ok (.if_icmp .ge 43, 3) := by decide +kernel
theorem dX4_add_9 : decode cX4_add 9 = .ok (.aload_n 0, 1) := by decide +kernel
theorem dX4_add_10 : decode cX4_add 10 = .ok (.getfield 9, 3) := by decide +kernel
theorem dX4_add_13 : decode cX4_add 13 = .ok (.aload_n 0, 1) := by decide +kernel
theorem dX4_add_14 : decode cX4_add 14 = .ok (.getfield 21, 3) := by decide +kernel
theorem dX4_add_17 : decode cX4_add 17 = .ok (.iload_n 1, 1) := by decide +kernel
theorem dX4_add_18 : decode cX4_add 18 = .ok (.iastore, 1) := by decide +kernel
theorem dX4_add_19 : decode cX4_add 19 = .ok (.aload_n 0, 1) := by decide +kernel
theorem dX4_add_20 : decode cX4_add 20 = .ok (.getfield 15, 3) := by decide +kernel
theorem dX4_add_23 : decode cX4_add 23 = .ok (.aload_n 0, 1) := by decide +kernel
theorem dX4_add_24 : decode cX4_add 24 = .ok (.getfield 21, 3) := by decide +kernel
theorem dX4_add_27 : decode cX4_add 27 = .ok (.iload_n 2, 1) := by decide +kernel
theorem dX4_add_28 : decode cX4_add 28 = .ok (.iastore, 1) := by decide +kernel
theorem dX4_add_29 : decode cX4_add 29 = .ok (.aload_n 0, 1) := by decide +kernel
theorem dX4_add_30 : decode cX4_add 30 = .ok (.getfield 18, 3) := by decide +kernel
theorem dX4_add_33 : decode cX4_add 33 = .ok (.aload_n 0, 1) := by decide +kernel
theorem dX4_add_34 : decode cX4_add 34 = .ok (.getfield 21, 3) := by decide +kernel
theorem dX4_add_37 : decode cX4_add 37 = .ok (.iconst 0, 1) := by decide +kernel
theorem dX4_add_38 : decode cX4_add 38 = .ok (.iastore, 1) := by decide +kernel
theorem dX4_add_39 : decode cX4_add 39 = .ok (.aload_n 0, 1) := by decide +kernel
theorem dX4_add_40 : decode cX4_add 40 = .ok (.dup, 1) := by decide +kernel
theorem dX4_add_41 : decode cX4_add 41 = .ok (.getfield 21, 3) := by decide +kernel
theorem dX4_add_44 : decode cX4_add 44 = .ok (.iconst 1, 1) := by decide +kernel
theorem dX4_add_45 : decode cX4_add 45 = .ok (.iadd, 1) := by decide +kernel
theorem dX4_add_46 : decode cX4_add 46 = .ok (.putfield 21, 3) := by decide +kernel
theorem dX4_add_49 : decode cX4_add 49 = .ok (.return_, 1) := by decide +kernel
theorem dX4_removeIdle_0 : decode cX4_removeIdle 0 = .ok (.aload_n 0, 1) := by decide +kernel
theorem dX4_removeIdle_1 : decode cX4_removeIdle 1 = .ok (.getfield 21, 3) := by decide +kernel
theorem dX4_removeIdle_4 : decode cX4_removeIdle 4 = .ok (.iconst 1, 1) := by decide +kernel
theorem dX4_removeIdle_5 : decode cX4_removeIdle 5 = .ok (.isub, 1) := by decide +kernel
theorem dX4_removeIdle_6 : decode cX4_removeIdle 6 = .ok (.istore_n 2, 1) := by decide +kernel
theorem dX4_removeIdle_7 : decode cX4_removeIdle 7 = .ok (.iload_n 2, 1) := by decide +kernel
theorem dX4_removeIdle_8 : decode cX4_removeIdle 8 = .ok (.ifCond .lt 24, 3) := by decide +kernel
theorem dX4_removeIdle_11 : decode cX4_removeIdle 11 = .ok (.aload_n 0, 1) := by decide +kernel
theorem dX4_removeIdle_12 : decode cX4_removeIdle 12 = .ok (.iload_n 2, 1) := by decide +kernel
theorem dX4_removeIdle_13 : decode cX4_removeIdle 13 = .ok (.iconst 3, 1) := by decide +kernel
theorem dX4_removeIdle_14 : decode cX4_removeIdle 14 = .ok (.invokevirtual 32, 3) := by decide +kernel
theorem dX4_removeIdle_17 : decode cX4_removeIdle 17 = .ok (.iload_n 1, 1) := by decide +kernel
theorem dX4_removeIdle_18 : decode cX4_removeIdle 18 = .ok (.if_icmp .lt 8, 3) := by decide +kernel
theorem dX4_removeIdle_21 : decode cX4_removeIdle 21 = .ok (.aload_n 0, 1) := by decide +kernel
theorem dX4_removeIdle_22 : decode cX4_removeIdle 22 = .ok (.iload_n 2, 1) := by decide +kernel
theorem dX4_removeIdle_23 : decode cX4_removeIdle 23 = .ok (.invokevirtual 36, 3) := by decide +kernel
theorem dX4_removeIdle_26 : decode cX4_removeIdle 26 = .ok (.iinc 2 (-1), 3) := by decide +kernel
theorem dX4_removeIdle_29 : decode cX4_removeIdle 29 = .ok (.goto (-22), 3) := by decide +kernel
theorem dX4_removeIdle_32 : decode cX4_removeIdle 32 = .ok (.return_, 1) := by decide +kernel
theorem dX4_noteUse_0 : decode cX4_noteUse 0 = .ok (.iload_n 1, 1) := by decide +kernel
theorem dX4_noteUse_1 : decode cX4_noteUse 1 = .ok (.ifCond .lt 42, 3) := by decide +kernel
theorem dX4_noteUse_4 : decode cX4_noteUse 4 = .ok (.iload_n 1, 1) := by decide +kernel
theorem dX4_noteUse_5 : decode cX4_noteUse 5 = .ok (.aload_n 0, 1) := by decide +kernel
theorem dX4_noteUse_6 : decode cX4_noteUse 6 = .ok (.getfield 21, 3) := by decide +kernel
theorem dX4_noteUse_9 : decode cX4_noteUse 9 = .ok (.if_icmp .ge 34, 3) := by decide +kernel
theorem dX4_noteUse_12 : decode cX4_noteUse 12 = .ok (.iload_n 1, 1) := by decide +kernel
theorem dX4_noteUse_13 : decode cX4_noteUse 13 = .ok (.aload_n 0, 1) := by decide +kernel
theorem dX4_noteUse_14 : decode cX4_noteUse 14 = .ok (.getfield 18, 3) := by decide +kernel
theorem dX4_noteUse_17 : decode cX4_noteUse 17 = .ok (.arraylength, 1) := by decide +kernel
theorem dX4_noteUse_18 : decode cX4_noteUse 18 = .ok (.if_icmp .ge 25, 3) := by decide +kernel
theorem dX4_noteUse_21 : decode cX4_noteUse 21 = .ok (.aload_n 0, 1) := by decide +kernel
theorem dX4_noteUse_22 : decode cX4_noteUse 22 = .ok (.getfield 18, 3) := by decide +kernel
theorem dX4_noteUse_25 : decode cX4_noteUse 25 = .ok (.iload_n 1, 1) := by decide +kernel
theorem dX4_noteUse_26 : decode cX4_noteUse 26 = .ok (.iload_n 2, 1) := by decide +kernel
theorem dX4_noteUse_27 : decode cX4_noteUse 27 = .ok (.ifCond .eq 7, 3) := by decide +kernel
theorem dX4_noteUse_30 : decode cX4_noteUse 30 = .ok (.iconst 0, 1) := by decide +kernel
theorem dX4_noteUse_31 : decode cX4_noteUse 31 = .ok (.goto 11, 3) := by decide +kernel
theorem dX4_noteUse_34 : decode cX4_noteUse 34 = .ok (.aload_n 0, 1) := by decide +kernel
theorem dX4_noteUse_35 : decode cX4_noteUse 35 = .ok (.getfield 18, 3) := by decide +kernel
theorem dX4_noteUse_38 : decode cX4_noteUse 38 = .ok (.iload_n 1, 1) := by decide +kernel
theorem dX4_noteUse_39 : decode cX4_noteUse 39 = .ok (.iaload, 1) := by decide +kernel
theorem dX4_noteUse_40 : decode cX4_noteUse 40 = .ok (.iconst 1, 1) := by decide +kernel
theorem dX4_noteUse_41 : decode cX4_noteUse 41 = .ok (.iadd, 1) := by decide +kernel
theorem dX4_noteUse_42 : decode cX4_noteUse 42 = .ok (.iastore, 1) := by decide +kernel
theorem dX4_noteUse_43 : decode cX4_noteUse 43 = .ok (.return_, 1) := by decide +kernel
theorem dX6_at_0 : decode cX6_at 0 = .ok (.iload_n 1, 1) := by decide +kernel
theorem dX6_at_1 : decode cX6_at 1 = .ok (.ifCond .lt 29, 3) := by decide +kernel
theorem dX6_at_4 : decode cX6_at 4 = .ok (.iload_n 1, 1) := by decide +kernel
theorem dX6_at_5 : decode cX6_at 5 = .ok (.aload_n 0, 1) := by decide +kernel
theorem dX6_at_6 : decode cX6_at 6 = .ok (.getfield 21, 3) := by decide +kernel
theorem dX6_at_9 : decode cX6_at 9 = .ok (.if_icmp .ge 21, 3) := by decide +kernel
theorem dX6_at_12 : decode cX6_at 12 = .ok (.iload_n 1, 1) := by decide +kernel
theorem dX6_at_13 : decode cX6_at 13 = .ok (.aload_n 0, 1) := by decide +kernel
theorem dX6_at_14 : decode cX6_at 14 = .ok (.getfield 15, 3) := by decide +kernel
theorem dX6_at_17 : decode cX6_at 17 = .ok (.arraylength, 1) := by decide +kernel
theorem dX6_at_18 : decode cX6_at 18 = .ok (.if_icmp .ge 12, 3) := by decide +kernel
theorem dX6_at_21 : decode cX6_at 21 = .ok (.aload_n 0, 1) := by decide +kernel
theorem dX6_at_22 : decode cX6_at 22 = .ok (.getfield 15, 3) := by decide +kernel
theorem dX6_at_25 : decode cX6_at 25 = .ok (.iload_n 1, 1) := by decide +kernel
theorem dX6_at_26 : decode cX6_at 26 = .ok (.iaload, 1) := by decide +kernel
theorem dX6_at_27 : decode cX6_at 27 = .ok (.goto 5, 3) := by decide +kernel
theorem dX6_at_30 : decode cX6_at 30 = .ok (.bipush (-4), 2) := by decide +kernel
theorem dX6_at_32 : decode cX6_at 32 = .ok (.ireturn, 1) := by decide +kernel
theorem dX5_readNumber_0 : decode cX5_readNumber 0 = .ok (.iconst 0, 1) := by decide +kernel
theorem dX5_readNumber_1 : decode cX5_readNumber 1 = .ok (.istore 4, 2) := by decide +kernel
theorem dX5_readNumber_3 : decode cX5_readNumber 3 = .ok (.iconst 0, 1) := by decide +kernel
theorem dX5_readNumber_4 : decode cX5_readNumber 4 = .ok (.istore 5, 2) := by decide +kernel
theorem dX5_readNumber_6 : decode cX5_readNumber 6 = .ok (.iload 5, 2) := by decide +kernel
theorem dX5_readNumber_8 : decode cX5_readNumber 8 = .ok (.iload_n 1, 1) := by decide +kernel
theorem dX5_readNumber_9 : decode cX5_readNumber 9 = .ok (.if_icmp .ge 75, 3) := by decide +kernel
theorem dX5_readNumber_12 : decode cX5_readNumber 12 = .ok (.aload_n 0, 1) := by decide +kernel
theorem dX5_readNumber_13 : decode cX5_readNumber 13 = .ok (.getfield 24, 3) := by decide +kernel
theorem dX5_readNumber_16 : decode cX5_readNumber 16 = .ok (.ifCond .ne 68, 3) := by decide +kernel
theorem dX5_readNumber_19 : decode cX5_readNumber 19 = .ok (.aload_n 0, 1) := by decide +kernel
theorem dX5_readNumber_20 : decode cX5_readNumber 20 = .ok (.getfield 9, 3) := by decide +kernel
theorem dX5_readNumber_23 : decode cX5_readNumber 23 = .ok (.aload_n 0, 1) := by decide +kernel
theorem dX5_readNumber_24 : decode cX5_readNumber 24 = .ok (.getfield 20, 3) := by decide +kernel
theorem dX5_readNumber_27 : decode cX5_readNumber 27 = .ok (.invokevirtual 36, 3) := by decide +kernel
theorem dX5_readNumber_30 : decode cX5_readNumber 30 = .ok (.istore 6, 2) := by decide +kernel
theorem dX5_readNumber_32 : decode cX5_readNumber 32 = .ok (.iload 6, 2) := by decide +kernel
theorem dX5_readNumber_34 : decode cX5_readNumber 34 = .ok (.bipush 48, 2) := by decide +kernel
theorem dX5_readNumber_36 : decode cX5_readNumber 36 = .ok (.if_icmp .lt 10, 3) := by decide +kernel
theorem dX5_readNumber_39 : decode cX5_readNumber 39 = .ok (.iload 6, 2) := by decide +kernel
theorem dX5_readNumber_41 : decode cX5_readNumber 41 = .ok (.bipush 57, 2) := by decide +kernel
theorem dX5_readNumber_43 : decode cX5_readNumber 43 = .ok (.if_icmp .le 12, 3) := by decide +kernel
theorem dX5_readNumber_46 : decode cX5_readNumber 46 = .ok (.aload_n 0, 1) := by decide +kernel
theorem dX5_readNumber_47 : decode cX5_readNumber 47 = .ok (.bipush 11, 2) := by decide +kernel
theorem dX5_readNumber_49 : decode cX5_readNumber 49 = .ok (.putfield 24, 3) := by decide +kernel
theorem dX5_readNumber_52 : decode cX5_readNumber 52 = .ok (.goto 26, 3) := by decide +kernel
theorem dX5_readNumber_55 : decode cX5_readNumber 55 = .ok (.iload 4, 2) := by decide +kernel
theorem dX5_readNumber_57 : decode cX5_readNumber 57 = .ok (.bipush 10, 2) := by decide +kernel
theorem dX5_readNumber_59 : decode cX5_readNumber 59 = .ok (.imul, 1) := by decide +kernel
theorem dX5_readNumber_60 : decode cX5_readNumber 60 = .ok (.iload 6, 2) := by decide +kernel
theorem dX5_readNumber_62 : decode cX5_readNumber 62 = .ok (.iadd, 1) := by decide +kernel
theorem dX5_readNumber_63 : decode cX5_readNumber 63 = .ok (.bipush 48, 2) := by decide +kernel
theorem dX5_readNumber_65 : decode cX5_readNumber 65 = .ok (.isub, 1) := by decide +kernel
theorem dX5_readNumber_66 : decode cX5_readNumber 66 = .ok (.istore 4, 2) := by decide +kernel
theorem dX5_readNumber_68 : decode cX5_readNumber 68 = .ok (.aload_n 0, 1) := by decide +kernel
theorem dX5_readNumber_69 : decode cX5_readNumber 69 = .ok (.dup, 1) := by decide +kernel
theorem dX5_readNumber_70 : decode cX5_readNumber 70 = .ok (.getfield 20, 3) := by decide +kernel
theorem dX5_readNumber_73 : decode cX5_readNumber 73 = .ok (.iconst 1, 1) := by decide +kernel
theorem dX5_readNumber_74 : decode cX5_readNumber 74 = .ok (.iadd, 1) := by decide +kernel
theorem dX5_readNumber_75 : decode cX5_readNumber 75 = .ok (.putfield 20, 3) := by decide +kernel
theorem dX5_readNumber_78 : decode cX5_readNumber 78 = .ok (.iinc 5 1, 3) := by decide +kernel
theorem dX5_readNumber_81 : decode cX5_readNumber 81 = .ok (.goto (-75), 3) := by decide +kernel
theorem dX5_readNumber_84 : decode cX5_readNumber 84 = .ok (.aload_n 0, 1) := by decide +kernel
theorem dX5_readNumber_85 : decode cX5_readNumber 85 = .ok (.getfield 24, 3) := by decide +kernel
theorem dX5_readNumber_88 : decode cX5_readNumber 88 = .ok (.ifCond .ne 21, 3) := by decide +kernel
theorem dX5_readNumber_91 : decode cX5_readNumber 91 = .ok (.iload 4, 2) := by decide +kernel
theorem dX5_readNumber_93 : decode cX5_readNumber 93 = .ok (.iload_n 2, 1) := by decide +kernel
theorem dX5_readNumber_94 : decode cX5_readNumber 94 = .ok (.if_icmp .lt 9, 3) := by decide +kernel
theorem dX5_readNumber_97 : decode cX5_readNumber 97 = .ok (.iload 4, 2) := by decide +kernel
theorem dX5_readNumber_99 : decode cX5_readNumber 99 = .ok (.iload_n 3, 1) := by decide +kernel
theorem dX5_readNumber_100 : decode cX5_readNumber 100 = .ok (.if_icmp .le 9, 3) := by decide +kernel
theorem dX5_readNumber_103 : decode cX5_readNumber 103 = .ok (.aload_n 0, 1) := by decide +kernel
theorem dX5_readNumber_104 : decode cX5_readNumber 104 = .ok (.bipush 12, 2) := by decide +kernel
theorem dX5_readNumber_106 : decode cX5_readNumber 106 = .ok (.putfield 24, 3) := by decide +kernel
theorem dX5_readNumber_109 : decode cX5_readNumber 109 = .ok (.iload 4, 2) := by decide +kernel
theorem dX5_readNumber_111 : decode cX5_readNumber 111 = .ok (.ireturn, 1) := by decide +kernel

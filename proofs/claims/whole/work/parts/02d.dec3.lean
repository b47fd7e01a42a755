theorem dX8_empty_0 : decode cX8_empty 0 = .ok (.aload_n 0, 1) := by decide +kernel
theorem dX8_empty_1 : decode cX8_empty 1 = .ok (.iconst (-1), 1) := by decide +kernel
theorem dX8_empty_2 : decode cX8_empty 2 = .ok (.putfield 124, 3) := by decide +kernel
theorem dX8_empty_5 : decode cX8_empty 5 = .ok (.aload_n 0, 1) := by decide +kernel
theorem dX8_empty_6 : decode cX8_empty 6 = .ok (.iconst 0, 1) := by decide +kernel
theorem dX8_empty_7 : decode cX8_empty 7 = .ok (.putfield 128, 3) := by decide +kernel
theorem dX8_empty_10 : decode cX8_empty 10 = .ok (.aload_n 0, 1) := by decide +kernel
theorem dX8_empty_11 : decode cX8_empty 11 = .ok (.iconst 0, 1) := by decide +kernel
theorem dX8_empty_12 : decode cX8_empty 12 = .ok (.putfield 131, 3) := by decide +kernel
theorem dX8_empty_15 : decode cX8_empty 15 = .ok (.aload_n 0, 1) := by decide +kernel
theorem dX8_empty_16 : decode cX8_empty 16 = .ok (.iconst 4, 1) := by decide +kernel
theorem dX8_empty_17 : decode cX8_empty 17 = .ok (.putfield 142, 3) := by decide +kernel
theorem dX8_empty_20 : decode cX8_empty 20 = .ok (.aload_n 0, 1) := by decide +kernel
theorem dX8_empty_21 : decode cX8_empty 21 = .ok (.iconst 1, 1) := by decide +kernel
theorem dX8_empty_22 : decode cX8_empty 22 = .ok (.putfield 151, 3) := by decide +kernel
theorem dX8_empty_25 : decode cX8_empty 25 = .ok (.aload_n 0, 1) := by decide +kernel
theorem dX8_empty_26 : decode cX8_empty 26 = .ok (.getfield 16, 3) := by decide +kernel
theorem dX8_empty_29 : decode cX8_empty 29 = .ok (.iconst 0, 1) := by decide +kernel
theorem dX8_empty_30 : decode cX8_empty 30 = .ok (.bipush (-4), 2) := by decide +kernel
theorem dX8_empty_32 : decode cX8_empty 32 = .ok (.iastore, 1) := by decide +kernel
theorem dX8_empty_33 : decode cX8_empty 33 = .ok (.aload_n 0, 1) := by decide +kernel
theorem dX8_empty_34 : decode cX8_empty 34 = .ok (.getfield 19, 3) := by decide +kernel
theorem dX8_empty_37 : decode cX8_empty 37 = .ok (.iconst 0, 1) := by decide +kernel
theorem dX8_empty_38 : decode cX8_empty 38 = .ok (.iconst 0, 1) := by decide +kernel
theorem dX8_empty_39 : decode cX8_empty 39 = .ok (.iastore, 1) := by decide +kernel
theorem dX8_empty_40 : decode cX8_empty 40 = .ok (.aload_n 0, 1) := by decide +kernel
theorem dX8_empty_41 : decode cX8_empty 41 = .ok (.iconst 0, 1) := by decide +kernel
theorem dX8_empty_42 : decode cX8_empty 42 = .ok (.putfield 154, 3) := by decide +kernel
theorem dX8_empty_45 : decode cX8_empty 45 = .ok (.return_, 1) := by decide +kernel
theorem dX8_deviceIs_0 : decode cX8_deviceIs 0 = .ok (.aload_n 0, 1) := by decide +kernel
theorem dX8_deviceIs_1 : decode cX8_deviceIs 1 = .ok (.getfield 22, 3) := by decide +kernel
theorem dX8_deviceIs_4 : decode cX8_deviceIs 4 = .ok (.aload_n 0, 1) := by decide +kernel
theorem dX8_deviceIs_5 : decode cX8_deviceIs 5 = .ok (.getfield 154, 3) := by decide +kernel
theorem dX8_deviceIs_8 : decode cX8_deviceIs 8 = .ok (.iload_n 1, 1) := by decide +kernel
theorem dX8_deviceIs_9 : decode cX8_deviceIs 9 = .ok (.iastore, 1) := by decide +kernel
theorem dX8_deviceIs_10 : decode cX8_deviceIs 10 = .ok (.aload_n 0, 1) := by decide +kernel
theorem dX8_deviceIs_11 : decode cX8_deviceIs 11 = .ok (.getfield 25, 3) := by decide +kernel
theorem dX8_deviceIs_14 : decode cX8_deviceIs 14 = .ok (.aload_n 0, 1) := by decide +kernel
theorem dX8_deviceIs_15 : decode cX8_deviceIs 15 = .ok (.getfield 154, 3) := by decide +kernel
theorem dX8_deviceIs_18 : decode cX8_deviceIs 18 = .ok (.iload_n 2, 1) := by decide +kernel
theorem dX8_deviceIs_19 : decode cX8_deviceIs 19 = .ok (.iastore, 1) := by decide +kernel
theorem dX8_deviceIs_20 : decode cX8_deviceIs 20 = .ok (.aload_n 0, 1) := by decide +kernel
theorem dX8_deviceIs_21 : decode cX8_deviceIs 21 = .ok (.getfield 28, 3) := by decide +kernel
theorem dX8_deviceIs_24 : decode cX8_deviceIs 24 = .ok (.aload_n 0, 1) := by decide +kernel
theorem dX8_deviceIs_25 : decode cX8_deviceIs 25 = .ok (.getfield 154, 3) := by decide +kernel
theorem dX8_deviceIs_28 : decode cX8_deviceIs 28 = .ok (.iload_n 3, 1) := by decide +kernel
theorem dX8_deviceIs_29 : decode cX8_deviceIs 29 = .ok (.iastore, 1) := by decide +kernel
theorem dX8_deviceIs_30 : decode cX8_deviceIs 30 = .ok (.aload_n 0, 1) := by decide +kernel
theorem dX8_deviceIs_31 : decode cX8_deviceIs 31 = .ok (.dup, 1) := by decide +kernel
theorem dX8_deviceIs_32 : decode cX8_deviceIs 32 = .ok (.getfield 154, 3) := by decide +kernel
theorem dX8_deviceIs_35 : decode cX8_deviceIs 35 = .ok (.iconst 1, 1) := by decide +kernel
theorem dX8_deviceIs_36 : decode cX8_deviceIs 36 = .ok (.iadd, 1) := by decide +kernel
theorem dX8_deviceIs_37 : decode cX8_deviceIs 37 = .ok (.putfield 154, 3) := by decide +kernel
theorem dX8_deviceIs_40 : decode cX8_deviceIs 40 = .ok (.return_, 1) := by decide +kernel
theorem dX8_coordIs_0 : decode cX8_coordIs 0 = .ok (.aload_n 0, 1) := by decide +kernel
theorem dX8_coordIs_1 : decode cX8_coordIs 1 = .ok (.getfield 16, 3) := by decide +kernel
theorem dX8_coordIs_4 : decode cX8_coordIs 4 = .ok (.aload_n 0, 1) := by decide +kernel
theorem dX8_coordIs_5 : decode cX8_coordIs 5 = .ok (.getfield 151, 3) := by decide +kernel
theorem dX8_coordIs_8 : decode cX8_coordIs 8 = .ok (.iload_n 1, 1) := by decide +kernel
theorem dX8_coordIs_9 : decode cX8_coordIs 9 = .ok (.iastore, 1) := by decide +kernel
theorem dX8_coordIs_10 : decode cX8_coordIs 10 = .ok (.aload_n 0, 1) := by decide +kernel
theorem dX8_coordIs_11 : decode cX8_coordIs 11 = .ok (.getfield 19, 3) := by decide +kernel
theorem dX8_coordIs_14 : decode cX8_coordIs 14 = .ok (.aload_n 0, 1) := by decide +kernel
theorem dX8_coordIs_15 : decode cX8_coordIs 15 = .ok (.getfield 151, 3) := by decide +kernel
theorem dX8_coordIs_18 : decode cX8_coordIs 18 = .ok (.iload_n 2, 1) := by decide +kernel
theorem dX8_coordIs_19 : decode cX8_coordIs 19 = .ok (.iastore, 1) := by decide +kernel
theorem dX8_coordIs_20 : decode cX8_coordIs 20 = .ok (.aload_n 0, 1) := by decide +kernel
theorem dX8_coordIs_21 : decode cX8_coordIs 21 = .ok (.dup, 1) := by decide +kernel
theorem dX8_coordIs_22 : decode cX8_coordIs 22 = .ok (.getfield 151, 3) := by decide +kernel
theorem dX8_coordIs_25 : decode cX8_coordIs 25 = .ok (.iconst 1, 1) := by decide +kernel
theorem dX8_coordIs_26 : decode cX8_coordIs 26 = .ok (.iadd, 1) := by decide +kernel
theorem dX8_coordIs_27 : decode cX8_coordIs 27 = .ok (.putfield 151, 3) := by decide +kernel
theorem dX8_coordIs_30 : decode cX8_coordIs 30 = .ok (.return_, 1) := by decide +kernel
theorem dX8_beatOf_0 : decode cX8_beatOf 0 = .ok (.bipush 48, 2) := by decide +kernel
theorem dX8_beatOf_2 : decode cX8_beatOf 2 = .ok (.iload_n 0, 1) := by decide +kernel
theorem dX8_beatOf_3 : decode cX8_beatOf 3 = .ok (.ishl, 1) := by decide +kernel
theorem dX8_beatOf_4 : decode cX8_beatOf 4 = .ok (.ireturn, 1) := by decide +kernel
theorem dX8_coordBegins_0 : decode cX8_coordBegins 0 = .ok (.aload_n 0, 1) := by decide +kernel
theorem dX8_coordBegins_1 : decode cX8_coordBegins 1 = .ok (.getfield 31, 3) := by decide +kernel
theorem dX8_coordBegins_4 : decode cX8_coordBegins 4 = .ok (.iload_n 1, 1) := by decide +kernel
theorem dX8_coordBegins_5 : decode cX8_coordBegins 5 = .ok (.iload_n 2, 1) := by decide +kernel
theorem dX8_coordBegins_6 : decode cX8_coordBegins 6 = .ok (.iastore, 1) := by decide +kernel
theorem dX8_coordBegins_7 : decode cX8_coordBegins 7 = .ok (.aload_n 0, 1) := by decide +kernel
theorem dX8_coordBegins_8 : decode cX8_coordBegins 8 = .ok (.getfield 34, 3) := by decide +kernel
theorem dX8_coordBegins_11 : decode cX8_coordBegins 11 = .ok (.iload_n 1, 1) := by decide +kernel
theorem dX8_coordBegins_12 : decode cX8_coordBegins 12 = .ok (.iload_n 3, 1) := by decide +kernel
theorem dX8_coordBegins_13 : decode cX8_coordBegins 13 = .ok (.iastore, 1) := by decide +kernel
theorem dX8_coordBegins_14 : decode cX8_coordBegins 14 = .ok (.aload_n 0, 1) := by decide +kernel
theorem dX8_coordBegins_15 : decode cX8_coordBegins 15 = .ok (.getfield 40, 3) := by decide +kernel
theorem dX8_coordBegins_18 : decode cX8_coordBegins 18 = .ok (.iload_n 1, 1) := by decide +kernel
theorem dX8_coordBegins_19 : decode cX8_coordBegins 19 = .ok (.iconst 0, 1) := by decide +kernel
theorem dX8_coordBegins_20 : decode cX8_coordBegins 20 = .ok (.iastore, 1) := by decide +kernel
theorem dX8_coordBegins_21 : decode cX8_coordBegins 21 = .ok (.aload_n 0, 1) := by decide +kernel
theorem dX8_coordBegins_22 : decode cX8_coordBegins 22 = .ok (.getfield 46, 3) := by decide +kernel
theorem dX8_coordBegins_25 : decode cX8_coordBegins 25 = .ok (.iload_n 1, 1) := by decide +kernel
theorem dX8_coordBegins_26 : decode cX8_coordBegins 26 = .ok (.iconst 0, 1) := by decide +kernel
theorem dX8_coordBegins_27 : decode cX8_coordBegins 27 = .ok (.iastore, 1) := by decide +kernel
theorem dX8_coordBegins_28 : decode cX8_coordBegins 28 = .ok (.aload_n 0, 1) := by decide +kernel
theorem dX8_coordBegins_29 : decode cX8_coordBegins 29 = .ok (.getfield 43, 3) := by decide +kernel
theorem dX8_coordBegins_32 : decode cX8_coordBegins 32 = .ok (.iload_n 1, 1) := by decide +kernel
theorem dX8_coordBegins_33 : decode cX8_coordBegins 33 = .ok (.iconst 0, 1) := by decide +kernel
theorem dX8_coordBegins_34 : decode cX8_coordBegins 34 = .ok (.iastore, 1) := by decide +kernel
theorem dX8_coordBegins_35 : decode cX8_coordBegins 35 = .ok (.return_, 1) := by decide +kernel
theorem dX8_deviceBegins_0 : decode cX8_deviceBegins 0 = .ok (.aload_n 0, 1) := by decide +kernel
theorem dX8_deviceBegins_1 : decode cX8_deviceBegins 1 = .ok (.getfield 61, 3) := by decide +kernel
theorem dX8_deviceBegins_4 : decode cX8_deviceBegins 4 = .ok (.iload_n 1, 1) := by decide +kernel
theorem dX8_deviceBegins_5 : decode cX8_deviceBegins 5 = .ok (.aload_n 0, 1) := by decide +kernel
theorem dX8_deviceBegins_6 : decode cX8_deviceBegins 6 = .ok (.getfield 22, 3) := by decide +kernel
theorem dX8_deviceBegins_9 : decode cX8_deviceBegins 9 = .ok (.iload_n 1, 1) := by decide +kernel
theorem dX8_deviceBegins_10 : decode cX8_deviceBegins 10 = .ok (.iaload, 1) := by decide +kernel
theorem dX8_deviceBegins_11 : decode cX8_deviceBegins 11 = .ok (.iastore, 1) := by decide +kernel
theorem dX8_deviceBegins_12 : decode cX8_deviceBegins 12 = .ok (.aload_n 0, 1) := by decide +kernel
theorem dX8_deviceBegins_13 : decode cX8_deviceBegins 13 = .ok (.getfield 64, 3) := by decide +kernel
theorem dX8_deviceBegins_16 : decode cX8_deviceBegins 16 = .ok (.iload_n 1, 1) := by decide +kernel
theorem dX8_deviceBegins_17 : decode cX8_deviceBegins 17 = .ok (.aload_n 0, 1) := by decide +kernel
theorem dX8_deviceBegins_18 : decode cX8_deviceBegins 18 = .ok (.getfield 25, 3) := by decide +kernel
theorem dX8_deviceBegins_21 : decode cX8_deviceBegins 21 = .ok (.iload_n 1, 1) := by decide +kernel
theorem dX8_deviceBegins_22 : decode cX8_deviceBegins 22 = .ok (.iaload, 1) := by decide +kernel
theorem dX8_deviceBegins_23 : decode cX8_deviceBegins 23 = .ok (.iastore, 1) := by decide +kernel
theorem dX8_deviceBegins_24 : decode cX8_deviceBegins 24 = .ok (.aload_n 0, 1) := by decide +kernel
theorem dX8_deviceBegins_25 : decode cX8_deviceBegins 25 = .ok (.getfield 67, 3) := by decide +kernel
theorem dX8_deviceBegins_28 : decode cX8_deviceBegins 28 = .ok (.iload_n 1, 1) := by decide +kernel
theorem dX8_deviceBegins_29 : decode cX8_deviceBegins 29 = .ok (.aload_n 0, 1) := by decide +kernel
theorem dX8_deviceBegins_30 : decode cX8_deviceBegins 30 = .ok (.getfield 28, 3) := by decide +kernel
theorem dX8_deviceBegins_33 : decode cX8_deviceBegins 33 = .ok (.iload_n 1, 1) := by decide +kernel
theorem dX8_deviceBegins_34 : decode cX8_deviceBegins 34 = .ok (.iaload, 1) := by decide +kernel
theorem dX8_deviceBegins_35 : decode cX8_deviceBegins 35 = .ok (.iastore, 1) := by decide +kernel
theorem dX8_deviceBegins_36 : decode cX8_deviceBegins 36 = .ok (.aload_n 0, 1) := by decide +kernel
theorem dX8_deviceBegins_37 : decode cX8_deviceBegins 37 = .ok (.getfield 70, 3) := by decide +kernel
theorem dX8_deviceBegins_40 : decode cX8_deviceBegins 40 = .ok (.iload_n 1, 1) := by decide +kernel
theorem dX8_deviceBegins_41 : decode cX8_deviceBegins 41 = .ok (.iconst 0, 1) := by decide +kernel
theorem dX8_deviceBegins_42 : decode cX8_deviceBegins 42 = .ok (.iastore, 1) := by decide +kernel
theorem dX8_deviceBegins_43 : decode cX8_deviceBegins 43 = .ok (.aload_n 0, 1) := by decide +kernel
theorem dX8_deviceBegins_44 : decode cX8_deviceBegins 44 = .ok (.getfield 73, 3) := by decide +kernel
theorem dX8_deviceBegins_47 : decode cX8_deviceBegins 47 = .ok (.iload_n 1, 1) := by decide +kernel
theorem dX8_deviceBegins_48 : decode cX8_deviceBegins 48 = .ok (.iconst 0, 1) := by decide +kernel
theorem dX8_deviceBegins_49 : decode cX8_deviceBegins 49 = .ok (.iastore, 1) := by decide +kernel
theorem dX8_deviceBegins_50 : decode cX8_deviceBegins 50 = .ok (.aload_n 0, 1) := by decide +kernel
theorem dX8_deviceBegins_51 : decode cX8_deviceBegins 51 = .ok (.getfield 76, 3) := by decide +kernel
theorem dX8_deviceBegins_54 : decode cX8_deviceBegins 54 = .ok (.iload_n 1, 1) := by decide +kernel
theorem dX8_deviceBegins_55 : decode cX8_deviceBegins 55 = .ok (.iconst 0, 1) := by decide +kernel
theorem dX8_deviceBegins_56 : decode cX8_deviceBegins 56 = .ok (.iastore, 1) := by decide +kernel
theorem dX8_deviceBegins_57 : decode cX8_deviceBegins 57 = .ok (.aload_n 0, 1) := by decide +kernel
theorem dX8_deviceBegins_58 : decode cX8_deviceBegins 58 = .ok (.getfield 79, 3) := by decide +kernel
theorem dX8_deviceBegins_61 : decode cX8_deviceBegins 61 = .ok (.iload_n 1, 1) := by decide +kernel
theorem dX8_deviceBegins_62 : decode cX8_deviceBegins 62 = .ok (.iconst 0, 1) := by decide +kernel
theorem dX8_deviceBegins_63 : decode cX8_deviceBegins 63 = .ok (.iastore, 1) := by decide +kernel
theorem dX8_deviceBegins_64 : decode cX8_deviceBegins 64 = .ok (.aload_n 0, 1) := by decide +kernel
theorem dX8_deviceBegins_65 : decode cX8_deviceBegins 65 = .ok (.getfield 82, 3) := by decide +kernel
theorem dX8_deviceBegins_68 : decode cX8_deviceBegins 68 = .ok (.iload_n 1, 1) := by decide +kernel
theorem dX8_deviceBegins_69 : decode cX8_deviceBegins 69 = .ok (.iconst 0, 1) := by decide +kernel
theorem dX8_deviceBegins_70 : decode cX8_deviceBegins 70 = .ok (.iastore, 1) := by decide +kernel
theorem dX8_deviceBegins_71 : decode cX8_deviceBegins 71 = .ok (.aload_n 0, 1) := by decide +kernel
theorem dX8_deviceBegins_72 : decode cX8_deviceBegins 72 = .ok (.getfield 85, 3) := by decide +kernel
theorem dX8_deviceBegins_75 : decode cX8_deviceBegins 75 = .ok (.iload_n 1, 1) := by decide +kernel
theorem dX8_deviceBegins_76 : decode cX8_deviceBegins 76 = .ok (.iconst 0, 1) := by decide +kernel
theorem dX8_deviceBegins_77 : decode cX8_deviceBegins 77 = .ok (.iastore, 1) := by decide +kernel
theorem dX8_deviceBegins_78 : decode cX8_deviceBegins 78 = .ok (.aload_n 0, 1) := by decide +kernel
theorem dX8_deviceBegins_79 : decode cX8_deviceBegins 79 = .ok (.getfield 88, 3) := by decide +kernel
theorem dX8_deviceBegins_82 : decode cX8_deviceBegins 82 = .ok (.iload_n 1, 1) := by decide +kernel
theorem dX8_deviceBegins_83 : decode cX8_deviceBegins 83 = .ok (.iconst 0, 1) := by decide +kernel
theorem dX8_deviceBegins_84 : decode cX8_deviceBegins 84 = .ok (.iastore, 1) := by decide +kernel
theorem dX8_deviceBegins_85 : decode cX8_deviceBegins 85 = .ok (.aload_n 0, 1) := by decide +kernel
theorem dX8_deviceBegins_86 : decode cX8_deviceBegins 86 = .ok (.getfield 91, 3) := by decide +kernel
theorem dX8_deviceBegins_89 : decode cX8_deviceBegins 89 = .ok (.iload_n 1, 1) := by decide +kernel
theorem dX8_deviceBegins_90 : decode cX8_deviceBegins 90 = .ok (.aload_n 0, 1) := by decide +kernel
theorem dX8_deviceBegins_91 : decode cX8_deviceBegins 91 = .ok (.getfield 28, 3) := by decide +kernel
theorem dX8_deviceBegins_94 : decode cX8_deviceBegins 94 = .ok (.iload_n 1, 1) := by decide +kernel
theorem dX8_deviceBegins_95 : decode cX8_deviceBegins 95 = .ok (.iaload, 1) := by decide +kernel
theorem dX8_deviceBegins_96 : decode cX8_deviceBegins 96 = .ok (.iastore, 1) := by decide +kernel
theorem dX8_deviceBegins_97 : decode cX8_deviceBegins 97 = .ok (.aload_n 0, 1) := by decide +kernel
theorem dX8_deviceBegins_98 : decode cX8_deviceBegins 98 = .ok (.getfield 94, 3) := by decide +kernel
theorem dX8_deviceBegins_101 : decode cX8_deviceBegins 101 = .ok (.iload_n 1, 1) := by decide +kernel
theorem dX8_deviceBegins_102 : decode cX8_deviceBegins 102 = .ok (.iconst 0, 1) := by decide +kernel
theorem dX8_deviceBegins_103 : decode cX8_deviceBegins 103 = .ok (.iastore, 1) := by decide +kernel
theorem dX8_deviceBegins_104 : decode cX8_deviceBegins 104 = .ok (.aload_n 0, 1) := by decide +kernel
theorem dX8_deviceBegins_105 : decode cX8_deviceBegins 105 = .ok (.getfield 97, 3) := by decide +kernel
theorem dX8_deviceBegins_108 : decode cX8_deviceBegins 108 = .ok (.iload_n 1, 1) := by decide +kernel
theorem dX8_deviceBegins_109 : decode cX8_deviceBegins 109 = .ok (.iconst 0, 1) := by decide +kernel
theorem dX8_deviceBegins_110 : decode cX8_deviceBegins 110 = .ok (.iastore, 1) := by decide +kernel
theorem dX8_deviceBegins_111 : decode cX8_deviceBegins 111 = .ok (.aload_n 0, 1) := by decide +kernel
theorem dX8_deviceBegins_112 : decode cX8_deviceBegins 112 = .ok (.getfield 100, 3) := by decide +kernel
theorem dX8_deviceBegins_115 : decode cX8_deviceBegins 115 = .ok (.iload_n 1, 1) := by decide +kernel
theorem dX8_deviceBegins_116 : decode cX8_deviceBegins 116 = .ok (.iconst 0, 1) := by decide +kernel
theorem dX8_deviceBegins_117 : decode cX8_deviceBegins 117 = .ok (.iastore, 1) := by decide +kernel
theorem dX8_deviceBegins_118 : decode cX8_deviceBegins 118 = .ok (.return_, 1) := by decide +kernel
theorem dX8_begin_0 : decode cX8_begin 0 = .ok (.aload_n 0, 1) := by decide +kernel
theorem dX8_begin_1 : decode cX8_begin 1 = .ok (.aload_n 0, 1) := by decide +kernel
theorem dX8_begin_2 : decode cX8_begin 2 = .ok (.getfield 124, 3) := by decide +kernel
theorem dX8_begin_5 : decode cX8_begin 5 = .ok (.invokestatic 186, 3) := by decide +kernel
theorem dX8_begin_8 : decode cX8_begin 8 = .ok (.putfield 222, 3) := by decide +kernel
theorem dX8_begin_11 : decode cX8_begin 11 = .ok (.aload_n 0, 1) := by decide +kernel
theorem dX8_begin_12 : decode cX8_begin 12 = .ok (.aload_n 0, 1) := by decide +kernel
theorem dX8_begin_13 : decode cX8_begin 13 = .ok (.getfield 128, 3) := by decide +kernel
theorem dX8_begin_16 : decode cX8_begin 16 = .ok (.invokestatic 186, 3) := by decide +kernel
theorem dX8_begin_19 : decode cX8_begin 19 = .ok (.putfield 225, 3) := by decide +kernel
theorem dX8_begin_22 : decode cX8_begin 22 = .ok (.aload_n 0, 1) := by decide +kernel
theorem dX8_begin_23 : decode cX8_begin 23 = .ok (.iconst 3, 1) := by decide +kernel
theorem dX8_begin_24 : decode cX8_begin 24 = .ok (.aload_n 0, 1) := by decide +kernel
theorem dX8_begin_25 : decode cX8_begin 25 = .ok (.getfield 128, 3) := by decide +kernel
theorem dX8_begin_28 : decode cX8_begin 28 = .ok (.ishl, 1) := by decide +kernel
theorem dX8_begin_29 : decode cX8_begin 29 = .ok (.putfield 228, 3) := by decide +kernel
theorem dX8_begin_32 : decode cX8_begin 32 = .ok (.aload_n 0, 1) := by decide +kernel
theorem dX8_begin_33 : decode cX8_begin 33 = .ok (.aload_n 0, 1) := by decide +kernel
theorem dX8_begin_34 : decode cX8_begin 34 = .ok (.getfield 131, 3) := by decide +kernel
theorem dX8_begin_37 : decode cX8_begin 37 = .ok (.putfield 231, 3) := by decide +kernel
theorem dX8_begin_40 : decode cX8_begin 40 = .ok (.aload_n 0, 1) := by decide +kernel
theorem dX8_begin_41 : decode cX8_begin 41 = .ok (.aload_n 0, 1) := by decide +kernel
theorem dX8_begin_42 : decode cX8_begin 42 = .ok (.getfield 142, 3) := by decide +kernel
theorem dX8_begin_45 : decode cX8_begin 45 = .ok (.putfield 234, 3) := by decide +kernel
theorem dX8_begin_48 : decode cX8_begin 48 = .ok (.aload_n 0, 1) := by decide +kernel
theorem dX8_begin_49 : decode cX8_begin 49 = .ok (.iconst 0, 1) := by decide +kernel
theorem dX8_begin_50 : decode cX8_begin 50 = .ok (.putfield 237, 3) := by decide +kernel
theorem dX8_begin_53 : decode cX8_begin 53 = .ok (.aload_n 0, 1) := by decide +kernel
theorem dX8_begin_54 : decode cX8_begin 54 = .ok (.iconst 1, 1) := by decide +kernel
theorem dX8_begin_55 : decode cX8_begin 55 = .ok (.putfield 240, 3) := by decide +kernel
theorem dX8_begin_58 : decode cX8_begin 58 = .ok (.aload_n 0, 1) := by decide +kernel
theorem dX8_begin_59 : decode cX8_begin 59 = .ok (.iconst 0, 1) := by decide +kernel
theorem dX8_begin_60 : decode cX8_begin 60 = .ok (.putfield 243, 3) := by decide +kernel
theorem dX8_begin_63 : decode cX8_begin 63 = .ok (.aload_n 0, 1) := by decide +kernel
theorem dX8_begin_64 : decode cX8_begin 64 = .ok (.aload_n 0, 1) := by decide +kernel
theorem dX8_begin_65 : decode cX8_begin 65 = .ok (.getfield 151, 3) := by decide +kernel
theorem dX8_begin_68 : decode cX8_begin 68 = .ok (.putfield 246, 3) := by decide +kernel
theorem dX8_begin_71 : decode cX8_begin 71 = .ok (.iconst 0, 1) := by decide +kernel
theorem dX8_begin_72 : decode cX8_begin 72 = .ok (.istore_n 1, 1) := by decide +kernel
theorem dX8_begin_73 : decode cX8_begin 73 = .ok (.iload_n 1, 1) := by decide +kernel
theorem dX8_begin_74 : decode cX8_begin 74 = .ok (.iconst 4, 1) := by decide +kernel
theorem dX8_begin_75 : decode cX8_begin 75 = .ok (.if_icmp .ge 45, 3) := by decide +kernel
theorem dX8_begin_78 : decode cX8_begin 78 = .ok (.aload_n 0, 1) := by decide +kernel
theorem dX8_begin_79 : decode cX8_begin 79 = .ok (.getfield 43, 3) := by decide +kernel
theorem dX8_begin_82 : decode cX8_begin 82 = .ok (.iload_n 1, 1) := by decide +kernel
theorem dX8_begin_83 : decode cX8_begin 83 = .ok (.iconst 0, 1) := by decide +kernel
theorem dX8_begin_84 : decode cX8_begin 84 = .ok (.iastore, 1) := by decide +kernel
theorem dX8_begin_85 : decode cX8_begin 85 = .ok (.aload_n 0, 1) := by decide +kernel
theorem dX8_begin_86 : decode cX8_begin 86 = .ok (.iload_n 1, 1) := by decide +kernel
theorem dX8_begin_87 : decode cX8_begin 87 = .ok (.aload_n 0, 1) := by decide +kernel
theorem dX8_begin_88 : decode cX8_begin 88 = .ok (.getfield 16, 3) := by decide +kernel
theorem dX8_begin_91 : decode cX8_begin 91 = .ok (.iload_n 1, 1) := by decide +kernel
theorem dX8_begin_92 : decode cX8_begin 92 = .ok (.iaload, 1) := by decide +kernel
theorem dX8_begin_93 : decode cX8_begin 93 = .ok (.aload_n 0, 1) := by decide +kernel
theorem dX8_begin_94 : decode cX8_begin 94 = .ok (.getfield 19, 3) := by decide +kernel
theorem dX8_begin_97 : decode cX8_begin 97 = .ok (.iload_n 1, 1) := by decide +kernel
theorem dX8_begin_98 : decode cX8_begin 98 = .ok (.iaload, 1) := by decide +kernel
theorem dX8_begin_99 : decode cX8_begin 99 = .ok (.invokevirtual 249, 3) := by decide +kernel
theorem dX8_begin_102 : decode cX8_begin 102 = .ok (.aload_n 0, 1) := by decide +kernel
theorem dX8_begin_103 : decode cX8_begin 103 = .ok (.getfield 37, 3) := by decide +kernel
theorem dX8_begin_106 : decode cX8_begin 106 = .ok (.iload_n 1, 1) := by decide +kernel
theorem dX8_begin_107 : decode cX8_begin 107 = .ok (.aload_n 0, 1) := by decide +kernel
theorem dX8_begin_108 : decode cX8_begin 108 = .ok (.getfield 19, 3) := by decide +kernel
theorem dX8_begin_111 : decode cX8_begin 111 = .ok (.iload_n 1, 1) := by decide +kernel
theorem dX8_begin_112 : decode cX8_begin 112 = .ok (.iaload, 1) := by decide +kernel
theorem dX8_begin_113 : decode cX8_begin 113 = .ok (.iastore, 1) := by decide +kernel
theorem dX8_begin_114 : decode cX8_begin 114 = .ok (.iinc 1 1, 3) := by decide +kernel
theorem dX8_begin_117 : decode cX8_begin 117 = .ok (.goto (-44), 3) := by decide +kernel
theorem dX8_begin_120 : decode cX8_begin 120 = .ok (.aload_n 0, 1) := by decide +kernel
theorem dX8_begin_121 : decode cX8_begin 121 = .ok (.aload_n 0, 1) := by decide +kernel
theorem dX8_begin_122 : decode cX8_begin 122 = .ok (.getfield 154, 3) := by decide +kernel
theorem dX8_begin_125 : decode cX8_begin 125 = .ok (.putfield 219, 3) := by decide +kernel
theorem dX8_begin_128 : decode cX8_begin 128 = .ok (.iconst 0, 1) := by decide +kernel
theorem dX8_begin_129 : decode cX8_begin 129 = .ok (.istore_n 1, 1) := by decide +kernel
theorem dX8_begin_130 : decode cX8_begin 130 = .ok (.iload_n 1, 1) := by decide +kernel
theorem dX8_begin_131 : decode cX8_begin 131 = .ok (.bipush 8, 2) := by decide +kernel
theorem dX8_begin_133 : decode cX8_begin 133 = .ok (.if_icmp .ge 14, 3) := by decide +kernel
theorem dX8_begin_136 : decode cX8_begin 136 = .ok (.aload_n 0, 1) := by decide +kernel
theorem dX8_begin_137 : decode cX8_begin 137 = .ok (.iload_n 1, 1) := by decide +kernel
theorem dX8_begin_138 : decode cX8_begin 138 = .ok (.invokevirtual 252, 3) := by decide +kernel
theorem dX8_begin_141 : decode cX8_begin 141 = .ok (.iinc 1 1, 3) := by decide +kernel
theorem dX8_begin_144 : decode cX8_begin 144 = .ok (.goto (-14), 3) := by decide +kernel
theorem dX8_begin_147 : decode cX8_begin 147 = .ok (.iconst 0, 1) := by decide +kernel
theorem dX8_begin_148 : decode cX8_begin 148 = .ok (.istore_n 1, 1) := by decide +kernel
theorem dX8_begin_149 : decode cX8_begin 149 = .ok (.iload_n 1, 1) := by decide +kernel
theorem dX8_begin_150 : decode cX8_begin 150 = .ok (.aload_n 0, 1) := by decide +kernel
theorem dX8_begin_151 : decode cX8_begin 151 = .ok (.getfield 219, 3) := by decide +kernel
theorem dX8_begin_154 : decode cX8_begin 154 = .ok (.if_icmp .ge 26, 3) := by decide +kernel
theorem dX8_begin_157 : decode cX8_begin 157 = .ok (.aload_n 0, 1) := by decide +kernel
theorem dX8_begin_158 : decode cX8_begin 158 = .ok (.getfield 43, 3) := by decide +kernel
theorem dX8_begin_161 : decode cX8_begin 161 = .ok (.aload_n 0, 1) := by decide +kernel
theorem dX8_begin_162 : decode cX8_begin 162 = .ok (.getfield 61, 3) := by decide +kernel
theorem dX8_begin_165 : decode cX8_begin 165 = .ok (.iload_n 1, 1) := by decide +kernel
theorem dX8_begin_166 : decode cX8_begin 166 = .ok (.iaload, 1) := by decide +kernel
theorem dX8_begin_167 : decode cX8_begin 167 = .ok (.dup2, 1) := by decide +kernel
theorem dX8_begin_168 : decode cX8_begin 168 = .ok (.iaload, 1) := by decide +kernel
theorem dX8_begin_169 : decode cX8_begin 169 = .ok (.iconst 1, 1) := by decide +kernel
theorem dX8_begin_170 : decode cX8_begin 170 = .ok (.iload_n 1, 1) := by decide +kernel
theorem dX8_begin_171 : decode cX8_begin 171 = .ok (.ishl, 1) := by decide +kernel
theorem dX8_begin_172 : decode cX8_begin 172 = .ok (.ior, 1) := by decide +kernel
theorem dX8_begin_173 : decode cX8_begin 173 = .ok (.iastore, 1) := by decide +kernel
theorem dX8_begin_174 : decode cX8_begin 174 = .ok (.iinc 1 1, 3) := by decide +kernel
theorem dX8_begin_177 : decode cX8_begin 177 = .ok (.goto (-28), 3) := by decide +kernel
theorem dX8_begin_180 : decode cX8_begin 180 = .ok (.return_, 1) := by decide +kernel
theorem dX8_cause_0 : decode cX8_cause 0 = .ok (.iload_n 1, 1) := by decide +kernel
theorem dX8_cause_1 : decode cX8_cause 1 = .ok (.ifCond .ge 7, 3) := by decide +kernel
theorem dX8_cause_4 : decode cX8_cause 4 = .ok (.iconst (-1), 1) := by decide +kernel
theorem dX8_cause_5 : decode cX8_cause 5 = .ok (.goto 22, 3) := by decide +kernel
theorem dX8_cause_8 : decode cX8_cause 8 = .ok (.iload_n 1, 1) := by decide +kernel
theorem dX8_cause_9 : decode cX8_cause 9 = .ok (.aload_n 0, 1) := by decide +kernel
theorem dX8_cause_10 : decode cX8_cause 10 = .ok (.getfield 148, 3) := by decide +kernel
theorem dX8_cause_13 : decode cX8_cause 13 = .ok (.if_icmp .ge 12, 3) := by decide +kernel
theorem dX8_cause_16 : decode cX8_cause 16 = .ok (.aload_n 0, 1) := by decide +kernel
theorem dX8_cause_17 : decode cX8_cause 17 = .ok (.getfield 13, 3) := by decide +kernel
theorem dX8_cause_20 : decode cX8_cause 20 = .ok (.iload_n 1, 1) := by decide +kernel
theorem dX8_cause_21 : decode cX8_cause 21 = .ok (.iaload, 1) := by decide +kernel
theorem dX8_cause_22 : decode cX8_cause 22 = .ok (.goto 5, 3) := by decide +kernel
theorem dX8_cause_25 : decode cX8_cause 25 = .ok (.bipush (-4), 2) := by decide +kernel
theorem dX8_cause_27 : decode cX8_cause 27 = .ok (.ireturn, 1) := by decide +kernel
theorem dX8_in_0 : decode cX8_in 0 = .ok (.lload_n 0, 1) := by decide +kernel
theorem dX8_in_1 : decode cX8_in 1 = .ok (.lload_n 2, 1) := by decide +kernel
theorem dX8_in_2 : decode cX8_in 2 = .ok (.lcmp, 1) := by decide +kernel
theorem dX8_in_3 : decode cX8_in 3 = .ok (.ifCond .lt 14, 3) := by decide +kernel
theorem dX8_in_6 : decode cX8_in 6 = .ok (.lload_n 0, 1) := by decide +kernel
theorem dX8_in_7 : decode cX8_in 7 = .ok (.lload 4, 2) := by decide +kernel
theorem dX8_in_9 : decode cX8_in 9 = .ok (.lcmp, 1) := by decide +kernel
theorem dX8_in_10 : decode cX8_in 10 = .ok (.ifCond .gt 7, 3) := by decide +kernel
theorem dX8_in_13 : decode cX8_in 13 = .ok (.iconst 1, 1) := by decide +kernel
theorem dX8_in_14 : decode cX8_in 14 = .ok (.goto 4, 3) := by decide +kernel
theorem dX8_in_17 : decode cX8_in 17 = .ok (.iconst 0, 1) := by decide +kernel
theorem dX8_in_18 : decode cX8_in 18 = .ok (.ireturn, 1) := by decide +kernel
theorem dX8_write_0 : decode cX8_write 0 = .ok (.iload_n 1, 1) := by decide +kernel
theorem dX8_write_1 : decode cX8_write 1 = .ok (.i2l, 1) := by decide +kernel
theorem dX8_write_2 : decode cX8_write 2 = .ok (.ldc2_w 157, 3) := by decide +kernel
theorem dX8_write_5 : decode cX8_write 5 = .ok (.ldc2_w 159, 3) := by decide +kernel
theorem dX8_write_8 : decode cX8_write 8 = .ok (.invokestatic 161, 3) := by decide +kernel
theorem dX8_write_11 : decode cX8_write 11 = .ok (.ifCond .ne 5, 3) := by decide +kernel
theorem dX8_write_14 : decode cX8_write 14 = .ok (.iconst (-1), 1) := by decide +kernel
theorem dX8_write_15 : decode cX8_write 15 = .ok (.ireturn, 1) := by decide +kernel
theorem dX8_write_16 : decode cX8_write 16 = .ok (.aload_n 0, 1) := by decide +kernel
theorem dX8_write_17 : decode cX8_write 17 = .ok (.getfield 165, 3) := by decide +kernel
theorem dX8_write_20 : decode cX8_write 20 = .ok (.sipush 200, 3) := by decide +kernel
theorem dX8_write_23 : decode cX8_write 23 = .ok (.if_icmp .ne 6, 3) := by decide +kernel
theorem dX8_write_26 : decode cX8_write 26 = .ok (.bipush (-3), 2) := by decide +kernel
theorem dX8_write_28 : decode cX8_write 28 = .ok (.ireturn, 1) := by decide +kernel
theorem dX8_write_29 : decode cX8_write 29 = .ok (.aload_n 0, 1) := by decide +kernel
theorem dX8_write_30 : decode cX8_write 30 = .ok (.getfield 7, 3) := by decide +kernel
theorem dX8_write_33 : decode cX8_write 33 = .ok (.aload_n 0, 1) := by decide +kernel
theorem dX8_write_34 : decode cX8_write 34 = .ok (.getfield 165, 3) := by decide +kernel
theorem dX8_write_37 : decode cX8_write 37 = .ok (.iload_n 1, 1) := by decide +kernel
theorem dX8_write_38 : decode cX8_write 38 = .ok (.iastore, 1) := by decide +kernel
theorem dX8_write_39 : decode cX8_write 39 = .ok (.aload_n 0, 1) := by decide +kernel
theorem dX8_write_40 : decode cX8_write 40 = .ok (.dup, 1) := by decide +kernel
theorem dX8_write_41 : decode cX8_write 41 = .ok (.getfield 165, 3) := by decide +kernel
theorem dX8_write_44 : decode cX8_write 44 = .ok (.iconst 1, 1) := by decide +kernel
theorem dX8_write_45 : decode cX8_write 45 = .ok (.iadd, 1) := by decide +kernel
theorem dX8_write_46 : decode cX8_write 46 = .ok (.putfield 165, 3) := by decide +kernel
theorem dX8_write_49 : decode cX8_write 49 = .ok (.aload_n 0, 1) := by decide +kernel
theorem dX8_write_50 : decode cX8_write 50 = .ok (.getfield 165, 3) := by decide +kernel
theorem dX8_write_53 : decode cX8_write 53 = .ok (.ireturn, 1) := by decide +kernel
theorem dX8_wipe_0 : decode cX8_wipe 0 = .ok (.aload_n 0, 1) := by decide +kernel
theorem dX8_wipe_1 : decode cX8_wipe 1 = .ok (.getfield 165, 3) := by decide +kernel
theorem dX8_wipe_4 : decode cX8_wipe 4 = .ok (.istore_n 1, 1) := by decide +kernel
theorem dX8_wipe_5 : decode cX8_wipe 5 = .ok (.aload_n 0, 1) := by decide +kernel
theorem dX8_wipe_6 : decode cX8_wipe 6 = .ok (.iconst 0, 1) := by decide +kernel
theorem dX8_wipe_7 : decode cX8_wipe 7 = .ok (.putfield 165, 3) := by decide +kernel
theorem dX8_wipe_10 : decode cX8_wipe 10 = .ok (.iload_n 1, 1) := by decide +kernel
theorem dX8_wipe_11 : decode cX8_wipe 11 = .ok (.ireturn, 1) := by decide +kernel
theorem dX8_letterAt_0 : decode cX8_letterAt 0 = .ok (.iload_n 1, 1) := by decide +kernel
theorem dX8_letterAt_1 : decode cX8_letterAt 1 = .ok (.aload_n 0, 1) := by decide +kernel
theorem dX8_letterAt_2 : decode cX8_letterAt 2 = .ok (.getfield 165, 3) := by decide +kernel
theorem dX8_letterAt_5 : decode cX8_letterAt 5 = .ok (.if_icmp .ge 12, 3) := by decide +kernel
theorem dX8_letterAt_8 : decode cX8_letterAt 8 = .ok (.aload_n 0, 1) := by decide +kernel
theorem dX8_letterAt_9 : decode cX8_letterAt 9 = .ok (.getfield 7, 3) := by decide +kernel
theorem dX8_letterAt_12 : decode cX8_letterAt 12 = .ok (.iload_n 1, 1) := by decide +kernel
theorem dX8_letterAt_13 : decode cX8_letterAt 13 = .ok (.iaload, 1) := by decide +kernel
theorem dX8_letterAt_14 : decode cX8_letterAt 14 = .ok (.goto 4, 3) := by decide +kernel
theorem dX8_letterAt_17 : decode cX8_letterAt 17 = .ok (.iconst 0, 1) := by decide +kernel
theorem dX8_letterAt_18 : decode cX8_letterAt 18 = .ok (.ireturn, 1) := by decide +kernel
theorem dX8_number_0 : decode cX8_number 0 = .ok (.iconst 0, 1) := by decide +kernel
theorem dX8_number_1 : decode cX8_number 1 = .ok (.istore 4, 2) := by decide +kernel
theorem dX8_number_3 : decode cX8_number 3 = .ok (.iconst 0, 1) := by decide +kernel
theorem dX8_number_4 : decode cX8_number 4 = .ok (.istore 5, 2) := by decide +kernel
theorem dX8_number_6 : decode cX8_number 6 = .ok (.iload 5, 2) := by decide +kernel
theorem dX8_number_8 : decode cX8_number 8 = .ok (.iload_n 1, 1) := by decide +kernel
theorem dX8_number_9 : decode cX8_number 9 = .ok (.if_icmp .ge 75, 3) := by decide +kernel
theorem dX8_number_12 : decode cX8_number 12 = .ok (.aload_n 0, 1) := by decide +kernel
theorem dX8_number_13 : decode cX8_number 13 = .ok (.getfield 168, 3) := by decide +kernel
theorem dX8_number_16 : decode cX8_number 16 = .ok (.ifCond .ne 68, 3) := by decide +kernel
theorem dX8_number_19 : decode cX8_number 19 = .ok (.aload_n 0, 1) := by decide +kernel
theorem dX8_number_20 : decode cX8_number 20 = .ok (.aload_n 0, 1) := by decide +kernel
theorem dX8_number_21 : decode cX8_number 21 = .ok (.getfield 171, 3) := by decide +kernel
theorem dX8_number_24 : decode cX8_number 24 = .ok (.invokevirtual 174, 3) := by decide +kernel
theorem dX8_number_27 : decode cX8_number 27 = .ok (.i2l, 1) := by decide +kernel
theorem dX8_number_28 : decode cX8_number 28 = .ok (.ldc2_w 178, 3) := by decide +kernel
theorem dX8_number_31 : decode cX8_number 31 = .ok (.ldc2_w 180, 3) := by decide +kernel
theorem dX8_number_34 : decode cX8_number 34 = .ok (.invokestatic 161, 3) := by decide +kernel
theorem dX8_number_37 : decode cX8_number 37 = .ok (.ifCond .eq 35, 3) := by decide +kernel
theorem dX8_number_40 : decode cX8_number 40 = .ok (.bipush 10, 2) := by decide +kernel
theorem dX8_number_42 : decode cX8_number 42 = .ok (.iload 4, 2) := by decide +kernel
theorem dX8_number_44 : decode cX8_number 44 = .ok (.imul, 1) := by decide +kernel
theorem dX8_number_45 : decode cX8_number 45 = .ok (.aload_n 0, 1) := by decide +kernel
theorem dX8_number_46 : decode cX8_number 46 = .ok (.aload_n 0, 1) := by decide +kernel
theorem dX8_number_47 : decode cX8_number 47 = .ok (.getfield 171, 3) := by decide +kernel
theorem dX8_number_50 : decode cX8_number 50 = .ok (.invokevirtual 174, 3) := by decide +kernel
theorem dX8_number_53 : decode cX8_number 53 = .ok (.iadd, 1) := by decide +kernel
theorem dX8_number_54 : decode cX8_number 54 = .ok (.bipush 48, 2) := by decide +kernel
theorem dX8_number_56 : decode cX8_number 56 = .ok (.isub, 1) := by decide +kernel
theorem dX8_number_57 : decode cX8_number 57 = .ok (.istore 4, 2) := by decide +kernel
theorem dX8_number_59 : decode cX8_number 59 = .ok (.aload_n 0, 1) := by decide +kernel
theorem dX8_number_60 : decode cX8_number 60 = .ok (.dup, 1) := by decide +kernel
theorem dX8_number_61 : decode cX8_number 61 = .ok (.getfield 171, 3) := by decide +kernel
theorem dX8_number_64 : decode cX8_number 64 = .ok (.iconst 1, 1) := by decide +kernel
theorem dX8_number_65 : decode cX8_number 65 = .ok (.iadd, 1) := by decide +kernel
theorem dX8_number_66 : decode cX8_number 66 = .ok (.putfield 171, 3) := by decide +kernel
theorem dX8_number_69 : decode cX8_number 69 = .ok (.goto 9, 3) := by decide +kernel
theorem dX8_number_72 : decode cX8_number 72 = .ok (.aload_n 0, 1) := by decide +kernel
theorem dX8_number_73 : decode cX8_number 73 = .ok (.bipush 11, 2) := by decide +kernel
theorem dX8_number_75 : decode cX8_number 75 = .ok (.putfield 168, 3) := by decide +kernel
theorem dX8_number_78 : decode cX8_number 78 = .ok (.iinc 5 1, 3) := by decide +kernel
theorem dX8_number_81 : decode cX8_number 81 = .ok (.goto (-75), 3) := by decide +kernel
theorem dX8_number_84 : decode cX8_number 84 = .ok (.aload_n 0, 1) := by decide +kernel
theorem dX8_number_85 : decode cX8_number 85 = .ok (.aload_n 0, 1) := by decide +kernel
theorem dX8_number_86 : decode cX8_number 86 = .ok (.getfield 168, 3) := by decide +kernel
theorem dX8_number_89 : decode cX8_number 89 = .ok (.ifCond .ne 21, 3) := by decide +kernel
theorem dX8_number_92 : decode cX8_number 92 = .ok (.iload 4, 2) := by decide +kernel
theorem dX8_number_94 : decode cX8_number 94 = .ok (.i2l, 1) := by decide +kernel
theorem dX8_number_95 : decode cX8_number 95 = .ok (.iload_n 2, 1) := by decide +kernel
theorem dX8_number_96 : decode cX8_number 96 = .ok (.i2l, 1) := by decide +kernel
theorem dX8_number_97 : decode cX8_number 97 = .ok (.iload_n 3, 1) := by decide +kernel
theorem dX8_number_98 : decode cX8_number 98 = .ok (.i2l, 1) := by decide +kernel
theorem dX8_number_99 : decode cX8_number 99 = .ok (.invokestatic 161, 3) := by decide +kernel
theorem dX8_number_102 : decode cX8_number 102 = .ok (.ifCond .ne 8, 3) := by decide +kernel
theorem dX8_number_105 : decode cX8_number 105 = .ok (.bipush 12, 2) := by decide +kernel
theorem dX8_number_107 : decode cX8_number 107 = .ok (.goto 7, 3) := by decide +kernel
theorem dX8_number_110 : decode cX8_number 110 = .ok (.aload_n 0, 1) := by decide +kernel
theorem dX8_number_111 : decode cX8_number 111 = .ok (.getfield 168, 3) := by decide +kernel
theorem dX8_number_114 : decode cX8_number 114 = .ok (.putfield 168, 3) := by decide +kernel
theorem dX8_number_117 : decode cX8_number 117 = .ok (.iload 4, 2) := by decide +kernel
theorem dX8_number_119 : decode cX8_number 119 = .ok (.ireturn, 1) := by decide +kernel
theorem dX8_ordersItem_0 : decode cX8_ordersItem 0 = .ok (.aload_n 0, 1) := by decide +kernel
theorem dX8_ordersItem_1 : decode cX8_ordersItem 1 = .ok (.iconst 1, 1) := by decide +kernel
theorem dX8_ordersItem_2 : decode cX8_ordersItem 2 = .ok (.iconst 0, 1) := by decide +kernel
theorem dX8_ordersItem_3 : decode cX8_ordersItem 3 = .ok (.iconst 5, 1) := by decide +kernel
theorem dX8_ordersItem_4 : decode cX8_ordersItem 4 = .ok (.invokevirtual 182, 3) := by decide +kernel
theorem dX8_ordersItem_7 : decode cX8_ordersItem 7 = .ok (.istore_n 1, 1) := by decide +kernel
theorem dX8_ordersItem_8 : decode cX8_ordersItem 8 = .ok (.aload_n 0, 1) := by decide +kernel
theorem dX8_ordersItem_9 : decode cX8_ordersItem 9 = .ok (.getfield 168, 3) := by decide +kernel
theorem dX8_ordersItem_12 : decode cX8_ordersItem 12 = .ok (.ifCond .ne 22, 3) := by decide +kernel
theorem dX8_ordersItem_15 : decode cX8_ordersItem 15 = .ok (.aload_n 0, 1) := by decide +kernel
theorem dX8_ordersItem_16 : decode cX8_ordersItem 16 = .ok (.iconst 1, 1) := by decide +kernel
theorem dX8_ordersItem_17 : decode cX8_ordersItem 17 = .ok (.iconst 0, 1) := by decide +kernel
theorem dX8_ordersItem_18 : decode cX8_ordersItem 18 = .ok (.iload_n 1, 1) := by decide +kernel
theorem dX8_ordersItem_19 : decode cX8_ordersItem 19 = .ok (.iconst 3, 1) := by decide +kernel
theorem dX8_ordersItem_20 : decode cX8_ordersItem 20 = .ok (.if_icmp .ge 7, 3) := by decide +kernel
theorem dX8_ordersItem_23 : decode cX8_ordersItem 23 = .ok (.iload_n 1, 1) := by decide +kernel
theorem dX8_ordersItem_24 : decode cX8_ordersItem 24 = .ok (.goto 4, 3) := by decide +kernel
theorem dX8_ordersItem_27 : decode cX8_ordersItem 27 = .ok (.iconst 3, 1) := by decide +kernel
theorem dX8_ordersItem_28 : decode cX8_ordersItem 28 = .ok (.invokevirtual 182, 3) := by decide +kernel
theorem dX8_ordersItem_31 : decode cX8_ordersItem 31 = .ok (.goto 4, 3) := by decide +kernel
theorem dX8_ordersItem_34 : decode cX8_ordersItem 34 = .ok (.iconst 0, 1) := by decide +kernel
theorem dX8_ordersItem_35 : decode cX8_ordersItem 35 = .ok (.istore_n 2, 1) := by decide +kernel
theorem dX8_ordersItem_36 : decode cX8_ordersItem 36 = .ok (.aload_n 0, 1) := by decide +kernel
theorem dX8_ordersItem_37 : decode cX8_ordersItem 37 = .ok (.getfield 168, 3) := by decide +kernel
theorem dX8_ordersItem_40 : decode cX8_ordersItem 40 = .ok (.ifCond .ne 14, 3) := by decide +kernel
theorem dX8_ordersItem_43 : decode cX8_ordersItem 43 = .ok (.aload_n 0, 1) := by decide +kernel
theorem dX8_ordersItem_44 : decode cX8_ordersItem 44 = .ok (.iconst 1, 1) := by decide +kernel
theorem dX8_ordersItem_45 : decode cX8_ordersItem 45 = .ok (.iconst 1, 1) := by decide +kernel
theorem dX8_ordersItem_46 : decode cX8_ordersItem 46 = .ok (.bipush 9, 2) := by decide +kernel
theorem dX8_ordersItem_48 : decode cX8_ordersItem 48 = .ok (.invokevirtual 182, 3) := by decide +kernel
theorem dX8_ordersItem_51 : decode cX8_ordersItem 51 = .ok (.goto 4, 3) := by decide +kernel
theorem dX8_ordersItem_54 : decode cX8_ordersItem 54 = .ok (.iconst 0, 1) := by decide +kernel
theorem dX8_ordersItem_55 : decode cX8_ordersItem 55 = .ok (.istore_n 3, 1) := by decide +kernel
theorem dX8_ordersItem_56 : decode cX8_ordersItem 56 = .ok (.aload_n 0, 1) := by decide +kernel
theorem dX8_ordersItem_57 : decode cX8_ordersItem 57 = .ok (.iload_n 1, 1) := by decide +kernel
theorem dX8_ordersItem_58 : decode cX8_ordersItem 58 = .ok (.putfield 124, 3) := by decide +kernel
theorem dX8_ordersItem_61 : decode cX8_ordersItem 61 = .ok (.aload_n 0, 1) := by decide +kernel
theorem dX8_ordersItem_62 : decode cX8_ordersItem 62 = .ok (.iload_n 2, 1) := by decide +kernel
theorem dX8_ordersItem_63 : decode cX8_ordersItem 63 = .ok (.putfield 128, 3) := by decide +kernel
theorem dX8_ordersItem_66 : decode cX8_ordersItem 66 = .ok (.aload_n 0, 1) := by decide +kernel
theorem dX8_ordersItem_67 : decode cX8_ordersItem 67 = .ok (.iload_n 3, 1) := by decide +kernel
theorem dX8_ordersItem_68 : decode cX8_ordersItem 68 = .ok (.putfield 131, 3) := by decide +kernel
theorem dX8_ordersItem_71 : decode cX8_ordersItem 71 = .ok (.return_, 1) := by decide +kernel
theorem dX8_meets_0 : decode cX8_meets 0 = .ok (.iconst 0, 1) := by decide +kernel
theorem dX8_meets_1 : decode cX8_meets 1 = .ok (.istore 5, 2) := by decide +kernel
theorem dX8_meets_3 : decode cX8_meets 3 = .ok (.iload 5, 2) := by decide +kernel
theorem dX8_meets_5 : decode cX8_meets 5 = .ok (.iload_n 1, 1) := by decide +kernel
theorem dX8_meets_6 : decode cX8_meets 6 = .ok (.if_icmp .ge 50, 3) := by decide +kernel
theorem dX8_meets_9 : decode cX8_meets 9 = .ok (.iload_n 2, 1) := by decide +kernel
theorem dX8_meets_10 : decode cX8_meets 10 = .ok (.aload_n 0, 1) := by decide +kernel
theorem dX8_meets_11 : decode cX8_meets 11 = .ok (.iload 5, 2) := by decide +kernel
theorem dX8_meets_13 : decode cX8_meets 13 = .ok (.iaload, 1) := by decide +kernel
theorem dX8_meets_14 : decode cX8_meets 14 = .ok (.isub, 1) := by decide +kernel
theorem dX8_meets_15 : decode cX8_meets 15 = .ok (.iload_n 3, 1) := by decide +kernel
theorem dX8_meets_16 : decode cX8_meets 16 = .ok (.iadd, 1) := by decide +kernel
theorem dX8_meets_17 : decode cX8_meets 17 = .ok (.iload_n 3, 1) := by decide +kernel
theorem dX8_meets_18 : decode cX8_meets 18 = .ok (.irem, 1) := by decide +kernel
theorem dX8_meets_19 : decode cX8_meets 19 = .ok (.istore 6, 2) := by decide +kernel
theorem dX8_meets_21 : decode cX8_meets 21 = .ok (.aload_n 0, 1) := by decide +kernel
theorem dX8_meets_22 : decode cX8_meets 22 = .ok (.iload 5, 2) := by decide +kernel
theorem dX8_meets_24 : decode cX8_meets 24 = .ok (.iaload, 1) := by decide +kernel
theorem dX8_meets_25 : decode cX8_meets 25 = .ok (.iload_n 2, 1) := by decide +kernel
theorem dX8_meets_26 : decode cX8_meets 26 = .ok (.isub, 1) := by decide +kernel
theorem dX8_meets_27 : decode cX8_meets 27 = .ok (.iload_n 3, 1) := by decide +kernel
theorem dX8_meets_28 : decode cX8_meets 28 = .ok (.iadd, 1) := by decide +kernel
theorem dX8_meets_29 : decode cX8_meets 29 = .ok (.iload_n 3, 1) := by decide +kernel
theorem dX8_meets_30 : decode cX8_meets 30 = .ok (.irem, 1) := by decide +kernel
theorem dX8_meets_31 : decode cX8_meets 31 = .ok (.istore 7, 2) := by decide +kernel
theorem dX8_meets_33 : decode cX8_meets 33 = .ok (.iload 6, 2) := by decide +kernel
theorem dX8_meets_35 : decode cX8_meets 35 = .ok (.iload 4, 2) := by decide +kernel
theorem dX8_meets_37 : decode cX8_meets 37 = .ok (.if_icmp .lt 10, 3) := by decide +kernel
theorem dX8_meets_40 : decode cX8_meets 40 = .ok (.iload 7, 2) := by decide +kernel
theorem dX8_meets_42 : decode cX8_meets 42 = .ok (.iload 4, 2) := by decide +kernel
theorem dX8_meets_44 : decode cX8_meets 44 = .ok (.if_icmp .ge 6, 3) := by decide +kernel
theorem dX8_meets_47 : decode cX8_meets 47 = .ok (.iload 5, 2) := by decide +kernel
theorem dX8_meets_49 : decode cX8_meets 49 = .ok (.ireturn, 1) := by decide +kernel
theorem dX8_meets_50 : decode cX8_meets 50 = .ok (.iinc 5 1, 3) := by decide +kernel
theorem dX8_meets_53 : decode cX8_meets 53 = .ok (.goto (-50), 3) := by decide +kernel
theorem dX8_meets_56 : decode cX8_meets 56 = .ok (.bipush (-4), 2) := by decide +kernel
theorem dX8_meets_58 : decode cX8_meets 58 = .ok (.ireturn, 1) := by decide +kernel
theorem dX8_coordItem_0 : decode cX8_coordItem 0 = .ok (.aload_n 0, 1) := by decide +kernel
theorem dX8_coordItem_1 : decode cX8_coordItem 1 = .ok (.iconst 1, 1) := by decide +kernel
theorem dX8_coordItem_2 : decode cX8_coordItem 2 = .ok (.iconst 0, 1) := by decide +kernel
theorem dX8_coordItem_3 : decode cX8_coordItem 3 = .ok (.aload_n 0, 1) := by decide +kernel
theorem dX8_coordItem_4 : decode cX8_coordItem 4 = .ok (.getfield 151, 3) := by decide +kernel
theorem dX8_coordItem_7 : decode cX8_coordItem 7 = .ok (.iconst 1, 1) := by decide +kernel
theorem dX8_coordItem_8 : decode cX8_coordItem 8 = .ok (.isub, 1) := by decide +kernel
theorem dX8_coordItem_9 : decode cX8_coordItem 9 = .ok (.invokevirtual 182, 3) := by decide +kernel
theorem dX8_coordItem_12 : decode cX8_coordItem 12 = .ok (.istore_n 1, 1) := by decide +kernel
theorem dX8_coordItem_13 : decode cX8_coordItem 13 = .ok (.aload_n 0, 1) := by decide +kernel
theorem dX8_coordItem_14 : decode cX8_coordItem 14 = .ok (.getfield 124, 3) := by decide +kernel
theorem dX8_coordItem_17 : decode cX8_coordItem 17 = .ok (.invokestatic 186, 3) := by decide +kernel
theorem dX8_coordItem_20 : decode cX8_coordItem 20 = .ok (.istore_n 2, 1) := by decide +kernel
theorem dX8_coordItem_21 : decode cX8_coordItem 21 = .ok (.aload_n 0, 1) := by decide +kernel
theorem dX8_coordItem_22 : decode cX8_coordItem 22 = .ok (.getfield 168, 3) := by decide +kernel
theorem dX8_coordItem_25 : decode cX8_coordItem 25 = .ok (.ifCond .ne 15, 3) := by decide +kernel
theorem dX8_coordItem_28 : decode cX8_coordItem 28 = .ok (.aload_n 0, 1) := by decide +kernel
theorem dX8_coordItem_29 : decode cX8_coordItem 29 = .ok (.iconst 4, 1) := by decide +kernel
theorem dX8_coordItem_30 : decode cX8_coordItem 30 = .ok (.iconst 0, 1) := by decide +kernel
theorem dX8_coordItem_31 : decode cX8_coordItem 31 = .ok (.iload_n 2, 1) := by decide +kernel
theorem dX8_coordItem_32 : decode cX8_coordItem 32 = .ok (.iconst 1, 1) := by decide +kernel
theorem dX8_coordItem_33 : decode cX8_coordItem 33 = .ok (.isub, 1) := by decide +kernel
theorem dX8_coordItem_34 : decode cX8_coordItem 34 = .ok (.invokevirtual 182, 3) := by decide +kernel
theorem dX8_coordItem_37 : decode cX8_coordItem 37 = .ok (.goto 4, 3) := by decide +kernel
theorem dX8_coordItem_40 : decode cX8_coordItem 40 = .ok (.iconst 0, 1) := by decide +kernel
theorem dX8_coordItem_41 : decode cX8_coordItem 41 = .ok (.istore_n 3, 1) := by decide +kernel
theorem dX8_coordItem_42 : decode cX8_coordItem 42 = .ok (.aload_n 0, 1) := by decide +kernel
theorem dX8_coordItem_43 : decode cX8_coordItem 43 = .ok (.getfield 168, 3) := by decide +kernel
theorem dX8_coordItem_46 : decode cX8_coordItem 46 = .ok (.ifCond .eq 4, 3) := by decide +kernel
theorem dX8_coordItem_49 : decode cX8_coordItem 49 = .ok (.return_, 1) := by decide +kernel
theorem dX8_coordItem_50 : decode cX8_coordItem 50 = .ok (.aload_n 0, 1) := by decide +kernel
theorem dX8_coordItem_51 : decode cX8_coordItem 51 = .ok (.getfield 19, 3) := by decide +kernel
theorem dX8_coordItem_54 : decode cX8_coordItem 54 = .ok (.iload_n 1, 1) := by decide +kernel
theorem dX8_coordItem_55 : decode cX8_coordItem 55 = .ok (.iaload, 1) := by decide +kernel
theorem dX8_coordItem_56 : decode cX8_coordItem 56 = .ok (.iload_n 3, 1) := by decide +kernel
theorem dX8_coordItem_57 : decode cX8_coordItem 57 = .ok (.iadd, 1) := by decide +kernel
theorem dX8_coordItem_58 : decode cX8_coordItem 58 = .ok (.iload_n 2, 1) := by decide +kernel
theorem dX8_coordItem_59 : decode cX8_coordItem 59 = .ok (.irem, 1) := by decide +kernel
theorem dX8_coordItem_60 : decode cX8_coordItem 60 = .ok (.istore 4, 2) := by decide +kernel
theorem dX8_coordItem_62 : decode cX8_coordItem 62 = .ok (.aload_n 0, 1) := by decide +kernel
theorem dX8_coordItem_63 : decode cX8_coordItem 63 = .ok (.getfield 19, 3) := by decide +kernel
theorem dX8_coordItem_66 : decode cX8_coordItem 66 = .ok (.aload_n 0, 1) := by decide +kernel
theorem dX8_coordItem_67 : decode cX8_coordItem 67 = .ok (.getfield 151, 3) := by decide +kernel
theorem dX8_coordItem_70 : decode cX8_coordItem 70 = .ok (.iload 4, 2) := by decide +kernel
theorem dX8_coordItem_72 : decode cX8_coordItem 72 = .ok (.iload_n 2, 1) := by decide +kernel
theorem dX8_coordItem_73 : decode cX8_coordItem 73 = .ok (.aload_n 0, 1) := by decide +kernel
theorem dX8_coordItem_74 : decode cX8_coordItem 74 = .ok (.getfield 128, 3) := by decide +kernel
theorem dX8_coordItem_77 : decode cX8_coordItem 77 = .ok (.invokestatic 186, 3) := by decide +kernel
theorem dX8_coordItem_80 : decode cX8_coordItem 80 = .ok (.invokestatic 189, 3) := by decide +kernel
theorem dX8_coordItem_83 : decode cX8_coordItem 83 = .ok (.istore 5, 2) := by decide +kernel
theorem dX8_coordItem_85 : decode cX8_coordItem 85 = .ok (.iload 5, 2) := by decide +kernel
theorem dX8_coordItem_87 : decode cX8_coordItem 87 = .ok (.bipush (-4), 2) := by decide +kernel
theorem dX8_coordItem_89 : decode cX8_coordItem 89 = .ok (.if_icmp .eq 19, 3) := by decide +kernel
theorem dX8_coordItem_92 : decode cX8_coordItem 92 = .ok (.aload_n 0, 1) := by decide +kernel
theorem dX8_coordItem_93 : decode cX8_coordItem 93 = .ok (.bipush 13, 2) := by decide +kernel
theorem dX8_coordItem_95 : decode cX8_coordItem 95 = .ok (.putfield 168, 3) := by decide +kernel
theorem dX8_coordItem_98 : decode cX8_coordItem 98 = .ok (.aload_n 0, 1) := by decide +kernel
theorem dX8_coordItem_99 : decode cX8_coordItem 99 = .ok (.bipush 20, 2) := by decide +kernel
theorem dX8_coordItem_101 : decode cX8_coordItem 101 = .ok (.iload 5, 2) := by decide +kernel
theorem dX8_coordItem_103 : decode cX8_coordItem 103 = .ok (.iadd, 1) := by decide +kernel
theorem dX8_coordItem_104 : decode cX8_coordItem 104 = .ok (.putfield 193, 3) := by decide +kernel
theorem dX8_coordItem_107 : decode cX8_coordItem 107 = .ok (.return_, 1) := by decide +kernel
theorem dX8_coordItem_108 : decode cX8_coordItem 108 = .ok (.aload_n 0, 1) := by decide +kernel
theorem dX8_coordItem_109 : decode cX8_coordItem 109 = .ok (.iload_n 1, 1) := by decide +kernel
theorem dX8_coordItem_110 : decode cX8_coordItem 110 = .ok (.iload 4, 2) := by decide +kernel
theorem dX8_coordItem_112 : decode cX8_coordItem 112 = .ok (.invokevirtual 138, 3) := by decide +kernel
theorem dX8_coordItem_115 : decode cX8_coordItem 115 = .ok (.return_, 1) := by decide +kernel
theorem dX8_deviceItem_0 : decode cX8_deviceItem 0 = .ok (.aload_n 0, 1) := by decide +kernel
theorem dX8_deviceItem_1 : decode cX8_deviceItem 1 = .ok (.iconst 1, 1) := by decide +kernel
theorem dX8_deviceItem_2 : decode cX8_deviceItem 2 = .ok (.iconst 0, 1) := by decide +kernel
theorem dX8_deviceItem_3 : decode cX8_deviceItem 3 = .ok (.aload_n 0, 1) := by decide +kernel
theorem dX8_deviceItem_4 : decode cX8_deviceItem 4 = .ok (.getfield 151, 3) := by decide +kernel
theorem dX8_deviceItem_7 : decode cX8_deviceItem 7 = .ok (.iconst 1, 1) := by decide +kernel
theorem dX8_deviceItem_8 : decode cX8_deviceItem 8 = .ok (.isub, 1) := by decide +kernel
theorem dX8_deviceItem_9 : decode cX8_deviceItem 9 = .ok (.invokevirtual 182, 3) := by decide +kernel
theorem dX8_deviceItem_12 : decode cX8_deviceItem 12 = .ok (.istore_n 1, 1) := by decide +kernel
theorem dX8_deviceItem_13 : decode cX8_deviceItem 13 = .ok (.aload_n 0, 1) := by decide +kernel
theorem dX8_deviceItem_14 : decode cX8_deviceItem 14 = .ok (.getfield 168, 3) := by decide +kernel
theorem dX8_deviceItem_17 : decode cX8_deviceItem 17 = .ok (.ifCond .ne 14, 3) := by decide +kernel
theorem dX8_deviceItem_20 : decode cX8_deviceItem 20 = .ok (.aload_n 0, 1) := by decide +kernel
theorem dX8_deviceItem_21 : decode cX8_deviceItem 21 = .ok (.iconst 1, 1) := by decide +kernel
theorem dX8_deviceItem_22 : decode cX8_deviceItem 22 = .ok (.iconst 1, 1) := by decide +kernel
theorem dX8_deviceItem_23 : decode cX8_deviceItem 23 = .ok (.bipush 8, 2) := by decide +kernel
theorem dX8_deviceItem_25 : decode cX8_deviceItem 25 = .ok (.invokevirtual 182, 3) := by decide +kernel
theorem dX8_deviceItem_28 : decode cX8_deviceItem 28 = .ok (.goto 4, 3) := by decide +kernel
theorem dX8_deviceItem_31 : decode cX8_deviceItem 31 = .ok (.iconst 0, 1) := by decide +kernel
theorem dX8_deviceItem_32 : decode cX8_deviceItem 32 = .ok (.istore_n 2, 1) := by decide +kernel
theorem dX8_deviceItem_33 : decode cX8_deviceItem 33 = .ok (.aload_n 0, 1) := by decide +kernel
theorem dX8_deviceItem_34 : decode cX8_deviceItem 34 = .ok (.getfield 168, 3) := by decide +kernel
theorem dX8_deviceItem_37 : decode cX8_deviceItem 37 = .ok (.ifCond .ne 13, 3) := by decide +kernel
theorem dX8_deviceItem_40 : decode cX8_deviceItem 40 = .ok (.aload_n 0, 1) := by decide +kernel
theorem dX8_deviceItem_41 : decode cX8_deviceItem 41 = .ok (.iconst 1, 1) := by decide +kernel
theorem dX8_deviceItem_42 : decode cX8_deviceItem 42 = .ok (.iconst 0, 1) := by decide +kernel
theorem dX8_deviceItem_43 : decode cX8_deviceItem 43 = .ok (.iconst 3, 1) := by decide +kernel
theorem dX8_deviceItem_44 : decode cX8_deviceItem 44 = .ok (.invokevirtual 182, 3) := by decide +kernel
theorem dX8_deviceItem_47 : decode cX8_deviceItem 47 = .ok (.goto 4, 3) := by decide +kernel
theorem dX8_deviceItem_50 : decode cX8_deviceItem 50 = .ok (.iconst 0, 1) := by decide +kernel
theorem dX8_deviceItem_51 : decode cX8_deviceItem 51 = .ok (.istore_n 3, 1) := by decide +kernel
theorem dX8_deviceItem_52 : decode cX8_deviceItem 52 = .ok (.aload_n 0, 1) := by decide +kernel
theorem dX8_deviceItem_53 : decode cX8_deviceItem 53 = .ok (.getfield 168, 3) := by decide +kernel
theorem dX8_deviceItem_56 : decode cX8_deviceItem 56 = .ok (.ifCond .ne 10, 3) := by decide +kernel
theorem dX8_deviceItem_59 : decode cX8_deviceItem 59 = .ok (.aload_n 0, 1) := by decide +kernel
theorem dX8_deviceItem_60 : decode cX8_deviceItem 60 = .ok (.iload_n 1, 1) := by decide +kernel
theorem dX8_deviceItem_61 : decode cX8_deviceItem 61 = .ok (.iload_n 2, 1) := by decide +kernel
theorem dX8_deviceItem_62 : decode cX8_deviceItem 62 = .ok (.iload_n 3, 1) := by decide +kernel
theorem dX8_deviceItem_63 : decode cX8_deviceItem 63 = .ok (.invokevirtual 134, 3) := by decide +kernel
theorem dX8_deviceItem_66 : decode cX8_deviceItem 66 = .ok (.return_, 1) := by decide +kernel
theorem dX8_item_0 : decode cX8_item 0 = .ok (.iload_n 2, 1) := by decide +kernel
theorem dX8_item_1 : decode cX8_item 1 = .ok (.iload_n 1, 1) := by decide +kernel
theorem dX8_item_2 : decode cX8_item 2 = .ok (.bipush 111, 2) := by decide +kernel
theorem dX8_item_4 : decode cX8_item 4 = .ok (.if_icmp .ne 7, 3) := by decide +kernel
theorem dX8_item_7 : decode cX8_item 7 = .ok (.iconst 1, 1) := by decide +kernel
theorem dX8_item_8 : decode cX8_item 8 = .ok (.goto 4, 3) := by decide +kernel
theorem dX8_item_11 : decode cX8_item 11 = .ok (.iconst 0, 1) := by decide +kernel
theorem dX8_item_12 : decode cX8_item 12 = .ok (.if_icmp .eq 12, 3) := by decide +kernel
theorem dX8_item_15 : decode cX8_item 15 = .ok (.aload_n 0, 1) := by decide +kernel
theorem dX8_item_16 : decode cX8_item 16 = .ok (.bipush 10, 2) := by decide +kernel
theorem dX8_item_18 : decode cX8_item 18 = .ok (.putfield 168, 3) := by decide +kernel
theorem dX8_item_21 : decode cX8_item 21 = .ok (.goto 86, 3) := by decide +kernel
theorem dX8_item_24 : decode cX8_item 24 = .ok (.iload_n 1, 1) := by decide +kernel
theorem dX8_item_25 : decode cX8_item 25 = .ok (.bipush 111, 2) := by decide +kernel
theorem dX8_item_27 : decode cX8_item 27 = .ok (.if_icmp .ne 10, 3) := by decide +kernel
theorem dX8_item_30 : decode cX8_item 30 = .ok (.aload_n 0, 1) := by decide +kernel
theorem dX8_item_31 : decode cX8_item 31 = .ok (.invokevirtual 196, 3) := by decide +kernel
theorem dX8_item_34 : decode cX8_item 34 = .ok (.goto 73, 3) := by decide +kernel
theorem dX8_item_37 : decode cX8_item 37 = .ok (.iload_n 1, 1) := by decide +kernel
theorem dX8_item_38 : decode cX8_item 38 = .ok (.bipush 99, 2) := by decide +kernel
theorem dX8_item_40 : decode cX8_item 40 = .ok (.if_icmp .ne 18, 3) := by decide +kernel
theorem dX8_item_43 : decode cX8_item 43 = .ok (.aload_n 0, 1) := by decide +kernel
theorem dX8_item_44 : decode cX8_item 44 = .ok (.getfield 151, 3) := by decide +kernel
theorem dX8_item_47 : decode cX8_item 47 = .ok (.iconst 4, 1) := by decide +kernel
theorem dX8_item_48 : decode cX8_item 48 = .ok (.if_icmp .ge 10, 3) := by decide +kernel
theorem dX8_item_51 : decode cX8_item 51 = .ok (.aload_n 0, 1) := by decide +kernel
theorem dX8_item_52 : decode cX8_item 52 = .ok (.invokevirtual 199, 3) := by decide +kernel
theorem dX8_item_55 : decode cX8_item 55 = .ok (.goto 52, 3) := by decide +kernel
theorem dX8_item_58 : decode cX8_item 58 = .ok (.iload_n 1, 1) := by decide +kernel
theorem dX8_item_59 : decode cX8_item 59 = .ok (.bipush 100, 2) := by decide +kernel
theorem dX8_item_61 : decode cX8_item 61 = .ok (.if_icmp .ne 19, 3) := by decide +kernel
theorem dX8_item_64 : decode cX8_item 64 = .ok (.aload_n 0, 1) := by decide +kernel
theorem dX8_item_65 : decode cX8_item 65 = .ok (.getfield 154, 3) := by decide +kernel
theorem dX8_item_68 : decode cX8_item 68 = .ok (.bipush 8, 2) := by decide +kernel
theorem dX8_item_70 : decode cX8_item 70 = .ok (.if_icmp .ge 10, 3) := by decide +kernel
theorem dX8_item_73 : decode cX8_item 73 = .ok (.aload_n 0, 1) := by decide +kernel
theorem dX8_item_74 : decode cX8_item 74 = .ok (.invokevirtual 202, 3) := by decide +kernel
theorem dX8_item_77 : decode cX8_item 77 = .ok (.goto 30, 3) := by decide +kernel
theorem dX8_item_80 : decode cX8_item 80 = .ok (.iload_n 1, 1) := by decide +kernel
theorem dX8_item_81 : decode cX8_item 81 = .ok (.bipush 108, 2) := by decide +kernel
theorem dX8_item_83 : decode cX8_item 83 = .ok (.if_icmp .ne 18, 3) := by decide +kernel
theorem dX8_item_86 : decode cX8_item 86 = .ok (.aload_n 0, 1) := by decide +kernel
theorem dX8_item_87 : decode cX8_item 87 = .ok (.aload_n 0, 1) := by decide +kernel
theorem dX8_item_88 : decode cX8_item 88 = .ok (.iconst 1, 1) := by decide +kernel
theorem dX8_item_89 : decode cX8_item 89 = .ok (.iconst 1, 1) := by decide +kernel
theorem dX8_item_90 : decode cX8_item 90 = .ok (.bipush 9, 2) := by decide +kernel
theorem dX8_item_92 : decode cX8_item 92 = .ok (.invokevirtual 182, 3) := by decide +kernel
theorem dX8_item_95 : decode cX8_item 95 = .ok (.putfield 142, 3) := by decide +kernel
theorem dX8_item_98 : decode cX8_item 98 = .ok (.goto 9, 3) := by decide +kernel
theorem dX8_item_101 : decode cX8_item 101 = .ok (.aload_n 0, 1) := by decide +kernel
theorem dX8_item_102 : decode cX8_item 102 = .ok (.bipush 10, 2) := by decide +kernel
theorem dX8_item_104 : decode cX8_item 104 = .ok (.putfield 168, 3) := by decide +kernel
theorem dX8_item_107 : decode cX8_item 107 = .ok (.aload_n 0, 1) := by decide +kernel
theorem dX8_item_108 : decode cX8_item 108 = .ok (.getfield 168, 3) := by decide +kernel
theorem dX8_item_111 : decode cX8_item 111 = .ok (.ifCond .ne 36, 3) := by decide +kernel
theorem dX8_item_114 : decode cX8_item 114 = .ok (.aload_n 0, 1) := by decide +kernel
theorem dX8_item_115 : decode cX8_item 115 = .ok (.aload_n 0, 1) := by decide +kernel
theorem dX8_item_116 : decode cX8_item 116 = .ok (.aload_n 0, 1) := by decide +kernel
theorem dX8_item_117 : decode cX8_item 117 = .ok (.getfield 171, 3) := by decide +kernel
theorem dX8_item_120 : decode cX8_item 120 = .ok (.invokevirtual 174, 3) := by decide +kernel
theorem dX8_item_123 : decode cX8_item 123 = .ok (.bipush 59, 2) := by decide +kernel
theorem dX8_item_125 : decode cX8_item 125 = .ok (.if_icmp .ne 7, 3) := by decide +kernel
theorem dX8_item_128 : decode cX8_item 128 = .ok (.iconst 0, 1) := by decide +kernel
theorem dX8_item_129 : decode cX8_item 129 = .ok (.goto 5, 3) := by decide +kernel
theorem dX8_item_132 : decode cX8_item 132 = .ok (.bipush 11, 2) := by decide +kernel
theorem dX8_item_134 : decode cX8_item 134 = .ok (.putfield 168, 3) := by decide +kernel
theorem dX8_item_137 : decode cX8_item 137 = .ok (.aload_n 0, 1) := by decide +kernel
theorem dX8_item_138 : decode cX8_item 138 = .ok (.dup, 1) := by decide +kernel
theorem dX8_item_139 : decode cX8_item 139 = .ok (.getfield 171, 3) := by decide +kernel
theorem dX8_item_142 : decode cX8_item 142 = .ok (.iconst 1, 1) := by decide +kernel
theorem dX8_item_143 : decode cX8_item 143 = .ok (.iadd, 1) := by decide +kernel
theorem dX8_item_144 : decode cX8_item 144 = .ok (.putfield 171, 3) := by decide +kernel
theorem dX8_item_147 : decode cX8_item 147 = .ok (.return_, 1) := by decide +kernel
theorem dX8_refusesText_0 : decode cX8_refusesText 0 = .ok (.aload_n 0, 1) := by decide +kernel
theorem dX8_refusesText_1 : decode cX8_refusesText 1 = .ok (.iload_n 3, 1) := by decide +kernel
theorem dX8_refusesText_2 : decode cX8_refusesText 2 = .ok (.ifCond .ne 7, 3) := by decide +kernel
theorem dX8_refusesText_5 : decode cX8_refusesText 5 = .ok (.iconst 2, 1) := by decide +kernel
theorem dX8_refusesText_6 : decode cX8_refusesText 6 = .ok (.goto 4, 3) := by decide +kernel
theorem dX8_refusesText_9 : decode cX8_refusesText 9 = .ok (.iconst 3, 1) := by decide +kernel
theorem dX8_refusesText_10 : decode cX8_refusesText 10 = .ok (.putfield 148, 3) := by decide +kernel
theorem dX8_refusesText_13 : decode cX8_refusesText 13 = .ok (.aload_n 0, 1) := by decide +kernel
theorem dX8_refusesText_14 : decode cX8_refusesText 14 = .ok (.getfield 13, 3) := by decide +kernel
theorem dX8_refusesText_17 : decode cX8_refusesText 17 = .ok (.iconst 0, 1) := by decide +kernel
theorem dX8_refusesText_18 : decode cX8_refusesText 18 = .ok (.iconst 1, 1) := by decide +kernel
theorem dX8_refusesText_19 : decode cX8_refusesText 19 = .ok (.iastore, 1) := by decide +kernel
theorem dX8_refusesText_20 : decode cX8_refusesText 20 = .ok (.aload_n 0, 1) := by decide +kernel
theorem dX8_refusesText_21 : decode cX8_refusesText 21 = .ok (.getfield 13, 3) := by decide +kernel
theorem dX8_refusesText_24 : decode cX8_refusesText 24 = .ok (.iconst 1, 1) := by decide +kernel
theorem dX8_refusesText_25 : decode cX8_refusesText 25 = .ok (.iload_n 2, 1) := by decide +kernel
theorem dX8_refusesText_26 : decode cX8_refusesText 26 = .ok (.iastore, 1) := by decide +kernel
theorem dX8_refusesText_27 : decode cX8_refusesText 27 = .ok (.aload_n 0, 1) := by decide +kernel
theorem dX8_refusesText_28 : decode cX8_refusesText 28 = .ok (.getfield 13, 3) := by decide +kernel
theorem dX8_refusesText_31 : decode cX8_refusesText 31 = .ok (.iconst 2, 1) := by decide +kernel
theorem dX8_refusesText_32 : decode cX8_refusesText 32 = .ok (.iload_n 3, 1) := by decide +kernel
theorem dX8_refusesText_33 : decode cX8_refusesText 33 = .ok (.iastore, 1) := by decide +kernel
theorem dX8_refusesText_34 : decode cX8_refusesText 34 = .ok (.iload_n 1, 1) := by decide +kernel
theorem dX8_refusesText_35 : decode cX8_refusesText 35 = .ok (.ireturn, 1) := by decide +kernel
theorem dX8_readAll_0 : decode cX8_readAll 0 = .ok (.aload_n 0, 1) := by decide +kernel
theorem dX8_readAll_1 : decode cX8_readAll 1 = .ok (.invokevirtual 121, 3) := by decide +kernel
theorem dX8_readAll_4 : decode cX8_readAll 4 = .ok (.aload_n 0, 1) := by decide +kernel
theorem dX8_readAll_5 : decode cX8_readAll 5 = .ok (.iconst 0, 1) := by decide +kernel
theorem dX8_readAll_6 : decode cX8_readAll 6 = .ok (.putfield 171, 3) := by decide +kernel
theorem dX8_readAll_9 : decode cX8_readAll 9 = .ok (.aload_n 0, 1) := by decide +kernel
theorem dX8_readAll_10 : decode cX8_readAll 10 = .ok (.iconst 0, 1) := by decide +kernel
theorem dX8_readAll_11 : decode cX8_readAll 11 = .ok (.putfield 148, 3) := by decide +kernel
theorem dX8_readAll_14 : decode cX8_readAll 14 = .ok (.aload_n 0, 1) := by decide +kernel
theorem dX8_readAll_15 : decode cX8_readAll 15 = .ok (.getfield 171, 3) := by decide +kernel
theorem dX8_readAll_18 : decode cX8_readAll 18 = .ok (.aload_n 0, 1) := by decide +kernel
theorem dX8_readAll_19 : decode cX8_readAll 19 = .ok (.getfield 165, 3) := by decide +kernel
theorem dX8_readAll_22 : decode cX8_readAll 22 = .ok (.if_icmp .ge 70, 3) := by decide +kernel
theorem dX8_readAll_25 : decode cX8_readAll 25 = .ok (.aload_n 0, 1) := by decide +kernel
theorem dX8_readAll_26 : decode cX8_readAll 26 = .ok (.getfield 171, 3) := by decide +kernel
theorem dX8_readAll_29 : decode cX8_readAll 29 = .ok (.istore_n 1, 1) := by decide +kernel
theorem dX8_readAll_30 : decode cX8_readAll 30 = .ok (.aload_n 0, 1) := by decide +kernel
theorem dX8_readAll_31 : decode cX8_readAll 31 = .ok (.dup, 1) := by decide +kernel
theorem dX8_readAll_32 : decode cX8_readAll 32 = .ok (.getfield 171, 3) := by decide +kernel
theorem dX8_readAll_35 : decode cX8_readAll 35 = .ok (.iconst 1, 1) := by decide +kernel
theorem dX8_readAll_36 : decode cX8_readAll 36 = .ok (.iadd, 1) := by decide +kernel
theorem dX8_readAll_37 : decode cX8_readAll 37 = .ok (.putfield 171, 3) := by decide +kernel
theorem dX8_readAll_40 : decode cX8_readAll 40 = .ok (.aload_n 0, 1) := by decide +kernel
theorem dX8_readAll_41 : decode cX8_readAll 41 = .ok (.iconst 0, 1) := by decide +kernel
theorem dX8_readAll_42 : decode cX8_readAll 42 = .ok (.putfield 168, 3) := by decide +kernel
theorem dX8_readAll_45 : decode cX8_readAll 45 = .ok (.aload_n 0, 1) := by decide +kernel
theorem dX8_readAll_46 : decode cX8_readAll 46 = .ok (.iconst 0, 1) := by decide +kernel
theorem dX8_readAll_47 : decode cX8_readAll 47 = .ok (.putfield 193, 3) := by decide +kernel
theorem dX8_readAll_50 : decode cX8_readAll 50 = .ok (.aload_n 0, 1) := by decide +kernel
theorem dX8_readAll_51 : decode cX8_readAll 51 = .ok (.aload_n 0, 1) := by decide +kernel
theorem dX8_readAll_52 : decode cX8_readAll 52 = .ok (.iload_n 1, 1) := by decide +kernel
theorem dX8_readAll_53 : decode cX8_readAll 53 = .ok (.invokevirtual 174, 3) := by decide +kernel
theorem dX8_readAll_56 : decode cX8_readAll 56 = .ok (.iload_n 1, 1) := by decide +kernel
theorem dX8_readAll_57 : decode cX8_readAll 57 = .ok (.ifCond .ne 7, 3) := by decide +kernel
theorem dX8_readAll_60 : decode cX8_readAll 60 = .ok (.iconst 1, 1) := by decide +kernel
theorem dX8_readAll_61 : decode cX8_readAll 61 = .ok (.goto 4, 3) := by decide +kernel
theorem dX8_readAll_64 : decode cX8_readAll 64 = .ok (.iconst 0, 1) := by decide +kernel
theorem dX8_readAll_65 : decode cX8_readAll 65 = .ok (.invokevirtual 205, 3) := by decide +kernel
theorem dX8_readAll_68 : decode cX8_readAll 68 = .ok (.aload_n 0, 1) := by decide +kernel
theorem dX8_readAll_69 : decode cX8_readAll 69 = .ok (.getfield 168, 3) := by decide +kernel
theorem dX8_readAll_72 : decode cX8_readAll 72 = .ok (.ifCond .eq 17, 3) := by decide +kernel
theorem dX8_readAll_75 : decode cX8_readAll 75 = .ok (.aload_n 0, 1) := by decide +kernel
theorem dX8_readAll_76 : decode cX8_readAll 76 = .ok (.iload_n 1, 1) := by decide +kernel
theorem dX8_readAll_77 : decode cX8_readAll 77 = .ok (.aload_n 0, 1) := by decide +kernel
theorem dX8_readAll_78 : decode cX8_readAll 78 = .ok (.getfield 168, 3) := by decide +kernel
theorem dX8_readAll_81 : decode cX8_readAll 81 = .ok (.aload_n 0, 1) := by decide +kernel
theorem dX8_readAll_82 : decode cX8_readAll 82 = .ok (.getfield 193, 3) := by decide +kernel
theorem dX8_readAll_85 : decode cX8_readAll 85 = .ok (.invokevirtual 209, 3) := by decide +kernel
theorem dX8_readAll_88 : decode cX8_readAll 88 = .ok (.ireturn, 1) := by decide +kernel
theorem dX8_readAll_89 : decode cX8_readAll 89 = .ok (.goto (-75), 3) := by decide +kernel
theorem dX8_readAll_92 : decode cX8_readAll 92 = .ok (.bipush (-4), 2) := by decide +kernel
theorem dX8_readAll_94 : decode cX8_readAll 94 = .ok (.ireturn, 1) := by decide +kernel
theorem dX8_fault_0 : decode cX8_fault 0 = .ok (.aload_n 0, 1) := by decide +kernel
theorem dX8_fault_1 : decode cX8_fault 1 = .ok (.invokevirtual 212, 3) := by decide +kernel
theorem dX8_fault_4 : decode cX8_fault 4 = .ok (.ireturn, 1) := by decide +kernel
theorem dX8_refuses_0 : decode cX8_refuses 0 = .ok (.aload_n 0, 1) := by decide +kernel
theorem dX8_refuses_1 : decode cX8_refuses 1 = .ok (.iload_n 3, 1) := by decide +kernel
theorem dX8_refuses_2 : decode cX8_refuses 2 = .ok (.ifCond .ne 7, 3) := by decide +kernel
theorem dX8_refuses_5 : decode cX8_refuses 5 = .ok (.iconst 1, 1) := by decide +kernel
theorem dX8_refuses_6 : decode cX8_refuses 6 = .ok (.goto 4, 3) := by decide +kernel
theorem dX8_refuses_9 : decode cX8_refuses 9 = .ok (.iconst 2, 1) := by decide +kernel
theorem dX8_refuses_10 : decode cX8_refuses 10 = .ok (.putfield 148, 3) := by decide +kernel
theorem dX8_refuses_13 : decode cX8_refuses 13 = .ok (.aload_n 0, 1) := by decide +kernel
theorem dX8_refuses_14 : decode cX8_refuses 14 = .ok (.getfield 13, 3) := by decide +kernel
theorem dX8_refuses_17 : decode cX8_refuses 17 = .ok (.iconst 0, 1) := by decide +kernel
theorem dX8_refuses_18 : decode cX8_refuses 18 = .ok (.iload_n 2, 1) := by decide +kernel
theorem dX8_refuses_19 : decode cX8_refuses 19 = .ok (.iastore, 1) := by decide +kernel
theorem dX8_refuses_20 : decode cX8_refuses 20 = .ok (.aload_n 0, 1) := by decide +kernel
theorem dX8_refuses_21 : decode cX8_refuses 21 = .ok (.getfield 13, 3) := by decide +kernel
theorem dX8_refuses_24 : decode cX8_refuses 24 = .ok (.iconst 1, 1) := by decide +kernel
theorem dX8_refuses_25 : decode cX8_refuses 25 = .ok (.iload_n 3, 1) := by decide +kernel
theorem dX8_refuses_26 : decode cX8_refuses 26 = .ok (.iastore, 1) := by decide +kernel
theorem dX8_refuses_27 : decode cX8_refuses 27 = .ok (.iload_n 1, 1) := by decide +kernel
theorem dX8_refuses_28 : decode cX8_refuses 28 = .ok (.ireturn, 1) := by decide +kernel
theorem dX8_lay_0 : decode cX8_lay 0 = .ok (.aload_n 0, 1) := by decide +kernel
theorem dX8_lay_1 : decode cX8_lay 1 = .ok (.invokevirtual 212, 3) := by decide +kernel
theorem dX8_lay_4 : decode cX8_lay 4 = .ok (.bipush (-4), 2) := by decide +kernel
theorem dX8_lay_6 : decode cX8_lay 6 = .ok (.if_icmp .eq 6, 3) := by decide +kernel
theorem dX8_lay_9 : decode cX8_lay 9 = .ok (.bipush (-2), 2) := by decide +kernel
theorem dX8_lay_11 : decode cX8_lay 11 = .ok (.ireturn, 1) := by decide +kernel
theorem dX8_lay_12 : decode cX8_lay 12 = .ok (.aload_n 0, 1) := by decide +kernel
theorem dX8_lay_13 : decode cX8_lay 13 = .ok (.getfield 154, 3) := by decide +kernel
theorem dX8_lay_16 : decode cX8_lay 16 = .ok (.ifCond .ne 12, 3) := by decide +kernel
theorem dX8_lay_19 : decode cX8_lay 19 = .ok (.aload_n 0, 1) := by decide +kernel
theorem dX8_lay_20 : decode cX8_lay 20 = .ok (.bipush (-2), 2) := by decide +kernel
theorem dX8_lay_22 : decode cX8_lay 22 = .ok (.iconst 2, 1) := by decide +kernel
theorem dX8_lay_23 : decode cX8_lay 23 = .ok (.iconst 0, 1) := by decide +kernel
theorem dX8_lay_24 : decode cX8_lay 24 = .ok (.invokevirtual 216, 3) := by decide +kernel
theorem dX8_lay_27 : decode cX8_lay 27 = .ok (.ireturn, 1) := by decide +kernel
theorem dX8_lay_28 : decode cX8_lay 28 = .ok (.aload_n 0, 1) := by decide +kernel
theorem dX8_lay_29 : decode cX8_lay 29 = .ok (.invokevirtual 145, 3) := by decide +kernel
theorem dX8_lay_32 : decode cX8_lay 32 = .ok (.aload_n 0, 1) := by decide +kernel
theorem dX8_lay_33 : decode cX8_lay 33 = .ok (.getfield 219, 3) := by decide +kernel
theorem dX8_lay_36 : decode cX8_lay 36 = .ok (.ireturn, 1) := by decide +kernel
theorem dX8_isCoord_0 : decode cX8_isCoord 0 = .ok (.iload_n 1, 1) := by decide +kernel
theorem dX8_isCoord_1 : decode cX8_isCoord 1 = .ok (.i2l, 1) := by decide +kernel
theorem dX8_isCoord_2 : decode cX8_isCoord 2 = .ok (.lconst 0, 1) := by decide +kernel
theorem dX8_isCoord_3 : decode cX8_isCoord 3 = .ok (.aload_n 0, 1) := by decide +kernel
theorem dX8_isCoord_4 : decode cX8_isCoord 4 = .ok (.getfield 246, 3) := by decide +kernel
theorem dX8_isCoord_7 : decode cX8_isCoord 7 = .ok (.iconst 1, 1) := by decide +kernel
theorem dX8_isCoord_8 : decode cX8_isCoord 8 = .ok (.isub, 1) := by decide +kernel
theorem dX8_isCoord_9 : decode cX8_isCoord 9 = .ok (.i2l, 1) := by decide +kernel
theorem dX8_isCoord_10 : decode cX8_isCoord 10 = .ok (.invokestatic 161, 3) := by decide +kernel
theorem dX8_isCoord_13 : decode cX8_isCoord 13 = .ok (.ireturn, 1) := by decide +kernel
theorem dX8_nest_0 : decode cX8_nest 0 = .ok (.aload_n 0, 1) := by decide +kernel
theorem dX8_nest_1 : decode cX8_nest 1 = .ok (.iload_n 1, 1) := by decide +kernel
theorem dX8_nest_2 : decode cX8_nest 2 = .ok (.invokevirtual 256, 3) := by decide +kernel
theorem dX8_nest_5 : decode cX8_nest 5 = .ok (.ifCond .eq 19, 3) := by decide +kernel
theorem dX8_nest_8 : decode cX8_nest 8 = .ok (.iload_n 2, 1) := by decide +kernel
theorem dX8_nest_9 : decode cX8_nest 9 = .ok (.i2l, 1) := by decide +kernel
theorem dX8_nest_10 : decode cX8_nest 10 = .ok (.lconst 0, 1) := by decide +kernel
theorem dX8_nest_11 : decode cX8_nest 11 = .ok (.aload_n 0, 1) := by decide +kernel
theorem dX8_nest_12 : decode cX8_nest 12 = .ok (.getfield 222, 3) := by decide +kernel
theorem dX8_nest_15 : decode cX8_nest 15 = .ok (.iconst 1, 1) := by decide +kernel
theorem dX8_nest_16 : decode cX8_nest 16 = .ok (.isub, 1) := by decide +kernel
theorem dX8_nest_17 : decode cX8_nest 17 = .ok (.i2l, 1) := by decide +kernel
theorem dX8_nest_18 : decode cX8_nest 18 = .ok (.invokestatic 161, 3) := by decide +kernel
theorem dX8_nest_21 : decode cX8_nest 21 = .ok (.ifCond .ne 12, 3) := by decide +kernel
theorem dX8_nest_24 : decode cX8_nest 24 = .ok (.aload_n 0, 1) := by decide +kernel
theorem dX8_nest_25 : decode cX8_nest 25 = .ok (.iconst (-1), 1) := by decide +kernel
theorem dX8_nest_26 : decode cX8_nest 26 = .ok (.bipush 18, 2) := by decide +kernel
theorem dX8_nest_28 : decode cX8_nest 28 = .ok (.iconst 0, 1) := by decide +kernel
theorem dX8_nest_29 : decode cX8_nest 29 = .ok (.invokevirtual 216, 3) := by decide +kernel
theorem dX8_nest_32 : decode cX8_nest 32 = .ok (.ireturn, 1) := by decide +kernel
theorem dX8_nest_33 : decode cX8_nest 33 = .ok (.aload_n 0, 1) := by decide +kernel
theorem dX8_nest_34 : decode cX8_nest 34 = .ok (.getfield 246, 3) := by decide +kernel
theorem dX8_nest_37 : decode cX8_nest 37 = .ok (.iconst 4, 1) := by decide +kernel
theorem dX8_nest_38 : decode cX8_nest 38 = .ok (.if_icmp .ne 13, 3) := by decide +kernel
theorem dX8_nest_41 : decode cX8_nest 41 = .ok (.aload_n 0, 1) := by decide +kernel
theorem dX8_nest_42 : decode cX8_nest 42 = .ok (.bipush (-3), 2) := by decide +kernel
theorem dX8_nest_44 : decode cX8_nest 44 = .ok (.bipush 14, 2) := by decide +kernel
theorem dX8_nest_46 : decode cX8_nest 46 = .ok (.iconst 0, 1) := by decide +kernel
theorem dX8_nest_47 : decode cX8_nest 47 = .ok (.invokevirtual 216, 3) := by decide +kernel
theorem dX8_nest_50 : decode cX8_nest 50 = .ok (.ireturn, 1) := by decide +kernel
theorem dX8_nest_51 : decode cX8_nest 51 = .ok (.aload_n 0, 1) := by decide +kernel
theorem dX8_nest_52 : decode cX8_nest 52 = .ok (.getfield 34, 3) := by decide +kernel
theorem dX8_nest_55 : decode cX8_nest 55 = .ok (.iload_n 1, 1) := by decide +kernel
theorem dX8_nest_56 : decode cX8_nest 56 = .ok (.iaload, 1) := by decide +kernel
theorem dX8_nest_57 : decode cX8_nest 57 = .ok (.iload_n 2, 1) := by decide +kernel
theorem dX8_nest_58 : decode cX8_nest 58 = .ok (.iadd, 1) := by decide +kernel
theorem dX8_nest_59 : decode cX8_nest 59 = .ok (.aload_n 0, 1) := by decide +kernel
theorem dX8_nest_60 : decode cX8_nest 60 = .ok (.getfield 222, 3) := by decide +kernel
theorem dX8_nest_63 : decode cX8_nest 63 = .ok (.irem, 1) := by decide +kernel
theorem dX8_nest_64 : decode cX8_nest 64 = .ok (.istore_n 3, 1) := by decide +kernel
theorem dX8_nest_65 : decode cX8_nest 65 = .ok (.aload_n 0, 1) := by decide +kernel
theorem dX8_nest_66 : decode cX8_nest 66 = .ok (.getfield 34, 3) := by decide +kernel
theorem dX8_nest_69 : decode cX8_nest 69 = .ok (.aload_n 0, 1) := by decide +kernel
theorem dX8_nest_70 : decode cX8_nest 70 = .ok (.getfield 246, 3) := by decide +kernel
theorem dX8_nest_73 : decode cX8_nest 73 = .ok (.iload_n 3, 1) := by decide +kernel
theorem dX8_nest_74 : decode cX8_nest 74 = .ok (.aload_n 0, 1) := by decide +kernel
theorem dX8_nest_75 : decode cX8_nest 75 = .ok (.getfield 222, 3) := by decide +kernel
theorem dX8_nest_78 : decode cX8_nest 78 = .ok (.aload_n 0, 1) := by decide +kernel
theorem dX8_nest_79 : decode cX8_nest 79 = .ok (.getfield 225, 3) := by decide +kernel
theorem dX8_nest_82 : decode cX8_nest 82 = .ok (.invokestatic 189, 3) := by decide +kernel
theorem dX8_nest_85 : decode cX8_nest 85 = .ok (.istore 4, 2) := by decide +kernel
theorem dX8_nest_87 : decode cX8_nest 87 = .ok (.iload 4, 2) := by decide +kernel
theorem dX8_nest_89 : decode cX8_nest 89 = .ok (.bipush (-4), 2) := by decide +kernel
theorem dX8_nest_91 : decode cX8_nest 91 = .ok (.if_icmp .eq 17, 3) := by decide +kernel
theorem dX8_nest_94 : decode cX8_nest 94 = .ok (.aload_n 0, 1) := by decide +kernel
theorem dX8_nest_95 : decode cX8_nest 95 = .ok (.bipush (-2), 2) := by decide +kernel
theorem dX8_nest_97 : decode cX8_nest 97 = .ok (.bipush 13, 2) := by decide +kernel
theorem dX8_nest_99 : decode cX8_nest 99 = .ok (.bipush 20, 2) := by decide +kernel
theorem dX8_nest_101 : decode cX8_nest 101 = .ok (.iload 4, 2) := by decide +kernel
theorem dX8_nest_103 : decode cX8_nest 103 = .ok (.iadd, 1) := by decide +kernel
theorem dX8_nest_104 : decode cX8_nest 104 = .ok (.invokevirtual 216, 3) := by decide +kernel
theorem dX8_nest_107 : decode cX8_nest 107 = .ok (.ireturn, 1) := by decide +kernel
theorem dX8_nest_108 : decode cX8_nest 108 = .ok (.aload_n 0, 1) := by decide +kernel
theorem dX8_nest_109 : decode cX8_nest 109 = .ok (.iconst 0, 1) := by decide +kernel
theorem dX8_nest_110 : decode cX8_nest 110 = .ok (.putfield 148, 3) := by decide +kernel
theorem dX8_nest_113 : decode cX8_nest 113 = .ok (.aload_n 0, 1) := by decide +kernel
theorem dX8_nest_114 : decode cX8_nest 114 = .ok (.getfield 246, 3) := by decide +kernel
theorem dX8_nest_117 : decode cX8_nest 117 = .ok (.istore 5, 2) := by decide +kernel
theorem dX8_nest_119 : decode cX8_nest 119 = .ok (.aload_n 0, 1) := by decide +kernel
theorem dX8_nest_120 : decode cX8_nest 120 = .ok (.iload 5, 2) := by decide +kernel
theorem dX8_nest_122 : decode cX8_nest 122 = .ok (.iload_n 1, 1) := by decide +kernel
theorem dX8_nest_123 : decode cX8_nest 123 = .ok (.iload_n 3, 1) := by decide +kernel
theorem dX8_nest_124 : decode cX8_nest 124 = .ok (.invokevirtual 249, 3) := by decide +kernel
theorem dX8_nest_127 : decode cX8_nest 127 = .ok (.aload_n 0, 1) := by decide +kernel
theorem dX8_nest_128 : decode cX8_nest 128 = .ok (.getfield 237, 3) := by decide +kernel
theorem dX8_nest_131 : decode cX8_nest 131 = .ok (.iload_n 3, 1) := by decide +kernel
theorem dX8_nest_132 : decode cX8_nest 132 = .ok (.isub, 1) := by decide +kernel
theorem dX8_nest_133 : decode cX8_nest 133 = .ok (.aload_n 0, 1) := by decide +kernel
theorem dX8_nest_134 : decode cX8_nest 134 = .ok (.getfield 222, 3) := by decide +kernel
theorem dX8_nest_137 : decode cX8_nest 137 = .ok (.irem, 1) := by decide +kernel
theorem dX8_nest_138 : decode cX8_nest 138 = .ok (.istore 6, 2) := by decide +kernel
theorem dX8_nest_140 : decode cX8_nest 140 = .ok (.iload 6, 2) := by decide +kernel
theorem dX8_nest_142 : decode cX8_nest 142 = .ok (.ifCond .ge 13, 3) := by decide +kernel
theorem dX8_nest_145 : decode cX8_nest 145 = .ok (.iload 6, 2) := by decide +kernel
theorem dX8_nest_147 : decode cX8_nest 147 = .ok (.aload_n 0, 1) := by decide +kernel
theorem dX8_nest_148 : decode cX8_nest 148 = .ok (.getfield 222, 3) := by decide +kernel
theorem dX8_nest_151 : decode cX8_nest 151 = .ok (.iadd, 1) := by decide +kernel
theorem dX8_nest_152 : decode cX8_nest 152 = .ok (.goto 5, 3) := by decide +kernel
theorem dX8_nest_155 : decode cX8_nest 155 = .ok (.iload 6, 2) := by decide +kernel
theorem dX8_nest_157 : decode cX8_nest 157 = .ok (.istore 6, 2) := by decide +kernel
theorem dX8_nest_159 : decode cX8_nest 159 = .ok (.aload_n 0, 1) := by decide +kernel
theorem dX8_nest_160 : decode cX8_nest 160 = .ok (.getfield 37, 3) := by decide +kernel
theorem dX8_nest_163 : decode cX8_nest 163 = .ok (.iload 5, 2) := by decide +kernel
theorem dX8_nest_165 : decode cX8_nest 165 = .ok (.iload 6, 2) := by decide +kernel
theorem dX8_nest_167 : decode cX8_nest 167 = .ok (.ifCond .ne 10, 3) := by decide +kernel
theorem dX8_nest_170 : decode cX8_nest 170 = .ok (.aload_n 0, 1) := by decide +kernel
theorem dX8_nest_171 : decode cX8_nest 171 = .ok (.getfield 237, 3) := by decide +kernel
theorem dX8_nest_174 : decode cX8_nest 174 = .ok (.goto 15, 3) := by decide +kernel
theorem dX8_nest_177 : decode cX8_nest 177 = .ok (.aload_n 0, 1) := by decide +kernel
theorem dX8_nest_178 : decode cX8_nest 178 = .ok (.getfield 237, 3) := by decide +kernel
theorem dX8_nest_181 : decode cX8_nest 181 = .ok (.aload_n 0, 1) := by decide +kernel
theorem dX8_nest_182 : decode cX8_nest 182 = .ok (.getfield 222, 3) := by decide +kernel
theorem dX8_nest_185 : decode cX8_nest 185 = .ok (.iadd, 1) := by decide +kernel
theorem dX8_nest_186 : decode cX8_nest 186 = .ok (.iload 6, 2) := by decide +kernel
theorem dX8_nest_188 : decode cX8_nest 188 = .ok (.isub, 1) := by decide +kernel
theorem dX8_nest_189 : decode cX8_nest 189 = .ok (.iastore, 1) := by decide +kernel
theorem dX8_nest_190 : decode cX8_nest 190 = .ok (.aload_n 0, 1) := by decide +kernel
theorem dX8_nest_191 : decode cX8_nest 191 = .ok (.dup, 1) := by decide +kernel
theorem dX8_nest_192 : decode cX8_nest 192 = .ok (.getfield 246, 3) := by decide +kernel
theorem dX8_nest_195 : decode cX8_nest 195 = .ok (.iconst 1, 1) := by decide +kernel
theorem dX8_nest_196 : decode cX8_nest 196 = .ok (.iadd, 1) := by decide +kernel
theorem dX8_nest_197 : decode cX8_nest 197 = .ok (.putfield 246, 3) := by decide +kernel
theorem dX8_nest_200 : decode cX8_nest 200 = .ok (.iload 5, 2) := by decide +kernel
theorem dX8_nest_202 : decode cX8_nest 202 = .ok (.ireturn, 1) := by decide +kernel
theorem dX8_seed_0 : decode cX8_seed 0 = .ok (.iload_n 1, 1) := by decide +kernel
theorem dX8_seed_1 : decode cX8_seed 1 = .ok (.i2l, 1) := by decide +kernel
theorem dX8_seed_2 : decode cX8_seed 2 = .ok (.lconst 0, 1) := by decide +kernel
theorem dX8_seed_3 : decode cX8_seed 3 = .ok (.ldc2_w 260, 3) := by decide +kernel
theorem dX8_seed_6 : decode cX8_seed 6 = .ok (.invokestatic 161, 3) := by decide +kernel
theorem dX8_seed_9 : decode cX8_seed 9 = .ok (.ifCond .ne 5, 3) := by decide +kernel
theorem dX8_seed_12 : decode cX8_seed 12 = .ok (.iconst (-1), 1) := by decide +kernel
theorem dX8_seed_13 : decode cX8_seed 13 = .ok (.ireturn, 1) := by decide +kernel
theorem dX8_seed_14 : decode cX8_seed 14 = .ok (.aload_n 0, 1) := by decide +kernel
theorem dX8_seed_15 : decode cX8_seed 15 = .ok (.getfield 240, 3) := by decide +kernel
theorem dX8_seed_18 : decode cX8_seed 18 = .ok (.istore_n 2, 1) := by decide +kernel
theorem dX8_seed_19 : decode cX8_seed 19 = .ok (.aload_n 0, 1) := by decide +kernel
theorem dX8_seed_20 : decode cX8_seed 20 = .ok (.iload_n 1, 1) := by decide +kernel
theorem dX8_seed_21 : decode cX8_seed 21 = .ok (.putfield 240, 3) := by decide +kernel
theorem dX8_seed_24 : decode cX8_seed 24 = .ok (.iload_n 2, 1) := by decide +kernel
theorem dX8_seed_25 : decode cX8_seed 25 = .ok (.ireturn, 1) := by decide +kernel
theorem dX8_isDevice_0 : decode cX8_isDevice 0 = .ok (.iload_n 1, 1) := by decide +kernel
theorem dX8_isDevice_1 : decode cX8_isDevice 1 = .ok (.i2l, 1) := by decide +kernel
theorem dX8_isDevice_2 : decode cX8_isDevice 2 = .ok (.lconst 0, 1) := by decide +kernel
theorem dX8_isDevice_3 : decode cX8_isDevice 3 = .ok (.aload_n 0, 1) := by decide +kernel
theorem dX8_isDevice_4 : decode cX8_isDevice 4 = .ok (.getfield 219, 3) := by decide +kernel
theorem dX8_isDevice_7 : decode cX8_isDevice 7 = .ok (.iconst 1, 1) := by decide +kernel
theorem dX8_isDevice_8 : decode cX8_isDevice 8 = .ok (.isub, 1) := by decide +kernel
theorem dX8_isDevice_9 : decode cX8_isDevice 9 = .ok (.i2l, 1) := by decide +kernel
theorem dX8_isDevice_10 : decode cX8_isDevice 10 = .ok (.invokestatic 161, 3) := by decide +kernel
theorem dX8_isDevice_13 : decode cX8_isDevice 13 = .ok (.ireturn, 1) := by decide +kernel
theorem dX8_has_0 : decode cX8_has 0 = .ok (.iload_n 0, 1) := by decide +kernel
theorem dX8_has_1 : decode cX8_has 1 = .ok (.iload_n 1, 1) := by decide +kernel
theorem dX8_has_2 : decode cX8_has 2 = .ok (.ishr, 1) := by decide +kernel
theorem dX8_has_3 : decode cX8_has 3 = .ok (.iconst 1, 1) := by decide +kernel
theorem dX8_has_4 : decode cX8_has 4 = .ok (.iand, 1) := by decide +kernel
theorem dX8_has_5 : decode cX8_has 5 = .ok (.iconst 1, 1) := by decide +kernel
theorem dX8_has_6 : decode cX8_has 6 = .ok (.if_icmp .ne 7, 3) := by decide +kernel
theorem dX8_has_9 : decode cX8_has 9 = .ok (.iconst 1, 1) := by decide +kernel
theorem dX8_has_10 : decode cX8_has 10 = .ok (.goto 4, 3) := by decide +kernel
theorem dX8_has_13 : decode cX8_has 13 = .ok (.iconst 0, 1) := by decide +kernel
theorem dX8_has_14 : decode cX8_has 14 = .ok (.ireturn, 1) := by decide +kernel
theorem dX8_promiseOf_0 : decode cX8_promiseOf 0 = .ok (.iconst 0, 1) := by decide +kernel
theorem dX8_promiseOf_1 : decode cX8_promiseOf 1 = .ok (.istore_n 3, 1) := by decide +kernel
theorem dX8_promiseOf_2 : decode cX8_promiseOf 2 = .ok (.iload_n 3, 1) := by decide +kernel
theorem dX8_promiseOf_3 : decode cX8_promiseOf 3 = .ok (.aload_n 0, 1) := by decide +kernel
theorem dX8_promiseOf_4 : decode cX8_promiseOf 4 = .ok (.getfield 46, 3) := by decide +kernel
theorem dX8_promiseOf_7 : decode cX8_promiseOf 7 = .ok (.iload_n 1, 1) := by decide +kernel
theorem dX8_promiseOf_8 : decode cX8_promiseOf 8 = .ok (.iaload, 1) := by decide +kernel
theorem dX8_promiseOf_9 : decode cX8_promiseOf 9 = .ok (.if_icmp .ge 26, 3) := by decide +kernel
theorem dX8_promiseOf_12 : decode cX8_promiseOf 12 = .ok (.aload_n 0, 1) := by decide +kernel
theorem dX8_promiseOf_13 : decode cX8_promiseOf 13 = .ok (.getfield 49, 3) := by decide +kernel
theorem dX8_promiseOf_16 : decode cX8_promiseOf 16 = .ok (.bipush 7, 2) := by decide +kernel
theorem dX8_promiseOf_18 : decode cX8_promiseOf 18 = .ok (.iload_n 1, 1) := by decide +kernel
theorem dX8_promiseOf_19 : decode cX8_promiseOf 19 = .ok (.imul, 1) := by decide +kernel
theorem dX8_promiseOf_20 : decode cX8_promiseOf 20 = .ok (.iload_n 3, 1) := by decide +kernel
theorem dX8_promiseOf_21 : decode cX8_promiseOf 21 = .ok (.iadd, 1) := by decide +kernel
theorem dX8_promiseOf_22 : decode cX8_promiseOf 22 = .ok (.iaload, 1) := by decide +kernel
theorem dX8_promiseOf_23 : decode cX8_promiseOf 23 = .ok (.iload_n 2, 1) := by decide +kernel
theorem dX8_promiseOf_24 : decode cX8_promiseOf 24 = .ok (.if_icmp .ne 5, 3) := by decide +kernel
theorem dX8_promiseOf_27 : decode cX8_promiseOf 27 = .ok (.iload_n 3, 1) := by decide +kernel
theorem dX8_promiseOf_28 : decode cX8_promiseOf 28 = .ok (.ireturn, 1) := by decide +kernel
theorem dX8_promiseOf_29 : decode cX8_promiseOf 29 = .ok (.iinc 3 1, 3) := by decide +kernel
theorem dX8_promiseOf_32 : decode cX8_promiseOf 32 = .ok (.goto (-30), 3) := by decide +kernel
theorem dX8_promiseOf_35 : decode cX8_promiseOf 35 = .ok (.bipush (-4), 2) := by decide +kernel
theorem dX8_promiseOf_37 : decode cX8_promiseOf 37 = .ok (.ireturn, 1) := by decide +kernel
theorem dX8_letGo_0 : decode cX8_letGo 0 = .ok (.aload_n 0, 1) := by decide +kernel
theorem dX8_letGo_1 : decode cX8_letGo 1 = .ok (.getfield 46, 3) := by decide +kernel
theorem dX8_letGo_4 : decode cX8_letGo 4 = .ok (.iload_n 1, 1) := by decide +kernel
theorem dX8_letGo_5 : decode cX8_letGo 5 = .ok (.dup2, 1) := by decide +kernel
theorem dX8_letGo_6 : decode cX8_letGo 6 = .ok (.iaload, 1) := by decide +kernel
theorem dX8_letGo_7 : decode cX8_letGo 7 = .ok (.iconst 1, 1) := by decide +kernel
theorem dX8_letGo_8 : decode cX8_letGo 8 = .ok (.isub, 1) := by decide +kernel
theorem dX8_letGo_9 : decode cX8_letGo 9 = .ok (.iastore, 1) := by decide +kernel
theorem dX8_letGo_10 : decode cX8_letGo 10 = .ok (.iload_n 2, 1) := by decide +kernel
theorem dX8_letGo_11 : decode cX8_letGo 11 = .ok (.istore_n 3, 1) := by decide +kernel
theorem dX8_letGo_12 : decode cX8_letGo 12 = .ok (.iload_n 3, 1) := by decide +kernel
theorem dX8_letGo_13 : decode cX8_letGo 13 = .ok (.aload_n 0, 1) := by decide +kernel
theorem dX8_letGo_14 : decode cX8_letGo 14 = .ok (.getfield 46, 3) := by decide +kernel
theorem dX8_letGo_17 : decode cX8_letGo 17 = .ok (.iload_n 1, 1) := by decide +kernel
theorem dX8_letGo_18 : decode cX8_letGo 18 = .ok (.iaload, 1) := by decide +kernel
theorem dX8_letGo_19 : decode cX8_letGo 19 = .ok (.if_icmp .ge 81, 3) := by decide +kernel
theorem dX8_letGo_22 : decode cX8_letGo 22 = .ok (.aload_n 0, 1) := by decide +kernel
theorem dX8_letGo_23 : decode cX8_letGo 23 = .ok (.getfield 49, 3) := by decide +kernel
theorem dX8_letGo_26 : decode cX8_letGo 26 = .ok (.bipush 7, 2) := by decide +kernel
theorem dX8_letGo_28 : decode cX8_letGo 28 = .ok (.iload_n 1, 1) := by decide +kernel
theorem dX8_letGo_29 : decode cX8_letGo 29 = .ok (.imul, 1) := by decide +kernel
theorem dX8_letGo_30 : decode cX8_letGo 30 = .ok (.iload_n 3, 1) := by decide +kernel
theorem dX8_letGo_31 : decode cX8_letGo 31 = .ok (.iadd, 1) := by decide +kernel
theorem dX8_letGo_32 : decode cX8_letGo 32 = .ok (.aload_n 0, 1) := by decide +kernel
theorem dX8_letGo_33 : decode cX8_letGo 33 = .ok (.getfield 49, 3) := by decide +kernel
theorem dX8_letGo_36 : decode cX8_letGo 36 = .ok (.bipush 7, 2) := by decide +kernel
theorem dX8_letGo_38 : decode cX8_letGo 38 = .ok (.iload_n 1, 1) := by decide +kernel
theorem dX8_letGo_39 : decode cX8_letGo 39 = .ok (.imul, 1) := by decide +kernel
theorem dX8_letGo_40 : decode cX8_letGo 40 = .ok (.iload_n 3, 1) := by decide +kernel
theorem dX8_letGo_41 : decode cX8_letGo 41 = .ok (.iadd, 1) := by decide +kernel
theorem dX8_letGo_42 : decode cX8_letGo 42 = .ok (.iconst 1, 1) := by decide +kernel
theorem dX8_letGo_43 : decode cX8_letGo 43 = .ok (.iadd, 1) := by decide +kernel
theorem dX8_letGo_44 : decode cX8_letGo 44 = .ok (.iaload, 1) := by decide +kernel
theorem dX8_letGo_45 : decode cX8_letGo 45 = .ok (.iastore, 1) := by decide +kernel
theorem dX8_letGo_46 : decode cX8_letGo 46 = .ok (.aload_n 0, 1) := by decide +kernel
theorem dX8_letGo_47 : decode cX8_letGo 47 = .ok (.getfield 52, 3) := by decide +kernel
theorem dX8_letGo_50 : decode cX8_letGo 50 = .ok (.bipush 7, 2) := by decide +kernel
theorem dX8_letGo_52 : decode cX8_letGo 52 = .ok (.iload_n 1, 1) := by decide +kernel
theorem dX8_letGo_53 : decode cX8_letGo 53 = .ok (.imul, 1) := by decide +kernel
theorem dX8_letGo_54 : decode cX8_letGo 54 = .ok (.iload_n 3, 1) := by decide +kernel
theorem dX8_letGo_55 : decode cX8_letGo 55 = .ok (.iadd, 1) := by decide +kernel
theorem dX8_letGo_56 : decode cX8_letGo 56 = .ok (.aload_n 0, 1) := by decide +kernel
theorem dX8_letGo_57 : decode cX8_letGo 57 = .ok (.getfield 52, 3) := by decide +kernel
theorem dX8_letGo_60 : decode cX8_letGo 60 = .ok (.bipush 7, 2) := by decide +kernel
theorem dX8_letGo_62 : decode cX8_letGo 62 = .ok (.iload_n 1, 1) := by decide +kernel
theorem dX8_letGo_63 : decode cX8_letGo 63 = .ok (.imul, 1) := by decide +kernel
theorem dX8_letGo_64 : decode cX8_letGo 64 = .ok (.iload_n 3, 1) := by decide +kernel
theorem dX8_letGo_65 : decode cX8_letGo 65 = .ok (.iadd, 1) := by decide +kernel
theorem dX8_letGo_66 : decode cX8_letGo 66 = .ok (.iconst 1, 1) := by decide +kernel
theorem dX8_letGo_67 : decode cX8_letGo 67 = .ok (.iadd, 1) := by decide +kernel
theorem dX8_letGo_68 : decode cX8_letGo 68 = .ok (.iaload, 1) := by decide +kernel
theorem dX8_letGo_69 : decode cX8_letGo 69 = .ok (.iastore, 1) := by decide +kernel
theorem dX8_letGo_70 : decode cX8_letGo 70 = .ok (.aload_n 0, 1) := by decide +kernel
theorem dX8_letGo_71 : decode cX8_letGo 71 = .ok (.getfield 55, 3) := by decide +kernel
theorem dX8_letGo_74 : decode cX8_letGo 74 = .ok (.bipush 7, 2) := by decide +kernel
theorem dX8_letGo_76 : decode cX8_letGo 76 = .ok (.iload_n 1, 1) := by decide +kernel
theorem dX8_letGo_77 : decode cX8_letGo 77 = .ok (.imul, 1) := by decide +kernel
theorem dX8_letGo_78 : decode cX8_letGo 78 = .ok (.iload_n 3, 1) := by decide +kernel
theorem dX8_letGo_79 : decode cX8_letGo 79 = .ok (.iadd, 1) := by decide +kernel
theorem dX8_letGo_80 : decode cX8_letGo 80 = .ok (.aload_n 0, 1) := by decide +kernel
theorem dX8_letGo_81 : decode cX8_letGo 81 = .ok (.getfield 55, 3) := by decide +kernel
theorem dX8_letGo_84 : decode cX8_letGo 84 = .ok (.bipush 7, 2) := by decide +kernel
theorem dX8_letGo_86 : decode cX8_letGo 86 = .ok (.iload_n 1, 1) := by decide +kernel
theorem dX8_letGo_87 : decode cX8_letGo 87 = .ok (.imul, 1) := by decide +kernel
theorem dX8_letGo_88 : decode cX8_letGo 88 = .ok (.iload_n 3, 1) := by decide +kernel
theorem dX8_letGo_89 : decode cX8_letGo 89 = .ok (.iadd, 1) := by decide +kernel
theorem dX8_letGo_90 : decode cX8_letGo 90 = .ok (.iconst 1, 1) := by decide +kernel
theorem dX8_letGo_91 : decode cX8_letGo 91 = .ok (.iadd, 1) := by decide +kernel
theorem dX8_letGo_92 : decode cX8_letGo 92 = .ok (.iaload, 1) := by decide +kernel
theorem dX8_letGo_93 : decode cX8_letGo 93 = .ok (.iastore, 1) := by decide +kernel
theorem dX8_letGo_94 : decode cX8_letGo 94 = .ok (.iinc 3 1, 3) := by decide +kernel
theorem dX8_letGo_97 : decode cX8_letGo 97 = .ok (.goto (-85), 3) := by decide +kernel
theorem dX8_letGo_100 : decode cX8_letGo 100 = .ok (.return_, 1) := by decide +kernel
theorem dX8_goesFrom_0 : decode cX8_goesFrom 0 = .ok (.bipush (-4), 2) := by decide +kernel
theorem dX8_goesFrom_2 : decode cX8_goesFrom 2 = .ok (.istore_n 3, 1) := by decide +kernel
theorem dX8_goesFrom_3 : decode cX8_goesFrom 3 = .ok (.iconst 0, 1) := by decide +kernel
theorem dX8_goesFrom_4 : decode cX8_goesFrom 4 = .ok (.istore 4, 2) := by decide +kernel
theorem dX8_goesFrom_6 : decode cX8_goesFrom 6 = .ok (.iload 4, 2) := by decide +kernel
theorem dX8_goesFrom_8 : decode cX8_goesFrom 8 = .ok (.aload_n 0, 1) := by decide +kernel
theorem dX8_goesFrom_9 : decode cX8_goesFrom 9 = .ok (.getfield 246, 3) := by decide +kernel
theorem dX8_goesFrom_12 : decode cX8_goesFrom 12 = .ok (.if_icmp .ge 53, 3) := by decide +kernel
theorem dX8_goesFrom_15 : decode cX8_goesFrom 15 = .ok (.aload_n 0, 1) := by decide +kernel
theorem dX8_goesFrom_16 : decode cX8_goesFrom 16 = .ok (.iload 4, 2) := by decide +kernel
theorem dX8_goesFrom_18 : decode cX8_goesFrom 18 = .ok (.iload_n 1, 1) := by decide +kernel
theorem dX8_goesFrom_19 : decode cX8_goesFrom 19 = .ok (.invokevirtual 265, 3) := by decide +kernel
theorem dX8_goesFrom_22 : decode cX8_goesFrom 22 = .ok (.istore 5, 2) := by decide +kernel
theorem dX8_goesFrom_24 : decode cX8_goesFrom 24 = .ok (.iload 4, 2) := by decide +kernel
theorem dX8_goesFrom_26 : decode cX8_goesFrom 26 = .ok (.iload_n 2, 1) := by decide +kernel
theorem dX8_goesFrom_27 : decode cX8_goesFrom 27 = .ok (.if_icmp .eq 32, 3) := by decide +kernel
theorem dX8_goesFrom_30 : decode cX8_goesFrom 30 = .ok (.iload 5, 2) := by decide +kernel
theorem dX8_goesFrom_32 : decode cX8_goesFrom 32 = .ok (.bipush (-4), 2) := by decide +kernel
theorem dX8_goesFrom_34 : decode cX8_goesFrom 34 = .ok (.if_icmp .eq 25, 3) := by decide +kernel
theorem dX8_goesFrom_37 : decode cX8_goesFrom 37 = .ok (.aload_n 0, 1) := by decide +kernel
theorem dX8_goesFrom_38 : decode cX8_goesFrom 38 = .ok (.getfield 52, 3) := by decide +kernel
theorem dX8_goesFrom_41 : decode cX8_goesFrom 41 = .ok (.bipush 7, 2) := by decide +kernel
theorem dX8_goesFrom_43 : decode cX8_goesFrom 43 = .ok (.iload 4, 2) := by decide +kernel
theorem dX8_goesFrom_45 : decode cX8_goesFrom 45 = .ok (.imul, 1) := by decide +kernel
theorem dX8_goesFrom_46 : decode cX8_goesFrom 46 = .ok (.iload 5, 2) := by decide +kernel
theorem dX8_goesFrom_48 : decode cX8_goesFrom 48 = .ok (.iadd, 1) := by decide +kernel
theorem dX8_goesFrom_49 : decode cX8_goesFrom 49 = .ok (.iaload, 1) := by decide +kernel
theorem dX8_goesFrom_50 : decode cX8_goesFrom 50 = .ok (.istore_n 3, 1) := by decide +kernel
theorem dX8_goesFrom_51 : decode cX8_goesFrom 51 = .ok (.aload_n 0, 1) := by decide +kernel
theorem dX8_goesFrom_52 : decode cX8_goesFrom 52 = .ok (.iload 4, 2) := by decide +kernel
theorem dX8_goesFrom_54 : decode cX8_goesFrom 54 = .ok (.iload 5, 2) := by decide +kernel
theorem dX8_goesFrom_56 : decode cX8_goesFrom 56 = .ok (.invokevirtual 269, 3) := by decide +kernel
theorem dX8_goesFrom_59 : decode cX8_goesFrom 59 = .ok (.iinc 4 1, 3) := by decide +kernel
theorem dX8_goesFrom_62 : decode cX8_goesFrom 62 = .ok (.goto (-56), 3) := by decide +kernel
theorem dX8_goesFrom_65 : decode cX8_goesFrom 65 = .ok (.iload_n 3, 1) := by decide +kernel
theorem dX8_goesFrom_66 : decode cX8_goesFrom 66 = .ok (.ireturn, 1) := by decide +kernel
theorem dX8_join_0 : decode cX8_join 0 = .ok (.aload_n 0, 1) := by decide +kernel
theorem dX8_join_1 : decode cX8_join 1 = .ok (.iload_n 1, 1) := by decide +kernel
theorem dX8_join_2 : decode cX8_join 2 = .ok (.invokevirtual 272, 3) := by decide +kernel
theorem dX8_join_5 : decode cX8_join 5 = .ok (.ifCond .eq 11, 3) := by decide +kernel
theorem dX8_join_8 : decode cX8_join 8 = .ok (.aload_n 0, 1) := by decide +kernel
theorem dX8_join_9 : decode cX8_join 9 = .ok (.iload_n 2, 1) := by decide +kernel
theorem dX8_join_10 : decode cX8_join 10 = .ok (.invokevirtual 256, 3) := by decide +kernel
theorem dX8_join_13 : decode cX8_join 13 = .ok (.ifCond .ne 5, 3) := by decide +kernel
theorem dX8_join_16 : decode cX8_join 16 = .ok (.iconst (-1), 1) := by decide +kernel
theorem dX8_join_17 : decode cX8_join 17 = .ok (.ireturn, 1) := by decide +kernel
theorem dX8_join_18 : decode cX8_join 18 = .ok (.aload_n 0, 1) := by decide +kernel
theorem dX8_join_19 : decode cX8_join 19 = .ok (.getfield 61, 3) := by decide +kernel
theorem dX8_join_22 : decode cX8_join 22 = .ok (.iload_n 1, 1) := by decide +kernel
theorem dX8_join_23 : decode cX8_join 23 = .ok (.iaload, 1) := by decide +kernel
theorem dX8_join_24 : decode cX8_join 24 = .ok (.iload_n 2, 1) := by decide +kernel
theorem dX8_join_25 : decode cX8_join 25 = .ok (.if_icmp .ne 19, 3) := by decide +kernel
theorem dX8_join_28 : decode cX8_join 28 = .ok (.aload_n 0, 1) := by decide +kernel
theorem dX8_join_29 : decode cX8_join 29 = .ok (.getfield 43, 3) := by decide +kernel
theorem dX8_join_32 : decode cX8_join 32 = .ok (.iload_n 2, 1) := by decide +kernel
theorem dX8_join_33 : decode cX8_join 33 = .ok (.iaload, 1) := by decide +kernel
theorem dX8_join_34 : decode cX8_join 34 = .ok (.iload_n 1, 1) := by decide +kernel
theorem dX8_join_35 : decode cX8_join 35 = .ok (.invokestatic 275, 3) := by decide +kernel
theorem dX8_join_38 : decode cX8_join 38 = .ok (.ifCond .eq 6, 3) := by decide +kernel
theorem dX8_join_41 : decode cX8_join 41 = .ok (.bipush (-2), 2) := by decide +kernel
theorem dX8_join_43 : decode cX8_join 43 = .ok (.ireturn, 1) := by decide +kernel
theorem dX8_join_44 : decode cX8_join 44 = .ok (.aload_n 0, 1) := by decide +kernel
theorem dX8_join_45 : decode cX8_join 45 = .ok (.getfield 61, 3) := by decide +kernel
theorem dX8_join_48 : decode cX8_join 48 = .ok (.iload_n 1, 1) := by decide +kernel
theorem dX8_join_49 : decode cX8_join 49 = .ok (.iaload, 1) := by decide +kernel
theorem dX8_join_50 : decode cX8_join 50 = .ok (.istore_n 3, 1) := by decide +kernel
theorem dX8_join_51 : decode cX8_join 51 = .ok (.aload_n 0, 1) := by decide +kernel
theorem dX8_join_52 : decode cX8_join 52 = .ok (.iload_n 1, 1) := by decide +kernel
theorem dX8_join_53 : decode cX8_join 53 = .ok (.iload_n 2, 1) := by decide +kernel
theorem dX8_join_54 : decode cX8_join 54 = .ok (.invokevirtual 279, 3) := by decide +kernel
theorem dX8_join_57 : decode cX8_join 57 = .ok (.pop, 1) := by decide +kernel
theorem dX8_join_58 : decode cX8_join 58 = .ok (.iconst 0, 1) := by decide +kernel
theorem dX8_join_59 : decode cX8_join 59 = .ok (.istore 4, 2) := by decide +kernel
theorem dX8_join_61 : decode cX8_join 61 = .ok (.iload 4, 2) := by decide +kernel
theorem dX8_join_63 : decode cX8_join 63 = .ok (.aload_n 0, 1) := by decide +kernel
theorem dX8_join_64 : decode cX8_join 64 = .ok (.getfield 246, 3) := by decide +kernel
theorem dX8_join_67 : decode cX8_join 67 = .ok (.if_icmp .ge 24, 3) := by decide +kernel
theorem dX8_join_70 : decode cX8_join 70 = .ok (.aload_n 0, 1) := by decide +kernel
theorem dX8_join_71 : decode cX8_join 71 = .ok (.getfield 43, 3) := by decide +kernel
theorem dX8_join_74 : decode cX8_join 74 = .ok (.iload 4, 2) := by decide +kernel
theorem dX8_join_76 : decode cX8_join 76 = .ok (.dup2, 1) := by decide +kernel
theorem dX8_join_77 : decode cX8_join 77 = .ok (.iaload, 1) := by decide +kernel
theorem dX8_join_78 : decode cX8_join 78 = .ok (.iconst 1, 1) := by decide +kernel
theorem dX8_join_79 : decode cX8_join 79 = .ok (.iload_n 1, 1) := by decide +kernel
theorem dX8_join_80 : decode cX8_join 80 = .ok (.ishl, 1) := by decide +kernel
theorem dX8_join_81 : decode cX8_join 81 = .ok (.iconst (-1), 1) := by decide +kernel
theorem dX8_join_82 : decode cX8_join 82 = .ok (.ixor, 1) := by decide +kernel
theorem dX8_join_83 : decode cX8_join 83 = .ok (.iand, 1) := by decide +kernel
theorem dX8_join_84 : decode cX8_join 84 = .ok (.iastore, 1) := by decide +kernel
theorem dX8_join_85 : decode cX8_join 85 = .ok (.iinc 4 1, 3) := by decide +kernel
theorem dX8_join_88 : decode cX8_join 88 = .ok (.goto (-27), 3) := by decide +kernel
theorem dX8_join_91 : decode cX8_join 91 = .ok (.aload_n 0, 1) := by decide +kernel
theorem dX8_join_92 : decode cX8_join 92 = .ok (.getfield 43, 3) := by decide +kernel
theorem dX8_join_95 : decode cX8_join 95 = .ok (.iload_n 2, 1) := by decide +kernel
theorem dX8_join_96 : decode cX8_join 96 = .ok (.dup2, 1) := by decide +kernel
theorem dX8_join_97 : decode cX8_join 97 = .ok (.iaload, 1) := by decide +kernel
theorem dX8_join_98 : decode cX8_join 98 = .ok (.iconst 1, 1) := by decide +kernel
theorem dX8_join_99 : decode cX8_join 99 = .ok (.iload_n 1, 1) := by decide +kernel
theorem dX8_join_100 : decode cX8_join 100 = .ok (.ishl, 1) := by decide +kernel
theorem dX8_join_101 : decode cX8_join 101 = .ok (.ior, 1) := by decide +kernel
theorem dX8_join_102 : decode cX8_join 102 = .ok (.iastore, 1) := by decide +kernel
theorem dX8_join_103 : decode cX8_join 103 = .ok (.aload_n 0, 1) := by decide +kernel
theorem dX8_join_104 : decode cX8_join 104 = .ok (.getfield 61, 3) := by decide +kernel
theorem dX8_join_107 : decode cX8_join 107 = .ok (.iload_n 1, 1) := by decide +kernel
theorem dX8_join_108 : decode cX8_join 108 = .ok (.iload_n 2, 1) := by decide +kernel
theorem dX8_join_109 : decode cX8_join 109 = .ok (.iastore, 1) := by decide +kernel
theorem dX8_join_110 : decode cX8_join 110 = .ok (.aload_n 0, 1) := by decide +kernel
theorem dX8_join_111 : decode cX8_join 111 = .ok (.getfield 82, 3) := by decide +kernel
theorem dX8_join_114 : decode cX8_join 114 = .ok (.iload_n 1, 1) := by decide +kernel
theorem dX8_join_115 : decode cX8_join 115 = .ok (.iconst 0, 1) := by decide +kernel
theorem dX8_join_116 : decode cX8_join 116 = .ok (.iastore, 1) := by decide +kernel
theorem dX8_join_117 : decode cX8_join 117 = .ok (.iload_n 3, 1) := by decide +kernel
theorem dX8_join_118 : decode cX8_join 118 = .ok (.ireturn, 1) := by decide +kernel
theorem dX8_drop_0 : decode cX8_drop 0 = .ok (.aload_n 0, 1) := by decide +kernel
theorem dX8_drop_1 : decode cX8_drop 1 = .ok (.iload_n 1, 1) := by decide +kernel
theorem dX8_drop_2 : decode cX8_drop 2 = .ok (.invokevirtual 272, 3) := by decide +kernel
theorem dX8_drop_5 : decode cX8_drop 5 = .ok (.ifCond .ne 5, 3) := by decide +kernel
theorem dX8_drop_8 : decode cX8_drop 8 = .ok (.iconst (-1), 1) := by decide +kernel
theorem dX8_drop_9 : decode cX8_drop 9 = .ok (.ireturn, 1) := by decide +kernel
theorem dX8_drop_10 : decode cX8_drop 10 = .ok (.iconst 0, 1) := by decide +kernel
theorem dX8_drop_11 : decode cX8_drop 11 = .ok (.istore_n 2, 1) := by decide +kernel
theorem dX8_drop_12 : decode cX8_drop 12 = .ok (.iconst 0, 1) := by decide +kernel
theorem dX8_drop_13 : decode cX8_drop 13 = .ok (.istore_n 3, 1) := by decide +kernel
theorem dX8_drop_14 : decode cX8_drop 14 = .ok (.iload_n 3, 1) := by decide +kernel
theorem dX8_drop_15 : decode cX8_drop 15 = .ok (.aload_n 0, 1) := by decide +kernel
theorem dX8_drop_16 : decode cX8_drop 16 = .ok (.getfield 246, 3) := by decide +kernel
theorem dX8_drop_19 : decode cX8_drop 19 = .ok (.if_icmp .ge 36, 3) := by decide +kernel
theorem dX8_drop_22 : decode cX8_drop 22 = .ok (.iload_n 2, 1) := by decide +kernel
theorem dX8_drop_23 : decode cX8_drop 23 = .ok (.aload_n 0, 1) := by decide +kernel
theorem dX8_drop_24 : decode cX8_drop 24 = .ok (.getfield 43, 3) := by decide +kernel
theorem dX8_drop_27 : decode cX8_drop 27 = .ok (.iload_n 3, 1) := by decide +kernel
theorem dX8_drop_28 : decode cX8_drop 28 = .ok (.iaload, 1) := by decide +kernel
theorem dX8_drop_29 : decode cX8_drop 29 = .ok (.iload_n 1, 1) := by decide +kernel
theorem dX8_drop_30 : decode cX8_drop 30 = .ok (.ishr, 1) := by decide +kernel
theorem dX8_drop_31 : decode cX8_drop 31 = .ok (.iconst 1, 1) := by decide +kernel
theorem dX8_drop_32 : decode cX8_drop 32 = .ok (.iand, 1) := by decide +kernel
theorem dX8_drop_33 : decode cX8_drop 33 = .ok (.iadd, 1) := by decide +kernel
theorem dX8_drop_34 : decode cX8_drop 34 = .ok (.istore_n 2, 1) := by decide +kernel
theorem dX8_drop_35 : decode cX8_drop 35 = .ok (.aload_n 0, 1) := by decide +kernel
theorem dX8_drop_36 : decode cX8_drop 36 = .ok (.getfield 43, 3) := by decide +kernel
theorem dX8_drop_39 : decode cX8_drop 39 = .ok (.iload_n 3, 1) := by decide +kernel
theorem dX8_drop_40 : decode cX8_drop 40 = .ok (.dup2, 1) := by decide +kernel
theorem dX8_drop_41 : decode cX8_drop 41 = .ok (.iaload, 1) := by decide +kernel
theorem dX8_drop_42 : decode cX8_drop 42 = .ok (.iconst 1, 1) := by decide +kernel
theorem dX8_drop_43 : decode cX8_drop 43 = .ok (.iload_n 1, 1) := by decide +kernel
theorem dX8_drop_44 : decode cX8_drop 44 = .ok (.ishl, 1) := by decide +kernel
theorem dX8_drop_45 : decode cX8_drop 45 = .ok (.iconst (-1), 1) := by decide +kernel
theorem dX8_drop_46 : decode cX8_drop 46 = .ok (.ixor, 1) := by decide +kernel
theorem dX8_drop_47 : decode cX8_drop 47 = .ok (.iand, 1) := by decide +kernel
theorem dX8_drop_48 : decode cX8_drop 48 = .ok (.iastore, 1) := by decide +kernel
theorem dX8_drop_49 : decode cX8_drop 49 = .ok (.iinc 3 1, 3) := by decide +kernel
theorem dX8_drop_52 : decode cX8_drop 52 = .ok (.goto (-38), 3) := by decide +kernel
theorem dX8_drop_55 : decode cX8_drop 55 = .ok (.aload_n 0, 1) := by decide +kernel
theorem dX8_drop_56 : decode cX8_drop 56 = .ok (.iload_n 1, 1) := by decide +kernel
theorem dX8_drop_57 : decode cX8_drop 57 = .ok (.bipush (-4), 2) := by decide +kernel
theorem dX8_drop_59 : decode cX8_drop 59 = .ok (.invokevirtual 279, 3) := by decide +kernel
theorem dX8_drop_62 : decode cX8_drop 62 = .ok (.pop, 1) := by decide +kernel
theorem dX8_drop_63 : decode cX8_drop 63 = .ok (.iload_n 2, 1) := by decide +kernel
theorem dX8_drop_64 : decode cX8_drop 64 = .ok (.ireturn, 1) := by decide +kernel
theorem dX8_load_0 : decode cX8_load 0 = .ok (.aload_n 0, 1) := by decide +kernel
theorem dX8_load_1 : decode cX8_load 1 = .ok (.iload_n 1, 1) := by decide +kernel
theorem dX8_load_2 : decode cX8_load 2 = .ok (.invokevirtual 272, 3) := by decide +kernel
theorem dX8_load_5 : decode cX8_load 5 = .ok (.ifCond .eq 25, 3) := by decide +kernel
theorem dX8_load_8 : decode cX8_load 8 = .ok (.iload_n 2, 1) := by decide +kernel
theorem dX8_load_9 : decode cX8_load 9 = .ok (.i2l, 1) := by decide +kernel
theorem dX8_load_10 : decode cX8_load 10 = .ok (.lconst 0, 1) := by decide +kernel
theorem dX8_load_11 : decode cX8_load 11 = .ok (.lconst 1, 1) := by decide +kernel
theorem dX8_load_12 : decode cX8_load 12 = .ok (.invokestatic 161, 3) := by decide +kernel
theorem dX8_load_15 : decode cX8_load 15 = .ok (.ifCond .eq 15, 3) := by decide +kernel
theorem dX8_load_18 : decode cX8_load 18 = .ok (.iload_n 3, 1) := by decide +kernel
theorem dX8_load_19 : decode cX8_load 19 = .ok (.i2l, 1) := by decide +kernel
theorem dX8_load_20 : decode cX8_load 20 = .ok (.lconst 0, 1) := by decide +kernel
theorem dX8_load_21 : decode cX8_load 21 = .ok (.ldc2_w 282, 3) := by decide +kernel
theorem dX8_load_24 : decode cX8_load 24 = .ok (.invokestatic 161, 3) := by decide +kernel
theorem dX8_load_27 : decode cX8_load 27 = .ok (.ifCond .ne 5, 3) := by decide +kernel
theorem dX8_load_30 : decode cX8_load 30 = .ok (.iconst (-1), 1) := by decide +kernel
theorem dX8_load_31 : decode cX8_load 31 = .ok (.ireturn, 1) := by decide +kernel
theorem dX8_load_32 : decode cX8_load 32 = .ok (.iload_n 2, 1) := by decide +kernel
theorem dX8_load_33 : decode cX8_load 33 = .ok (.ifCond .ne 12, 3) := by decide +kernel
theorem dX8_load_36 : decode cX8_load 36 = .ok (.aload_n 0, 1) := by decide +kernel
theorem dX8_load_37 : decode cX8_load 37 = .ok (.getfield 70, 3) := by decide +kernel
theorem dX8_load_40 : decode cX8_load 40 = .ok (.iload_n 1, 1) := by decide +kernel
theorem dX8_load_41 : decode cX8_load 41 = .ok (.iaload, 1) := by decide +kernel
theorem dX8_load_42 : decode cX8_load 42 = .ok (.goto 9, 3) := by decide +kernel
theorem dX8_load_45 : decode cX8_load 45 = .ok (.aload_n 0, 1) := by decide +kernel
theorem dX8_load_46 : decode cX8_load 46 = .ok (.getfield 73, 3) := by decide +kernel
theorem dX8_load_49 : decode cX8_load 49 = .ok (.iload_n 1, 1) := by decide +kernel
theorem dX8_load_50 : decode cX8_load 50 = .ok (.iaload, 1) := by decide +kernel
theorem dX8_load_51 : decode cX8_load 51 = .ok (.iload_n 3, 1) := by decide +kernel
theorem dX8_load_52 : decode cX8_load 52 = .ok (.iadd, 1) := by decide +kernel
theorem dX8_load_53 : decode cX8_load 53 = .ok (.istore 4, 2) := by decide +kernel
theorem dX8_load_55 : decode cX8_load 55 = .ok (.iload 4, 2) := by decide +kernel
theorem dX8_load_57 : decode cX8_load 57 = .ok (.bipush 99, 2) := by decide +kernel
theorem dX8_load_59 : decode cX8_load 59 = .ok (.if_icmp .le 6, 3) := by decide +kernel
theorem dX8_load_62 : decode cX8_load 62 = .ok (.bipush (-3), 2) := by decide +kernel
theorem dX8_load_64 : decode cX8_load 64 = .ok (.ireturn, 1) := by decide +kernel
theorem dX8_load_65 : decode cX8_load 65 = .ok (.aload_n 0, 1) := by decide +kernel
theorem dX8_load_66 : decode cX8_load 66 = .ok (.getfield 70, 3) := by decide +kernel
theorem dX8_load_69 : decode cX8_load 69 = .ok (.iload_n 1, 1) := by decide +kernel
theorem dX8_load_70 : decode cX8_load 70 = .ok (.iload_n 2, 1) := by decide +kernel
theorem dX8_load_71 : decode cX8_load 71 = .ok (.ifCond .ne 8, 3) := by decide +kernel
theorem dX8_load_74 : decode cX8_load 74 = .ok (.iload 4, 2) := by decide +kernel
theorem dX8_load_76 : decode cX8_load 76 = .ok (.goto 9, 3) := by decide +kernel
theorem dX8_load_79 : decode cX8_load 79 = .ok (.aload_n 0, 1) := by decide +kernel
theorem dX8_load_80 : decode cX8_load 80 = .ok (.getfield 70, 3) := by decide +kernel
theorem dX8_load_83 : decode cX8_load 83 = .ok (.iload_n 1, 1) := by decide +kernel
theorem dX8_load_84 : decode cX8_load 84 = .ok (.iaload, 1) := by decide +kernel
theorem dX8_load_85 : decode cX8_load 85 = .ok (.iastore, 1) := by decide +kernel
theorem dX8_load_86 : decode cX8_load 86 = .ok (.aload_n 0, 1) := by decide +kernel
theorem dX8_load_87 : decode cX8_load 87 = .ok (.getfield 73, 3) := by decide +kernel
theorem dX8_load_90 : decode cX8_load 90 = .ok (.iload_n 1, 1) := by decide +kernel
theorem dX8_load_91 : decode cX8_load 91 = .ok (.iload_n 2, 1) := by decide +kernel
theorem dX8_load_92 : decode cX8_load 92 = .ok (.iconst 1, 1) := by decide +kernel
theorem dX8_load_93 : decode cX8_load 93 = .ok (.if_icmp .ne 8, 3) := by decide +kernel
theorem dX8_load_96 : decode cX8_load 96 = .ok (.iload 4, 2) := by decide +kernel
theorem dX8_load_98 : decode cX8_load 98 = .ok (.goto 9, 3) := by decide +kernel
theorem dX8_load_101 : decode cX8_load 101 = .ok (.aload_n 0, 1) := by decide +kernel
theorem dX8_load_102 : decode cX8_load 102 = .ok (.getfield 73, 3) := by decide +kernel
theorem dX8_load_105 : decode cX8_load 105 = .ok (.iload_n 1, 1) := by decide +kernel
theorem dX8_load_106 : decode cX8_load 106 = .ok (.iaload, 1) := by decide +kernel
theorem dX8_load_107 : decode cX8_load 107 = .ok (.iastore, 1) := by decide +kernel
theorem dX8_load_108 : decode cX8_load 108 = .ok (.iload 4, 2) := by decide +kernel
theorem dX8_load_110 : decode cX8_load 110 = .ok (.ireturn, 1) := by decide +kernel
theorem dX8_deafen_0 : decode cX8_deafen 0 = .ok (.aload_n 0, 1) := by decide +kernel
theorem dX8_deafen_1 : decode cX8_deafen 1 = .ok (.iload_n 1, 1) := by decide +kernel
theorem dX8_deafen_2 : decode cX8_deafen 2 = .ok (.invokevirtual 272, 3) := by decide +kernel
theorem dX8_deafen_5 : decode cX8_deafen 5 = .ok (.ifCond .eq 15, 3) := by decide +kernel
theorem dX8_deafen_8 : decode cX8_deafen 8 = .ok (.iload_n 2, 1) := by decide +kernel
theorem dX8_deafen_9 : decode cX8_deafen 9 = .ok (.i2l, 1) := by decide +kernel
theorem dX8_deafen_10 : decode cX8_deafen 10 = .ok (.lconst 0, 1) := by decide +kernel
theorem dX8_deafen_11 : decode cX8_deafen 11 = .ok (.ldc2_w 284, 3) := by decide +kernel
theorem dX8_deafen_14 : decode cX8_deafen 14 = .ok (.invokestatic 161, 3) := by decide +kernel
theorem dX8_deafen_17 : decode cX8_deafen 17 = .ok (.ifCond .ne 5, 3) := by decide +kernel
theorem dX8_deafen_20 : decode cX8_deafen 20 = .ok (.iconst (-1), 1) := by decide +kernel
theorem dX8_deafen_21 : decode cX8_deafen 21 = .ok (.ireturn, 1) := by decide +kernel
theorem dX8_deafen_22 : decode cX8_deafen 22 = .ok (.aload_n 0, 1) := by decide +kernel
theorem dX8_deafen_23 : decode cX8_deafen 23 = .ok (.getfield 85, 3) := by decide +kernel
theorem dX8_deafen_26 : decode cX8_deafen 26 = .ok (.iload_n 1, 1) := by decide +kernel
theorem dX8_deafen_27 : decode cX8_deafen 27 = .ok (.iaload, 1) := by decide +kernel
theorem dX8_deafen_28 : decode cX8_deafen 28 = .ok (.istore_n 3, 1) := by decide +kernel
theorem dX8_deafen_29 : decode cX8_deafen 29 = .ok (.aload_n 0, 1) := by decide +kernel
theorem dX8_deafen_30 : decode cX8_deafen 30 = .ok (.getfield 85, 3) := by decide +kernel
theorem dX8_deafen_33 : decode cX8_deafen 33 = .ok (.iload_n 1, 1) := by decide +kernel
theorem dX8_deafen_34 : decode cX8_deafen 34 = .ok (.iload_n 2, 1) := by decide +kernel
theorem dX8_deafen_35 : decode cX8_deafen 35 = .ok (.iastore, 1) := by decide +kernel
theorem dX8_deafen_36 : decode cX8_deafen 36 = .ok (.iload_n 3, 1) := by decide +kernel
theorem dX8_deafen_37 : decode cX8_deafen 37 = .ok (.ireturn, 1) := by decide +kernel

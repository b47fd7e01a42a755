theorem dX5_readEnd_0 : decode cX5_readEnd 0 = .ok (.aload_n 0, 1) := by decide +kernel
theorem dX5_readEnd_1 : decode cX5_readEnd 1 = .ok (.getfield 24, 3) := by decide +kernel
theorem dX5_readEnd_4 : decode cX5_readEnd 4 = .ok (.ifCond .ne 25, 3) := by decide +kernel
theorem dX5_readEnd_7 : decode cX5_readEnd 7 = .ok (.aload_n 0, 1) := by decide +kernel
theorem dX5_readEnd_8 : decode cX5_readEnd 8 = .ok (.getfield 9, 3) := by decide +kernel
theorem dX5_readEnd_11 : decode cX5_readEnd 11 = .ok (.aload_n 0, 1) := by decide +kernel
theorem dX5_readEnd_12 : decode cX5_readEnd 12 = .ok (.getfield 20, 3) := by decide +kernel
theorem dX5_readEnd_15 : decode cX5_readEnd 15 = .ok (.invokevirtual 36, 3) := by decide +kernel
theorem dX5_readEnd_18 : decode cX5_readEnd 18 = .ok (.bipush 59, 2) := by decide +kernel
theorem dX5_readEnd_20 : decode cX5_readEnd 20 = .ok (.if_icmp .eq 9, 3) := by decide +kernel
theorem dX5_readEnd_23 : decode cX5_readEnd 23 = .ok (.aload_n 0, 1) := by decide +kernel
theorem dX5_readEnd_24 : decode cX5_readEnd 24 = .ok (.bipush 11, 2) := by decide +kernel
theorem dX5_readEnd_26 : decode cX5_readEnd 26 = .ok (.putfield 24, 3) := by decide +kernel
theorem dX5_readEnd_29 : decode cX5_readEnd 29 = .ok (.aload_n 0, 1) := by decide +kernel
theorem dX5_readEnd_30 : decode cX5_readEnd 30 = .ok (.dup, 1) := by decide +kernel
theorem dX5_readEnd_31 : decode cX5_readEnd 31 = .ok (.getfield 20, 3) := by decide +kernel
theorem dX5_readEnd_34 : decode cX5_readEnd 34 = .ok (.iconst 1, 1) := by decide +kernel
theorem dX5_readEnd_35 : decode cX5_readEnd 35 = .ok (.iadd, 1) := by decide +kernel
theorem dX5_readEnd_36 : decode cX5_readEnd 36 = .ok (.putfield 20, 3) := by decide +kernel
theorem dX5_readEnd_39 : decode cX5_readEnd 39 = .ok (.return_, 1) := by decide +kernel
theorem dX5_readOrders_0 : decode cX5_readOrders 0 = .ok (.aload_n 0, 1) := by decide +kernel
theorem dX5_readOrders_1 : decode cX5_readOrders 1 = .ok (.iconst 1, 1) := by decide +kernel
theorem dX5_readOrders_2 : decode cX5_readOrders 2 = .ok (.iconst 0, 1) := by decide +kernel
theorem dX5_readOrders_3 : decode cX5_readOrders 3 = .ok (.iconst 5, 1) := by decide +kernel
theorem dX5_readOrders_4 : decode cX5_readOrders 4 = .ok (.invokevirtual 58, 3) := by decide +kernel
theorem dX5_readOrders_7 : decode cX5_readOrders 7 = .ok (.istore_n 2, 1) := by decide +kernel
theorem dX5_readOrders_8 : decode cX5_readOrders 8 = .ok (.aload_n 0, 1) := by decide +kernel
theorem dX5_readOrders_9 : decode cX5_readOrders 9 = .ok (.iconst 1, 1) := by decide +kernel
theorem dX5_readOrders_10 : decode cX5_readOrders 10 = .ok (.iconst 0, 1) := by decide +kernel
theorem dX5_readOrders_11 : decode cX5_readOrders 11 = .ok (.iconst 3, 1) := by decide +kernel
theorem dX5_readOrders_12 : decode cX5_readOrders 12 = .ok (.iload_n 2, 1) := by decide +kernel
theorem dX5_readOrders_13 : decode cX5_readOrders 13 = .ok (.invokestatic 62, 3) := by decide +kernel
theorem dX5_readOrders_16 : decode cX5_readOrders 16 = .ok (.invokevirtual 58, 3) := by decide +kernel
theorem dX5_readOrders_19 : decode cX5_readOrders 19 = .ok (.istore_n 3, 1) := by decide +kernel
theorem dX5_readOrders_20 : decode cX5_readOrders 20 = .ok (.aload_n 0, 1) := by decide +kernel
theorem dX5_readOrders_21 : decode cX5_readOrders 21 = .ok (.iconst 1, 1) := by decide +kernel
theorem dX5_readOrders_22 : decode cX5_readOrders 22 = .ok (.iconst 1, 1) := by decide +kernel
theorem dX5_readOrders_23 : decode cX5_readOrders 23 = .ok (.bipush 9, 2) := by decide +kernel
theorem dX5_readOrders_25 : decode cX5_readOrders 25 = .ok (.invokevirtual 58, 3) := by decide +kernel
theorem dX5_readOrders_28 : decode cX5_readOrders 28 = .ok (.istore 4, 2) := by decide +kernel
theorem dX5_readOrders_30 : decode cX5_readOrders 30 = .ok (.aload_n 0, 1) := by decide +kernel
theorem dX5_readOrders_31 : decode cX5_readOrders 31 = .ok (.invokevirtual 68, 3) := by decide +kernel
theorem dX5_readOrders_34 : decode cX5_readOrders 34 = .ok (.aload_n 0, 1) := by decide +kernel
theorem dX5_readOrders_35 : decode cX5_readOrders 35 = .ok (.getfield 24, 3) := by decide +kernel
theorem dX5_readOrders_38 : decode cX5_readOrders 38 = .ok (.ifCond .ne 11, 3) := by decide +kernel
theorem dX5_readOrders_41 : decode cX5_readOrders 41 = .ok (.aload_n 1, 1) := by decide +kernel
theorem dX5_readOrders_42 : decode cX5_readOrders 42 = .ok (.iload_n 2, 1) := by decide +kernel
theorem dX5_readOrders_43 : decode cX5_readOrders 43 = .ok (.iload_n 3, 1) := by decide +kernel
theorem dX5_readOrders_44 : decode cX5_readOrders 44 = .ok (.iload 4, 2) := by decide +kernel
theorem dX5_readOrders_46 : decode cX5_readOrders 46 = .ok (.invokevirtual 71, 3) := by decide +kernel
theorem dX5_readOrders_49 : decode cX5_readOrders 49 = .ok (.return_, 1) := by decide +kernel
theorem dX5_readCoordinator_0 : decode cX5_readCoordinator 0 = .ok (.aload_n 0, 1) := by decide +kernel
theorem dX5_readCoordinator_1 : decode cX5_readCoordinator 1 = .ok (.iconst 1, 1) := by decide +kernel
theorem dX5_readCoordinator_2 : decode cX5_readCoordinator 2 = .ok (.iconst 0, 1) := by decide +kernel
theorem dX5_readCoordinator_3 : decode cX5_readCoordinator 3 = .ok (.aload_n 1, 1) := by decide +kernel
theorem dX5_readCoordinator_4 : decode cX5_readCoordinator 4 = .ok (.getfield 43, 3) := by decide +kernel
theorem dX5_readCoordinator_7 : decode cX5_readCoordinator 7 = .ok (.iconst 1, 1) := by decide +kernel
theorem dX5_readCoordinator_8 : decode cX5_readCoordinator 8 = .ok (.isub, 1) := by decide +kernel
theorem dX5_readCoordinator_9 : decode cX5_readCoordinator 9 = .ok (.invokevirtual 58, 3) := by decide +kernel
theorem dX5_readCoordinator_12 : decode cX5_readCoordinator 12 = .ok (.istore_n 2, 1) := by decide +kernel
theorem dX5_readCoordinator_13 : decode cX5_readCoordinator 13 = .ok (.aload_n 0, 1) := by decide +kernel
theorem dX5_readCoordinator_14 : decode cX5_readCoordinator 14 = .ok (.iconst 4, 1) := by decide +kernel
theorem dX5_readCoordinator_15 : decode cX5_readCoordinator 15 = .ok (.iconst 0, 1) := by decide +kernel
theorem dX5_readCoordinator_16 : decode cX5_readCoordinator 16 = .ok (.aload_n 1, 1) := by decide +kernel
theorem dX5_readCoordinator_17 : decode cX5_readCoordinator 17 = .ok (.getfield 75, 3) := by decide +kernel
theorem dX5_readCoordinator_20 : decode cX5_readCoordinator 20 = .ok (.iconst 1, 1) := by decide +kernel
theorem dX5_readCoordinator_21 : decode cX5_readCoordinator 21 = .ok (.isub, 1) := by decide +kernel
theorem dX5_readCoordinator_22 : decode cX5_readCoordinator 22 = .ok (.invokevirtual 58, 3) := by decide +kernel
theorem dX5_readCoordinator_25 : decode cX5_readCoordinator 25 = .ok (.istore_n 3, 1) := by decide +kernel
theorem dX5_readCoordinator_26 : decode cX5_readCoordinator 26 = .ok (.aload_n 1, 1) := by decide +kernel
theorem dX5_readCoordinator_27 : decode cX5_readCoordinator 27 = .ok (.iload_n 2, 1) := by decide +kernel
theorem dX5_readCoordinator_28 : decode cX5_readCoordinator 28 = .ok (.iload_n 3, 1) := by decide +kernel
theorem dX5_readCoordinator_29 : decode cX5_readCoordinator 29 = .ok (.invokevirtual 78, 3) := by decide +kernel
theorem dX5_readCoordinator_32 : decode cX5_readCoordinator 32 = .ok (.istore 4, 2) := by decide +kernel
theorem dX5_readCoordinator_34 : decode cX5_readCoordinator 34 = .ok (.aload_n 0, 1) := by decide +kernel
theorem dX5_readCoordinator_35 : decode cX5_readCoordinator 35 = .ok (.getfield 24, 3) := by decide +kernel
theorem dX5_readCoordinator_38 : decode cX5_readCoordinator 38 = .ok (.ifCond .ne 32, 3) := by decide +kernel
theorem dX5_readCoordinator_41 : decode cX5_readCoordinator 41 = .ok (.aload_n 0, 1) := by decide +kernel
theorem dX5_readCoordinator_42 : decode cX5_readCoordinator 42 = .ok (.aload_n 1, 1) := by decide +kernel
theorem dX5_readCoordinator_43 : decode cX5_readCoordinator 43 = .ok (.iload 4, 2) := by decide +kernel
theorem dX5_readCoordinator_45 : decode cX5_readCoordinator 45 = .ok (.invokevirtual 81, 3) := by decide +kernel
theorem dX5_readCoordinator_48 : decode cX5_readCoordinator 48 = .ok (.putfield 84, 3) := by decide +kernel
theorem dX5_readCoordinator_51 : decode cX5_readCoordinator 51 = .ok (.aload_n 0, 1) := by decide +kernel
theorem dX5_readCoordinator_52 : decode cX5_readCoordinator 52 = .ok (.aload_n 0, 1) := by decide +kernel
theorem dX5_readCoordinator_53 : decode cX5_readCoordinator 53 = .ok (.getfield 84, 3) := by decide +kernel
theorem dX5_readCoordinator_56 : decode cX5_readCoordinator 56 = .ok (.bipush (-4), 2) := by decide +kernel
theorem dX5_readCoordinator_58 : decode cX5_readCoordinator 58 = .ok (.if_icmp .ne 7, 3) := by decide +kernel
theorem dX5_readCoordinator_61 : decode cX5_readCoordinator 61 = .ok (.iconst 0, 1) := by decide +kernel
theorem dX5_readCoordinator_62 : decode cX5_readCoordinator 62 = .ok (.goto 5, 3) := by decide +kernel
theorem dX5_readCoordinator_65 : decode cX5_readCoordinator 65 = .ok (.bipush 13, 2) := by decide +kernel
theorem dX5_readCoordinator_67 : decode cX5_readCoordinator 67 = .ok (.putfield 24, 3) := by decide +kernel
theorem dX5_readCoordinator_70 : decode cX5_readCoordinator 70 = .ok (.aload_n 0, 1) := by decide +kernel
theorem dX5_readCoordinator_71 : decode cX5_readCoordinator 71 = .ok (.invokevirtual 68, 3) := by decide +kernel
theorem dX5_readCoordinator_74 : decode cX5_readCoordinator 74 = .ok (.aload_n 0, 1) := by decide +kernel
theorem dX5_readCoordinator_75 : decode cX5_readCoordinator 75 = .ok (.getfield 24, 3) := by decide +kernel
theorem dX5_readCoordinator_78 : decode cX5_readCoordinator 78 = .ok (.ifCond .ne 10, 3) := by decide +kernel
theorem dX5_readCoordinator_81 : decode cX5_readCoordinator 81 = .ok (.aload_n 1, 1) := by decide +kernel
theorem dX5_readCoordinator_82 : decode cX5_readCoordinator 82 = .ok (.iload_n 2, 1) := by decide +kernel
theorem dX5_readCoordinator_83 : decode cX5_readCoordinator 83 = .ok (.iload 4, 2) := by decide +kernel
theorem dX5_readCoordinator_85 : decode cX5_readCoordinator 85 = .ok (.invokevirtual 87, 3) := by decide +kernel
theorem dX5_readCoordinator_88 : decode cX5_readCoordinator 88 = .ok (.return_, 1) := by decide +kernel
theorem dX5_readDevice_0 : decode cX5_readDevice 0 = .ok (.aload_n 0, 1) := by decide +kernel
theorem dX5_readDevice_1 : decode cX5_readDevice 1 = .ok (.iconst 1, 1) := by decide +kernel
theorem dX5_readDevice_2 : decode cX5_readDevice 2 = .ok (.iconst 0, 1) := by decide +kernel
theorem dX5_readDevice_3 : decode cX5_readDevice 3 = .ok (.aload_n 1, 1) := by decide +kernel
theorem dX5_readDevice_4 : decode cX5_readDevice 4 = .ok (.getfield 43, 3) := by decide +kernel
theorem dX5_readDevice_7 : decode cX5_readDevice 7 = .ok (.iconst 1, 1) := by decide +kernel
theorem dX5_readDevice_8 : decode cX5_readDevice 8 = .ok (.isub, 1) := by decide +kernel
theorem dX5_readDevice_9 : decode cX5_readDevice 9 = .ok (.invokevirtual 58, 3) := by decide +kernel
theorem dX5_readDevice_12 : decode cX5_readDevice 12 = .ok (.istore_n 2, 1) := by decide +kernel
theorem dX5_readDevice_13 : decode cX5_readDevice 13 = .ok (.aload_n 0, 1) := by decide +kernel
theorem dX5_readDevice_14 : decode cX5_readDevice 14 = .ok (.iconst 1, 1) := by decide +kernel
theorem dX5_readDevice_15 : decode cX5_readDevice 15 = .ok (.iconst 1, 1) := by decide +kernel
theorem dX5_readDevice_16 : decode cX5_readDevice 16 = .ok (.bipush 8, 2) := by decide +kernel
theorem dX5_readDevice_18 : decode cX5_readDevice 18 = .ok (.invokevirtual 58, 3) := by decide +kernel
theorem dX5_readDevice_21 : decode cX5_readDevice 21 = .ok (.istore_n 3, 1) := by decide +kernel
theorem dX5_readDevice_22 : decode cX5_readDevice 22 = .ok (.aload_n 0, 1) := by decide +kernel
theorem dX5_readDevice_23 : decode cX5_readDevice 23 = .ok (.iconst 1, 1) := by decide +kernel
theorem dX5_readDevice_24 : decode cX5_readDevice 24 = .ok (.iconst 0, 1) := by decide +kernel
theorem dX5_readDevice_25 : decode cX5_readDevice 25 = .ok (.iconst 3, 1) := by decide +kernel
theorem dX5_readDevice_26 : decode cX5_readDevice 26 = .ok (.invokevirtual 58, 3) := by decide +kernel
theorem dX5_readDevice_29 : decode cX5_readDevice 29 = .ok (.istore 4, 2) := by decide +kernel
theorem dX5_readDevice_31 : decode cX5_readDevice 31 = .ok (.aload_n 0, 1) := by decide +kernel
theorem dX5_readDevice_32 : decode cX5_readDevice 32 = .ok (.invokevirtual 68, 3) := by decide +kernel
theorem dX5_readDevice_35 : decode cX5_readDevice 35 = .ok (.aload_n 0, 1) := by decide +kernel
theorem dX5_readDevice_36 : decode cX5_readDevice 36 = .ok (.getfield 24, 3) := by decide +kernel
theorem dX5_readDevice_39 : decode cX5_readDevice 39 = .ok (.ifCond .ne 11, 3) := by decide +kernel
theorem dX5_readDevice_42 : decode cX5_readDevice 42 = .ok (.aload_n 1, 1) := by decide +kernel
theorem dX5_readDevice_43 : decode cX5_readDevice 43 = .ok (.iload_n 2, 1) := by decide +kernel
theorem dX5_readDevice_44 : decode cX5_readDevice 44 = .ok (.iload_n 3, 1) := by decide +kernel
theorem dX5_readDevice_45 : decode cX5_readDevice 45 = .ok (.iload 4, 2) := by decide +kernel
theorem dX5_readDevice_47 : decode cX5_readDevice 47 = .ok (.invokevirtual 91, 3) := by decide +kernel
theorem dX5_readDevice_50 : decode cX5_readDevice 50 = .ok (.return_, 1) := by decide +kernel
theorem dX5_readLife_0 : decode cX5_readLife 0 = .ok (.aload_n 0, 1) := by decide +kernel
theorem dX5_readLife_1 : decode cX5_readLife 1 = .ok (.iconst 1, 1) := by decide +kernel
theorem dX5_readLife_2 : decode cX5_readLife 2 = .ok (.iconst 1, 1) := by decide +kernel
theorem dX5_readLife_3 : decode cX5_readLife 3 = .ok (.bipush 9, 2) := by decide +kernel
theorem dX5_readLife_5 : decode cX5_readLife 5 = .ok (.invokevirtual 58, 3) := by decide +kernel
theorem dX5_readLife_8 : decode cX5_readLife 8 = .ok (.istore_n 2, 1) := by decide +kernel
theorem dX5_readLife_9 : decode cX5_readLife 9 = .ok (.aload_n 0, 1) := by decide +kernel
theorem dX5_readLife_10 : decode cX5_readLife 10 = .ok (.invokevirtual 68, 3) := by decide +kernel
theorem dX5_readLife_13 : decode cX5_readLife 13 = .ok (.aload_n 0, 1) := by decide +kernel
theorem dX5_readLife_14 : decode cX5_readLife 14 = .ok (.getfield 24, 3) := by decide +kernel
theorem dX5_readLife_17 : decode cX5_readLife 17 = .ok (.ifCond .ne 8, 3) := by decide +kernel
theorem dX5_readLife_20 : decode cX5_readLife 20 = .ok (.aload_n 1, 1) := by decide +kernel
theorem dX5_readLife_21 : decode cX5_readLife 21 = .ok (.iload_n 2, 1) := by decide +kernel
theorem dX5_readLife_22 : decode cX5_readLife 22 = .ok (.putfield 94, 3) := by decide +kernel
theorem dX5_readLife_25 : decode cX5_readLife 25 = .ok (.return_, 1) := by decide +kernel
theorem dX5_readItem_0 : decode cX5_readItem 0 = .ok (.aload_n 0, 1) := by decide +kernel
theorem dX5_readItem_1 : decode cX5_readItem 1 = .ok (.getfield 9, 3) := by decide +kernel
theorem dX5_readItem_4 : decode cX5_readItem 4 = .ok (.aload_n 0, 1) := by decide +kernel
theorem dX5_readItem_5 : decode cX5_readItem 5 = .ok (.getfield 20, 3) := by decide +kernel
theorem dX5_readItem_8 : decode cX5_readItem 8 = .ok (.invokevirtual 36, 3) := by decide +kernel
theorem dX5_readItem_11 : decode cX5_readItem 11 = .ok (.istore_n 2, 1) := by decide +kernel
theorem dX5_readItem_12 : decode cX5_readItem 12 = .ok (.aload_n 0, 1) := by decide +kernel
theorem dX5_readItem_13 : decode cX5_readItem 13 = .ok (.getfield 20, 3) := by decide +kernel
theorem dX5_readItem_16 : decode cX5_readItem 16 = .ok (.ifCond .ne 7, 3) := by decide +kernel
theorem dX5_readItem_19 : decode cX5_readItem 19 = .ok (.iconst 1, 1) := by decide +kernel
theorem dX5_readItem_20 : decode cX5_readItem 20 = .ok (.goto 4, 3) := by decide +kernel
theorem dX5_readItem_23 : decode cX5_readItem 23 = .ok (.iconst 0, 1) := by decide +kernel
theorem dX5_readItem_24 : decode cX5_readItem 24 = .ok (.istore_n 3, 1) := by decide +kernel
theorem dX5_readItem_25 : decode cX5_readItem 25 = .ok (.aload_n 0, 1) := by decide +kernel
theorem dX5_readItem_26 : decode cX5_readItem 26 = .ok (.dup, 1) := by decide +kernel
theorem dX5_readItem_27 : decode cX5_readItem 27 = .ok (.getfield 20, 3) := by decide +kernel
theorem dX5_readItem_30 : decode cX5_readItem 30 = .ok (.iconst 1, 1) := by decide +kernel
theorem dX5_readItem_31 : decode cX5_readItem 31 = .ok (.iadd, 1) := by decide +kernel
theorem dX5_readItem_32 : decode cX5_readItem 32 = .ok (.putfield 20, 3) := by decide +kernel
theorem dX5_readItem_35 : decode cX5_readItem 35 = .ok (.iload_n 3, 1) := by decide +kernel
theorem dX5_readItem_36 : decode cX5_readItem 36 = .ok (.iload_n 2, 1) := by decide +kernel
theorem dX5_readItem_37 : decode cX5_readItem 37 = .ok (.bipush 111, 2) := by decide +kernel
theorem dX5_readItem_39 : decode cX5_readItem 39 = .ok (.if_icmp .ne 7, 3) := by decide +kernel
theorem dX5_readItem_42 : decode cX5_readItem 42 = .ok (.iconst 1, 1) := by decide +kernel
theorem dX5_readItem_43 : decode cX5_readItem 43 = .ok (.goto 4, 3) := by decide +kernel
theorem dX5_readItem_46 : decode cX5_readItem 46 = .ok (.iconst 0, 1) := by decide +kernel
theorem dX5_readItem_47 : decode cX5_readItem 47 = .ok (.if_icmp .eq 12, 3) := by decide +kernel
theorem dX5_readItem_50 : decode cX5_readItem 50 = .ok (.aload_n 0, 1) := by decide +kernel
theorem dX5_readItem_51 : decode cX5_readItem 51 = .ok (.bipush 10, 2) := by decide +kernel
theorem dX5_readItem_53 : decode cX5_readItem 53 = .ok (.putfield 24, 3) := by decide +kernel
theorem dX5_readItem_56 : decode cX5_readItem 56 = .ok (.goto 82, 3) := by decide +kernel
theorem dX5_readItem_59 : decode cX5_readItem 59 = .ok (.iload_n 2, 1) := by decide +kernel
theorem dX5_readItem_60 : decode cX5_readItem 60 = .ok (.bipush 111, 2) := by decide +kernel
theorem dX5_readItem_62 : decode cX5_readItem 62 = .ok (.if_icmp .ne 11, 3) := by decide +kernel
theorem dX5_readItem_65 : decode cX5_readItem 65 = .ok (.aload_n 0, 1) := by decide +kernel
theorem dX5_readItem_66 : decode cX5_readItem 66 = .ok (.aload_n 1, 1) := by decide +kernel
theorem dX5_readItem_67 : decode cX5_readItem 67 = .ok (.invokevirtual 40, 3) := by decide +kernel
theorem dX5_readItem_70 : decode cX5_readItem 70 = .ok (.goto 68, 3) := by decide +kernel
theorem dX5_readItem_73 : decode cX5_readItem 73 = .ok (.iload_n 2, 1) := by decide +kernel
theorem dX5_readItem_74 : decode cX5_readItem 74 = .ok (.bipush 99, 2) := by decide +kernel
theorem dX5_readItem_76 : decode cX5_readItem 76 = .ok (.if_icmp .ne 19, 3) := by decide +kernel
theorem dX5_readItem_79 : decode cX5_readItem 79 = .ok (.aload_n 1, 1) := by decide +kernel
theorem dX5_readItem_80 : decode cX5_readItem 80 = .ok (.getfield 43, 3) := by decide +kernel
theorem dX5_readItem_83 : decode cX5_readItem 83 = .ok (.iconst 4, 1) := by decide +kernel
theorem dX5_readItem_84 : decode cX5_readItem 84 = .ok (.if_icmp .ge 11, 3) := by decide +kernel
theorem dX5_readItem_87 : decode cX5_readItem 87 = .ok (.aload_n 0, 1) := by decide +kernel
theorem dX5_readItem_88 : decode cX5_readItem 88 = .ok (.aload_n 1, 1) := by decide +kernel
theorem dX5_readItem_89 : decode cX5_readItem 89 = .ok (.invokevirtual 46, 3) := by decide +kernel
theorem dX5_readItem_92 : decode cX5_readItem 92 = .ok (.goto 46, 3) := by decide +kernel
theorem dX5_readItem_95 : decode cX5_readItem 95 = .ok (.iload_n 2, 1) := by decide +kernel
theorem dX5_readItem_96 : decode cX5_readItem 96 = .ok (.bipush 100, 2) := by decide +kernel
theorem dX5_readItem_98 : decode cX5_readItem 98 = .ok (.if_icmp .ne 20, 3) := by decide +kernel
theorem dX5_readItem_101 : decode cX5_readItem 101 = .ok (.aload_n 1, 1) := by decide +kernel
theorem dX5_readItem_102 : decode cX5_readItem 102 = .ok (.getfield 49, 3) := by decide +kernel
theorem dX5_readItem_105 : decode cX5_readItem 105 = .ok (.bipush 8, 2) := by decide +kernel
theorem dX5_readItem_107 : decode cX5_readItem 107 = .ok (.if_icmp .ge 11, 3) := by decide +kernel
theorem dX5_readItem_110 : decode cX5_readItem 110 = .ok (.aload_n 0, 1) := by decide +kernel
theorem dX5_readItem_111 : decode cX5_readItem 111 = .ok (.aload_n 1, 1) := by decide +kernel
theorem dX5_readItem_112 : decode cX5_readItem 112 = .ok (.invokevirtual 52, 3) := by decide +kernel
theorem dX5_readItem_115 : decode cX5_readItem 115 = .ok (.goto 23, 3) := by decide +kernel
theorem dX5_readItem_118 : decode cX5_readItem 118 = .ok (.iload_n 2, 1) := by decide +kernel
theorem dX5_readItem_119 : decode cX5_readItem 119 = .ok (.bipush 108, 2) := by decide +kernel
theorem dX5_readItem_121 : decode cX5_readItem 121 = .ok (.if_icmp .ne 11, 3) := by decide +kernel
theorem dX5_readItem_124 : decode cX5_readItem 124 = .ok (.aload_n 0, 1) := by decide +kernel
theorem dX5_readItem_125 : decode cX5_readItem 125 = .ok (.aload_n 1, 1) := by decide +kernel
theorem dX5_readItem_126 : decode cX5_readItem 126 = .ok (.invokevirtual 55, 3) := by decide +kernel
theorem dX5_readItem_129 : decode cX5_readItem 129 = .ok (.goto 9, 3) := by decide +kernel
theorem dX5_readItem_132 : decode cX5_readItem 132 = .ok (.aload_n 0, 1) := by decide +kernel
theorem dX5_readItem_133 : decode cX5_readItem 133 = .ok (.bipush 10, 2) := by decide +kernel
theorem dX5_readItem_135 : decode cX5_readItem 135 = .ok (.putfield 24, 3) := by decide +kernel
theorem dX5_readItem_138 : decode cX5_readItem 138 = .ok (.return_, 1) := by decide +kernel
theorem dX5_readInto_0 : decode cX5_readInto 0 = .ok (.aload_n 1, 1) := by decide +kernel
theorem dX5_readInto_1 : decode cX5_readInto 1 = .ok (.invokevirtual 15, 3) := by decide +kernel
theorem dX5_readInto_4 : decode cX5_readInto 4 = .ok (.aload_n 0, 1) := by decide +kernel
theorem dX5_readInto_5 : decode cX5_readInto 5 = .ok (.iconst 0, 1) := by decide +kernel
theorem dX5_readInto_6 : decode cX5_readInto 6 = .ok (.putfield 20, 3) := by decide +kernel
theorem dX5_readInto_9 : decode cX5_readInto 9 = .ok (.aload_n 0, 1) := by decide +kernel
theorem dX5_readInto_10 : decode cX5_readInto 10 = .ok (.iconst 0, 1) := by decide +kernel
theorem dX5_readInto_11 : decode cX5_readInto 11 = .ok (.putfield 24, 3) := by decide +kernel
theorem dX5_readInto_14 : decode cX5_readInto 14 = .ok (.iconst 0, 1) := by decide +kernel
theorem dX5_readInto_15 : decode cX5_readInto 15 = .ok (.istore_n 2, 1) := by decide +kernel
theorem dX5_readInto_16 : decode cX5_readInto 16 = .ok (.iload_n 2, 1) := by decide +kernel
theorem dX5_readInto_17 : decode cX5_readInto 17 = .ok (.sipush 200, 3) := by decide +kernel
theorem dX5_readInto_20 : decode cX5_readInto 20 = .ok (.if_icmp .ge 42, 3) := by decide +kernel
theorem dX5_readInto_23 : decode cX5_readInto 23 = .ok (.aload_n 0, 1) := by decide +kernel
theorem dX5_readInto_24 : decode cX5_readInto 24 = .ok (.getfield 20, 3) := by decide +kernel
theorem dX5_readInto_27 : decode cX5_readInto 27 = .ok (.aload_n 0, 1) := by decide +kernel
theorem dX5_readInto_28 : decode cX5_readInto 28 = .ok (.getfield 9, 3) := by decide +kernel
theorem dX5_readInto_31 : decode cX5_readInto 31 = .ok (.getfield 27, 3) := by decide +kernel
theorem dX5_readInto_34 : decode cX5_readInto 34 = .ok (.if_icmp .ge 28, 3) := by decide +kernel
theorem dX5_readInto_37 : decode cX5_readInto 37 = .ok (.aload_n 0, 1) := by decide +kernel
theorem dX5_readInto_38 : decode cX5_readInto 38 = .ok (.getfield 20, 3) := by decide +kernel
theorem dX5_readInto_41 : decode cX5_readInto 41 = .ok (.istore_n 3, 1) := by decide +kernel
theorem dX5_readInto_42 : decode cX5_readInto 42 = .ok (.aload_n 0, 1) := by decide +kernel
theorem dX5_readInto_43 : decode cX5_readInto 43 = .ok (.aload_n 1, 1) := by decide +kernel
theorem dX5_readInto_44 : decode cX5_readInto 44 = .ok (.invokevirtual 32, 3) := by decide +kernel
theorem dX5_readInto_47 : decode cX5_readInto 47 = .ok (.aload_n 0, 1) := by decide +kernel
theorem dX5_readInto_48 : decode cX5_readInto 48 = .ok (.getfield 24, 3) := by decide +kernel
theorem dX5_readInto_51 : decode cX5_readInto 51 = .ok (.ifCond .eq 5, 3) := by decide +kernel
theorem dX5_readInto_54 : decode cX5_readInto 54 = .ok (.iload_n 3, 1) := by decide +kernel
theorem dX5_readInto_55 : decode cX5_readInto 55 = .ok (.ireturn, 1) := by decide +kernel
theorem dX5_readInto_56 : decode cX5_readInto 56 = .ok (.iinc 2 1, 3) := by decide +kernel
theorem dX5_readInto_59 : decode cX5_readInto 59 = .ok (.goto (-43), 3) := by decide +kernel
theorem dX5_readInto_62 : decode cX5_readInto 62 = .ok (.bipush (-4), 2) := by decide +kernel
theorem dX5_readInto_64 : decode cX5_readInto 64 = .ok (.ireturn, 1) := by decide +kernel
theorem dX6_append_0 : decode cX6_append 0 = .ok (.aload_n 0, 1) := by decide +kernel
theorem dX6_append_1 : decode cX6_append 1 = .ok (.getfield 21, 3) := by decide +kernel
theorem dX6_append_4 : decode cX6_append 4 = .ok (.aload_n 0, 1) := by decide +kernel
theorem dX6_append_5 : decode cX6_append 5 = .ok (.getfield 15, 3) := by decide +kernel
theorem dX6_append_8 : decode cX6_append 8 = .ok (.arraylength, 1) := by decide +kernel
theorem dX6_append_9 : decode cX6_append 9 = .ok (.if_icmp .lt 5, 3) := by decide +kernel
theorem dX6_append_12 : decode cX6_append 12 = .ok (.iconst 0, 1) := by decide +kernel
theorem dX6_append_13 : decode cX6_append 13 = .ok (.ireturn, 1) := by decide +kernel
theorem dX6_append_14 : decode cX6_append 14 = .ok (.aload_n 0, 1) := by decide +kernel
theorem dX6_append_15 : decode cX6_append 15 = .ok (.getfield 15, 3) := by decide +kernel
theorem dX6_append_18 : decode cX6_append 18 = .ok (.aload_n 0, 1) := by decide +kernel
theorem dX6_append_19 : decode cX6_append 19 = .ok (.getfield 21, 3) := by decide +kernel
theorem dX6_append_22 : decode cX6_append 22 = .ok (.iload_n 1, 1) := by decide +kernel
theorem dX6_append_23 : decode cX6_append 23 = .ok (.iastore, 1) := by decide +kernel
theorem dX6_append_24 : decode cX6_append 24 = .ok (.aload_n 0, 1) := by decide +kernel
theorem dX6_append_25 : decode cX6_append 25 = .ok (.dup, 1) := by decide +kernel
theorem dX6_append_26 : decode cX6_append 26 = .ok (.getfield 21, 3) := by decide +kernel
theorem dX6_append_29 : decode cX6_append 29 = .ok (.iconst 1, 1) := by decide +kernel
theorem dX6_append_30 : decode cX6_append 30 = .ok (.iadd, 1) := by decide +kernel
theorem dX6_append_31 : decode cX6_append 31 = .ok (.putfield 21, 3) := by decide +kernel
theorem dX6_append_34 : decode cX6_append 34 = .ok (.iconst 1, 1) := by decide +kernel
theorem dX6_append_35 : decode cX6_append 35 = .ok (.ireturn, 1) := by decide +kernel
theorem dX6_clear_0 : decode cX6_clear 0 = .ok (.aload_n 0, 1) := by decide +kernel
theorem dX6_clear_1 : decode cX6_clear 1 = .ok (.iconst 0, 1) := by decide +kernel
theorem dX6_clear_2 : decode cX6_clear 2 = .ok (.putfield 21, 3) := by decide +kernel
theorem dX6_clear_5 : decode cX6_clear 5 = .ok (.return_, 1) := by decide +kernel
theorem dX7_coordinatorAt_0 : decode cX7_coordinatorAt 0 = .ok (.iload_n 1, 1) := by decide +kernel
theorem dX7_coordinatorAt_1 : decode cX7_coordinatorAt 1 = .ok (.ifCond .lt 32, 3) := by decide +kernel
theorem dX7_coordinatorAt_4 : decode cX7_coordinatorAt 4 = .ok (.iload_n 1, 1) := by decide +kernel
theorem dX7_coordinatorAt_5 : decode cX7_coordinatorAt 5 = .ok (.aload_n 0, 1) := by decide +kernel
theorem dX7_coordinatorAt_6 : decode cX7_coordinatorAt 6 = .ok (.getfield 33, 3) := by decide +kernel
theorem dX7_coordinatorAt_9 : decode cX7_coordinatorAt 9 = .ok (.getfield 110, 3) := by decide +kernel
theorem dX7_coordinatorAt_12 : decode cX7_coordinatorAt 12 = .ok (.if_icmp .ge 21, 3) := by decide +kernel
theorem dX7_coordinatorAt_15 : decode cX7_coordinatorAt 15 = .ok (.iload_n 1, 1) := by decide +kernel
theorem dX7_coordinatorAt_16 : decode cX7_coordinatorAt 16 = .ok (.aload_n 0, 1) := by decide +kernel
theorem dX7_coordinatorAt_17 : decode cX7_coordinatorAt 17 = .ok (.getfield 42, 3) := by decide +kernel
theorem dX7_coordinatorAt_20 : decode cX7_coordinatorAt 20 = .ok (.arraylength, 1) := by decide +kernel
theorem dX7_coordinatorAt_21 : decode cX7_coordinatorAt 21 = .ok (.if_icmp .ge 12, 3) := by decide +kernel
theorem dX7_coordinatorAt_24 : decode cX7_coordinatorAt 24 = .ok (.aload_n 0, 1) := by decide +kernel
theorem dX7_coordinatorAt_25 : decode cX7_coordinatorAt 25 = .ok (.getfield 42, 3) := by decide +kernel
theorem dX7_coordinatorAt_28 : decode cX7_coordinatorAt 28 = .ok (.iload_n 1, 1) := by decide +kernel
theorem dX7_coordinatorAt_29 : decode cX7_coordinatorAt 29 = .ok (.aaload, 1) := by decide +kernel
theorem dX7_coordinatorAt_30 : decode cX7_coordinatorAt 30 = .ok (.goto 4, 3) := by decide +kernel
theorem dX7_coordinatorAt_33 : decode cX7_coordinatorAt 33 = .ok (.aconst_null, 1) := by decide +kernel
theorem dX7_coordinatorAt_34 : decode cX7_coordinatorAt 34 = .ok (.areturn, 1) := by decide +kernel
theorem dX7_takeLayout_0 : decode cX7_takeLayout 0 = .ok (.aload_n 0, 1) := by decide +kernel
theorem dX7_takeLayout_1 : decode cX7_takeLayout 1 = .ok (.getfield 33, 3) := by decide +kernel
theorem dX7_takeLayout_4 : decode cX7_takeLayout 4 = .ok (.astore_n 1, 1) := by decide +kernel
theorem dX7_takeLayout_5 : decode cX7_takeLayout 5 = .ok (.aload_n 0, 1) := by decide +kernel
theorem dX7_takeLayout_6 : decode cX7_takeLayout 6 = .ok (.aload_n 0, 1) := by decide +kernel
theorem dX7_takeLayout_7 : decode cX7_takeLayout 7 = .ok (.getfield 37, 3) := by decide +kernel
theorem dX7_takeLayout_10 : decode cX7_takeLayout 10 = .ok (.putfield 33, 3) := by decide +kernel
theorem dX7_takeLayout_13 : decode cX7_takeLayout 13 = .ok (.aload_n 0, 1) := by decide +kernel
theorem dX7_takeLayout_14 : decode cX7_takeLayout 14 = .ok (.aload_n 1, 1) := by decide +kernel
theorem dX7_takeLayout_15 : decode cX7_takeLayout 15 = .ok (.putfield 37, 3) := by decide +kernel
theorem dX7_takeLayout_18 : decode cX7_takeLayout 18 = .ok (.iconst 0, 1) := by decide +kernel
theorem dX7_takeLayout_19 : decode cX7_takeLayout 19 = .ok (.istore_n 2, 1) := by decide +kernel
theorem dX7_takeLayout_20 : decode cX7_takeLayout 20 = .ok (.iload_n 2, 1) := by decide +kernel
theorem dX7_takeLayout_21 : decode cX7_takeLayout 21 = .ok (.aload_n 0, 1) := by decide +kernel
theorem dX7_takeLayout_22 : decode cX7_takeLayout 22 = .ok (.getfield 42, 3) := by decide +kernel
theorem dX7_takeLayout_25 : decode cX7_takeLayout 25 = .ok (.arraylength, 1) := by decide +kernel
theorem dX7_takeLayout_26 : decode cX7_takeLayout 26 = .ok (.if_icmp .ge 37, 3) := by decide +kernel
theorem dX7_takeLayout_29 : decode cX7_takeLayout 29 = .ok (.aload_n 0, 1) := by decide +kernel
theorem dX7_takeLayout_30 : decode cX7_takeLayout 30 = .ok (.getfield 33, 3) := by decide +kernel
theorem dX7_takeLayout_33 : decode cX7_takeLayout 33 = .ok (.iload_n 2, 1) := by decide +kernel
theorem dX7_takeLayout_34 : decode cX7_takeLayout 34 = .ok (.invokevirtual 238, 3) := by decide +kernel
theorem dX7_takeLayout_37 : decode cX7_takeLayout 37 = .ok (.istore_n 3, 1) := by decide +kernel
theorem dX7_takeLayout_38 : decode cX7_takeLayout 38 = .ok (.aload_n 0, 1) := by decide +kernel
theorem dX7_takeLayout_39 : decode cX7_takeLayout 39 = .ok (.getfield 42, 3) := by decide +kernel
theorem dX7_takeLayout_42 : decode cX7_takeLayout 42 = .ok (.iload_n 2, 1) := by decide +kernel
theorem dX7_takeLayout_43 : decode cX7_takeLayout 43 = .ok (.aaload, 1) := by decide +kernel
theorem dX7_takeLayout_44 : decode cX7_takeLayout 44 = .ok (.aload_n 0, 1) := by decide +kernel
theorem dX7_takeLayout_45 : decode cX7_takeLayout 45 = .ok (.getfield 33, 3) := by decide +kernel
theorem dX7_takeLayout_48 : decode cX7_takeLayout 48 = .ok (.iload_n 2, 1) := by decide +kernel
theorem dX7_takeLayout_49 : decode cX7_takeLayout 49 = .ok (.invokevirtual 241, 3) := by decide +kernel
theorem dX7_takeLayout_52 : decode cX7_takeLayout 52 = .ok (.iload_n 3, 1) := by decide +kernel
theorem dX7_takeLayout_53 : decode cX7_takeLayout 53 = .ok (.iload_n 3, 1) := by decide +kernel
theorem dX7_takeLayout_54 : decode cX7_takeLayout 54 = .ok (.invokevirtual 130, 3) := by decide +kernel
theorem dX7_takeLayout_57 : decode cX7_takeLayout 57 = .ok (.iinc 2 1, 3) := by decide +kernel
theorem dX7_takeLayout_60 : decode cX7_takeLayout 60 = .ok (.goto (-40), 3) := by decide +kernel
theorem dX7_takeLayout_63 : decode cX7_takeLayout 63 = .ok (.iconst 0, 1) := by decide +kernel
theorem dX7_takeLayout_64 : decode cX7_takeLayout 64 = .ok (.istore_n 2, 1) := by decide +kernel
theorem dX7_takeLayout_65 : decode cX7_takeLayout 65 = .ok (.iload_n 2, 1) := by decide +kernel
theorem dX7_takeLayout_66 : decode cX7_takeLayout 66 = .ok (.aload_n 0, 1) := by decide +kernel
theorem dX7_takeLayout_67 : decode cX7_takeLayout 67 = .ok (.getfield 49, 3) := by decide +kernel
theorem dX7_takeLayout_70 : decode cX7_takeLayout 70 = .ok (.arraylength, 1) := by decide +kernel
theorem dX7_takeLayout_71 : decode cX7_takeLayout 71 = .ok (.if_icmp .ge 65, 3) := by decide +kernel
theorem dX7_takeLayout_74 : decode cX7_takeLayout 74 = .ok (.aload_n 0, 1) := by decide +kernel
theorem dX7_takeLayout_75 : decode cX7_takeLayout 75 = .ok (.getfield 49, 3) := by decide +kernel
theorem dX7_takeLayout_78 : decode cX7_takeLayout 78 = .ok (.iload_n 2, 1) := by decide +kernel
theorem dX7_takeLayout_79 : decode cX7_takeLayout 79 = .ok (.aaload, 1) := by decide +kernel
theorem dX7_takeLayout_80 : decode cX7_takeLayout 80 = .ok (.aload_n 0, 1) := by decide +kernel
theorem dX7_takeLayout_81 : decode cX7_takeLayout 81 = .ok (.getfield 33, 3) := by decide +kernel
theorem dX7_takeLayout_84 : decode cX7_takeLayout 84 = .ok (.iload_n 2, 1) := by decide +kernel
theorem dX7_takeLayout_85 : decode cX7_takeLayout 85 = .ok (.invokevirtual 244, 3) := by decide +kernel
theorem dX7_takeLayout_88 : decode cX7_takeLayout 88 = .ok (.aload_n 0, 1) := by decide +kernel
theorem dX7_takeLayout_89 : decode cX7_takeLayout 89 = .ok (.getfield 33, 3) := by decide +kernel
theorem dX7_takeLayout_92 : decode cX7_takeLayout 92 = .ok (.iload_n 2, 1) := by decide +kernel
theorem dX7_takeLayout_93 : decode cX7_takeLayout 93 = .ok (.invokevirtual 247, 3) := by decide +kernel
theorem dX7_takeLayout_96 : decode cX7_takeLayout 96 = .ok (.aload_n 0, 1) := by decide +kernel
theorem dX7_takeLayout_97 : decode cX7_takeLayout 97 = .ok (.getfield 33, 3) := by decide +kernel
theorem dX7_takeLayout_100 : decode cX7_takeLayout 100 = .ok (.iload_n 2, 1) := by decide +kernel
theorem dX7_takeLayout_101 : decode cX7_takeLayout 101 = .ok (.invokevirtual 250, 3) := by decide +kernel
theorem dX7_takeLayout_104 : decode cX7_takeLayout 104 = .ok (.invokevirtual 253, 3) := by decide +kernel
theorem dX7_takeLayout_107 : decode cX7_takeLayout 107 = .ok (.aload_n 0, 1) := by decide +kernel
theorem dX7_takeLayout_108 : decode cX7_takeLayout 108 = .ok (.aload_n 0, 1) := by decide +kernel
theorem dX7_takeLayout_109 : decode cX7_takeLayout 109 = .ok (.getfield 49, 3) := by decide +kernel
theorem dX7_takeLayout_112 : decode cX7_takeLayout 112 = .ok (.iload_n 2, 1) := by decide +kernel
theorem dX7_takeLayout_113 : decode cX7_takeLayout 113 = .ok (.aaload, 1) := by decide +kernel
theorem dX7_takeLayout_114 : decode cX7_takeLayout 114 = .ok (.getfield 142, 3) := by decide +kernel
theorem dX7_takeLayout_117 : decode cX7_takeLayout 117 = .ok (.invokevirtual 103, 3) := by decide +kernel
theorem dX7_takeLayout_120 : decode cX7_takeLayout 120 = .ok (.astore_n 3, 1) := by decide +kernel
theorem dX7_takeLayout_121 : decode cX7_takeLayout 121 = .ok (.aload_n 3, 1) := by decide +kernel
theorem dX7_takeLayout_122 : decode cX7_takeLayout 122 = .ok (.ifnull 8, 3) := by decide +kernel
theorem dX7_takeLayout_125 : decode cX7_takeLayout 125 = .ok (.aload_n 3, 1) := by decide +kernel
theorem dX7_takeLayout_126 : decode cX7_takeLayout 126 = .ok (.iload_n 2, 1) := by decide +kernel
theorem dX7_takeLayout_127 : decode cX7_takeLayout 127 = .ok (.invokevirtual 151, 3) := by decide +kernel
theorem dX7_takeLayout_130 : decode cX7_takeLayout 130 = .ok (.iinc 2 1, 3) := by decide +kernel
theorem dX7_takeLayout_133 : decode cX7_takeLayout 133 = .ok (.goto (-68), 3) := by decide +kernel
theorem dX7_takeLayout_136 : decode cX7_takeLayout 136 = .ok (.aload_n 0, 1) := by decide +kernel
theorem dX7_takeLayout_137 : decode cX7_takeLayout 137 = .ok (.getfield 59, 3) := by decide +kernel
theorem dX7_takeLayout_140 : decode cX7_takeLayout 140 = .ok (.iconst 1, 1) := by decide +kernel
theorem dX7_takeLayout_141 : decode cX7_takeLayout 141 = .ok (.putfield 135, 3) := by decide +kernel
theorem dX7_takeLayout_144 : decode cX7_takeLayout 144 = .ok (.aload_n 0, 1) := by decide +kernel
theorem dX7_takeLayout_145 : decode cX7_takeLayout 145 = .ok (.iconst 0, 1) := by decide +kernel
theorem dX7_takeLayout_146 : decode cX7_takeLayout 146 = .ok (.putfield 124, 3) := by decide +kernel
theorem dX7_takeLayout_149 : decode cX7_takeLayout 149 = .ok (.aload_n 0, 1) := by decide +kernel
theorem dX7_takeLayout_150 : decode cX7_takeLayout 150 = .ok (.iconst 0, 1) := by decide +kernel
theorem dX7_takeLayout_151 : decode cX7_takeLayout 151 = .ok (.putfield 229, 3) := by decide +kernel
theorem dX7_takeLayout_154 : decode cX7_takeLayout 154 = .ok (.return_, 1) := by decide +kernel
theorem dX7_write_0 : decode cX7_write 0 = .ok (.iload_n 1, 1) := by decide +kernel
theorem dX7_write_1 : decode cX7_write 1 = .ok (.bipush 32, 2) := by decide +kernel
theorem dX7_write_3 : decode cX7_write 3 = .ok (.if_icmp .lt 9, 3) := by decide +kernel
theorem dX7_write_6 : decode cX7_write 6 = .ok (.iload_n 1, 1) := by decide +kernel
theorem dX7_write_7 : decode cX7_write 7 = .ok (.bipush 126, 2) := by decide +kernel
theorem dX7_write_9 : decode cX7_write 9 = .ok (.if_icmp .le 5, 3) := by decide +kernel
theorem dX7_write_12 : decode cX7_write 12 = .ok (.iconst (-1), 1) := by decide +kernel
theorem dX7_write_13 : decode cX7_write 13 = .ok (.ireturn, 1) := by decide +kernel
theorem dX7_write_14 : decode cX7_write 14 = .ok (.aload_n 0, 1) := by decide +kernel
theorem dX7_write_15 : decode cX7_write 15 = .ok (.getfield 14, 3) := by decide +kernel
theorem dX7_write_18 : decode cX7_write 18 = .ok (.iload_n 1, 1) := by decide +kernel
theorem dX7_write_19 : decode cX7_write 19 = .ok (.invokevirtual 75, 3) := by decide +kernel
theorem dX7_write_22 : decode cX7_write 22 = .ok (.ifCond .eq 13, 3) := by decide +kernel
theorem dX7_write_25 : decode cX7_write 25 = .ok (.aload_n 0, 1) := by decide +kernel
theorem dX7_write_26 : decode cX7_write 26 = .ok (.getfield 14, 3) := by decide +kernel
theorem dX7_write_29 : decode cX7_write 29 = .ok (.getfield 89, 3) := by decide +kernel
theorem dX7_write_32 : decode cX7_write 32 = .ok (.goto 5, 3) := by decide +kernel
theorem dX7_write_35 : decode cX7_write 35 = .ok (.bipush (-3), 2) := by decide +kernel
theorem dX7_write_37 : decode cX7_write 37 = .ok (.ireturn, 1) := by decide +kernel
theorem dX7_wipe_0 : decode cX7_wipe 0 = .ok (.aload_n 0, 1) := by decide +kernel
theorem dX7_wipe_1 : decode cX7_wipe 1 = .ok (.getfield 14, 3) := by decide +kernel
theorem dX7_wipe_4 : decode cX7_wipe 4 = .ok (.getfield 89, 3) := by decide +kernel
theorem dX7_wipe_7 : decode cX7_wipe 7 = .ok (.istore_n 1, 1) := by decide +kernel
theorem dX7_wipe_8 : decode cX7_wipe 8 = .ok (.aload_n 0, 1) := by decide +kernel
theorem dX7_wipe_9 : decode cX7_wipe 9 = .ok (.getfield 14, 3) := by decide +kernel
theorem dX7_wipe_12 : decode cX7_wipe 12 = .ok (.invokevirtual 86, 3) := by decide +kernel
theorem dX7_wipe_15 : decode cX7_wipe 15 = .ok (.iload_n 1, 1) := by decide +kernel
theorem dX7_wipe_16 : decode cX7_wipe 16 = .ok (.ireturn, 1) := by decide +kernel
theorem dX7_faultOfText_0 : decode cX7_faultOfText 0 = .ok (.aload_n 0, 1) := by decide +kernel
theorem dX7_faultOfText_1 : decode cX7_faultOfText 1 = .ok (.getfield 23, 3) := by decide +kernel
theorem dX7_faultOfText_4 : decode cX7_faultOfText 4 = .ok (.aload_n 0, 1) := by decide +kernel
theorem dX7_faultOfText_5 : decode cX7_faultOfText 5 = .ok (.getfield 37, 3) := by decide +kernel
theorem dX7_faultOfText_8 : decode cX7_faultOfText 8 = .ok (.invokevirtual 79, 3) := by decide +kernel
theorem dX7_faultOfText_11 : decode cX7_faultOfText 11 = .ok (.istore_n 1, 1) := by decide +kernel
theorem dX7_faultOfText_12 : decode cX7_faultOfText 12 = .ok (.iload_n 1, 1) := by decide +kernel
theorem dX7_faultOfText_13 : decode cX7_faultOfText 13 = .ok (.bipush (-4), 2) := by decide +kernel
theorem dX7_faultOfText_15 : decode cX7_faultOfText 15 = .ok (.if_icmp .eq 57, 3) := by decide +kernel
theorem dX7_faultOfText_18 : decode cX7_faultOfText 18 = .ok (.aload_n 0, 1) := by decide +kernel
theorem dX7_faultOfText_19 : decode cX7_faultOfText 19 = .ok (.getfield 27, 3) := by decide +kernel
theorem dX7_faultOfText_22 : decode cX7_faultOfText 22 = .ok (.iconst 1, 1) := by decide +kernel
theorem dX7_faultOfText_23 : decode cX7_faultOfText 23 = .ok (.invokevirtual 75, 3) := by decide +kernel
theorem dX7_faultOfText_26 : decode cX7_faultOfText 26 = .ok (.pop, 1) := by decide +kernel
theorem dX7_faultOfText_27 : decode cX7_faultOfText 27 = .ok (.aload_n 0, 1) := by decide +kernel
theorem dX7_faultOfText_28 : decode cX7_faultOfText 28 = .ok (.getfield 27, 3) := by decide +kernel
theorem dX7_faultOfText_31 : decode cX7_faultOfText 31 = .ok (.aload_n 0, 1) := by decide +kernel
theorem dX7_faultOfText_32 : decode cX7_faultOfText 32 = .ok (.getfield 23, 3) := by decide +kernel
theorem dX7_faultOfText_35 : decode cX7_faultOfText 35 = .ok (.getfield 232, 3) := by decide +kernel
theorem dX7_faultOfText_38 : decode cX7_faultOfText 38 = .ok (.invokevirtual 75, 3) := by decide +kernel
theorem dX7_faultOfText_41 : decode cX7_faultOfText 41 = .ok (.pop, 1) := by decide +kernel
theorem dX7_faultOfText_42 : decode cX7_faultOfText 42 = .ok (.aload_n 0, 1) := by decide +kernel
theorem dX7_faultOfText_43 : decode cX7_faultOfText 43 = .ok (.getfield 23, 3) := by decide +kernel
theorem dX7_faultOfText_46 : decode cX7_faultOfText 46 = .ok (.getfield 232, 3) := by decide +kernel
theorem dX7_faultOfText_49 : decode cX7_faultOfText 49 = .ok (.bipush 13, 2) := by decide +kernel
theorem dX7_faultOfText_51 : decode cX7_faultOfText 51 = .ok (.if_icmp .ne 21, 3) := by decide +kernel
theorem dX7_faultOfText_54 : decode cX7_faultOfText 54 = .ok (.aload_n 0, 1) := by decide +kernel
theorem dX7_faultOfText_55 : decode cX7_faultOfText 55 = .ok (.getfield 27, 3) := by decide +kernel
theorem dX7_faultOfText_58 : decode cX7_faultOfText 58 = .ok (.bipush 20, 2) := by decide +kernel
theorem dX7_faultOfText_60 : decode cX7_faultOfText 60 = .ok (.aload_n 0, 1) := by decide +kernel
theorem dX7_faultOfText_61 : decode cX7_faultOfText 61 = .ok (.getfield 23, 3) := by decide +kernel
theorem dX7_faultOfText_64 : decode cX7_faultOfText 64 = .ok (.getfield 235, 3) := by decide +kernel
theorem dX7_faultOfText_67 : decode cX7_faultOfText 67 = .ok (.iadd, 1) := by decide +kernel
theorem dX7_faultOfText_68 : decode cX7_faultOfText 68 = .ok (.invokevirtual 75, 3) := by decide +kernel
theorem dX7_faultOfText_71 : decode cX7_faultOfText 71 = .ok (.pop, 1) := by decide +kernel
theorem dX7_faultOfText_72 : decode cX7_faultOfText 72 = .ok (.iload_n 1, 1) := by decide +kernel
theorem dX7_faultOfText_73 : decode cX7_faultOfText 73 = .ok (.ireturn, 1) := by decide +kernel
theorem dX7_fault_0 : decode cX7_fault 0 = .ok (.aload_n 0, 1) := by decide +kernel
theorem dX7_fault_1 : decode cX7_fault 1 = .ok (.getfield 27, 3) := by decide +kernel
theorem dX7_fault_4 : decode cX7_fault 4 = .ok (.invokevirtual 86, 3) := by decide +kernel
theorem dX7_fault_7 : decode cX7_fault 7 = .ok (.aload_n 0, 1) := by decide +kernel
theorem dX7_fault_8 : decode cX7_fault 8 = .ok (.invokevirtual 93, 3) := by decide +kernel
theorem dX7_fault_11 : decode cX7_fault 11 = .ok (.ireturn, 1) := by decide +kernel
theorem dX7_lay_0 : decode cX7_lay 0 = .ok (.aload_n 0, 1) := by decide +kernel
theorem dX7_lay_1 : decode cX7_lay 1 = .ok (.getfield 27, 3) := by decide +kernel
theorem dX7_lay_4 : decode cX7_lay 4 = .ok (.invokevirtual 86, 3) := by decide +kernel
theorem dX7_lay_7 : decode cX7_lay 7 = .ok (.aload_n 0, 1) := by decide +kernel
theorem dX7_lay_8 : decode cX7_lay 8 = .ok (.invokevirtual 93, 3) := by decide +kernel
theorem dX7_lay_11 : decode cX7_lay 11 = .ok (.bipush (-4), 2) := by decide +kernel
theorem dX7_lay_13 : decode cX7_lay 13 = .ok (.if_icmp .eq 6, 3) := by decide +kernel
theorem dX7_lay_16 : decode cX7_lay 16 = .ok (.bipush (-2), 2) := by decide +kernel
theorem dX7_lay_18 : decode cX7_lay 18 = .ok (.ireturn, 1) := by decide +kernel
theorem dX7_lay_19 : decode cX7_lay 19 = .ok (.aload_n 0, 1) := by decide +kernel
theorem dX7_lay_20 : decode cX7_lay 20 = .ok (.getfield 37, 3) := by decide +kernel
theorem dX7_lay_23 : decode cX7_lay 23 = .ok (.getfield 96, 3) := by decide +kernel
theorem dX7_lay_26 : decode cX7_lay 26 = .ok (.ifCond .ne 15, 3) := by decide +kernel
theorem dX7_lay_29 : decode cX7_lay 29 = .ok (.aload_n 0, 1) := by decide +kernel
theorem dX7_lay_30 : decode cX7_lay 30 = .ok (.getfield 27, 3) := by decide +kernel
theorem dX7_lay_33 : decode cX7_lay 33 = .ok (.iconst 2, 1) := by decide +kernel
theorem dX7_lay_34 : decode cX7_lay 34 = .ok (.invokevirtual 75, 3) := by decide +kernel
theorem dX7_lay_37 : decode cX7_lay 37 = .ok (.pop, 1) := by decide +kernel
theorem dX7_lay_38 : decode cX7_lay 38 = .ok (.bipush (-2), 2) := by decide +kernel
theorem dX7_lay_40 : decode cX7_lay 40 = .ok (.ireturn, 1) := by decide +kernel
theorem dX7_lay_41 : decode cX7_lay 41 = .ok (.aload_n 0, 1) := by decide +kernel
theorem dX7_lay_42 : decode cX7_lay 42 = .ok (.invokevirtual 83, 3) := by decide +kernel
theorem dX7_lay_45 : decode cX7_lay 45 = .ok (.aload_n 0, 1) := by decide +kernel
theorem dX7_lay_46 : decode cX7_lay 46 = .ok (.getfield 33, 3) := by decide +kernel
theorem dX7_lay_49 : decode cX7_lay 49 = .ok (.getfield 96, 3) := by decide +kernel
theorem dX7_lay_52 : decode cX7_lay 52 = .ok (.ireturn, 1) := by decide +kernel
theorem dX7_cause_0 : decode cX7_cause 0 = .ok (.iload_n 1, 1) := by decide +kernel
theorem dX7_cause_1 : decode cX7_cause 1 = .ok (.ifCond .ge 7, 3) := by decide +kernel
theorem dX7_cause_4 : decode cX7_cause 4 = .ok (.iconst (-1), 1) := by decide +kernel
theorem dX7_cause_5 : decode cX7_cause 5 = .ok (.goto 11, 3) := by decide +kernel
theorem dX7_cause_8 : decode cX7_cause 8 = .ok (.aload_n 0, 1) := by decide +kernel
theorem dX7_cause_9 : decode cX7_cause 9 = .ok (.getfield 27, 3) := by decide +kernel
theorem dX7_cause_12 : decode cX7_cause 12 = .ok (.iload_n 1, 1) := by decide +kernel
theorem dX7_cause_13 : decode cX7_cause 13 = .ok (.invokevirtual 99, 3) := by decide +kernel
theorem dX7_cause_16 : decode cX7_cause 16 = .ok (.ireturn, 1) := by decide +kernel
theorem dX7_nest_0 : decode cX7_nest 0 = .ok (.aload_n 0, 1) := by decide +kernel
theorem dX7_nest_1 : decode cX7_nest 1 = .ok (.getfield 27, 3) := by decide +kernel
theorem dX7_nest_4 : decode cX7_nest 4 = .ok (.invokevirtual 86, 3) := by decide +kernel
theorem dX7_nest_7 : decode cX7_nest 7 = .ok (.aload_n 0, 1) := by decide +kernel
theorem dX7_nest_8 : decode cX7_nest 8 = .ok (.iload_n 1, 1) := by decide +kernel
theorem dX7_nest_9 : decode cX7_nest 9 = .ok (.invokevirtual 103, 3) := by decide +kernel
theorem dX7_nest_12 : decode cX7_nest 12 = .ok (.ifnull 18, 3) := by decide +kernel
theorem dX7_nest_15 : decode cX7_nest 15 = .ok (.iload_n 2, 1) := by decide +kernel
theorem dX7_nest_16 : decode cX7_nest 16 = .ok (.ifCond .lt 14, 3) := by decide +kernel
theorem dX7_nest_19 : decode cX7_nest 19 = .ok (.iload_n 2, 1) := by decide +kernel
theorem dX7_nest_20 : decode cX7_nest 20 = .ok (.aload_n 0, 1) := by decide +kernel
theorem dX7_nest_21 : decode cX7_nest 21 = .ok (.getfield 33, 3) := by decide +kernel
theorem dX7_nest_24 : decode cX7_nest 24 = .ok (.getfield 107, 3) := by decide +kernel
theorem dX7_nest_27 : decode cX7_nest 27 = .ok (.if_icmp .lt 15, 3) := by decide +kernel
theorem dX7_nest_30 : decode cX7_nest 30 = .ok (.aload_n 0, 1) := by decide +kernel
theorem dX7_nest_31 : decode cX7_nest 31 = .ok (.getfield 27, 3) := by decide +kernel
theorem dX7_nest_34 : decode cX7_nest 34 = .ok (.bipush 18, 2) := by decide +kernel
theorem dX7_nest_36 : decode cX7_nest 36 = .ok (.invokevirtual 75, 3) := by decide +kernel
theorem dX7_nest_39 : decode cX7_nest 39 = .ok (.pop, 1) := by decide +kernel
theorem dX7_nest_40 : decode cX7_nest 40 = .ok (.iconst (-1), 1) := by decide +kernel
theorem dX7_nest_41 : decode cX7_nest 41 = .ok (.ireturn, 1) := by decide +kernel
theorem dX7_nest_42 : decode cX7_nest 42 = .ok (.aload_n 0, 1) := by decide +kernel
theorem dX7_nest_43 : decode cX7_nest 43 = .ok (.getfield 33, 3) := by decide +kernel
theorem dX7_nest_46 : decode cX7_nest 46 = .ok (.getfield 110, 3) := by decide +kernel
theorem dX7_nest_49 : decode cX7_nest 49 = .ok (.iconst 4, 1) := by decide +kernel
theorem dX7_nest_50 : decode cX7_nest 50 = .ok (.if_icmp .lt 16, 3) := by decide +kernel
theorem dX7_nest_53 : decode cX7_nest 53 = .ok (.aload_n 0, 1) := by decide +kernel
theorem dX7_nest_54 : decode cX7_nest 54 = .ok (.getfield 27, 3) := by decide +kernel
theorem dX7_nest_57 : decode cX7_nest 57 = .ok (.bipush 14, 2) := by decide +kernel
theorem dX7_nest_59 : decode cX7_nest 59 = .ok (.invokevirtual 75, 3) := by decide +kernel
theorem dX7_nest_62 : decode cX7_nest 62 = .ok (.pop, 1) := by decide +kernel
theorem dX7_nest_63 : decode cX7_nest 63 = .ok (.bipush (-3), 2) := by decide +kernel
theorem dX7_nest_65 : decode cX7_nest 65 = .ok (.ireturn, 1) := by decide +kernel
theorem dX7_nest_66 : decode cX7_nest 66 = .ok (.aload_n 0, 1) := by decide +kernel
theorem dX7_nest_67 : decode cX7_nest 67 = .ok (.getfield 33, 3) := by decide +kernel
theorem dX7_nest_70 : decode cX7_nest 70 = .ok (.iload_n 1, 1) := by decide +kernel
theorem dX7_nest_71 : decode cX7_nest 71 = .ok (.iload_n 2, 1) := by decide +kernel
theorem dX7_nest_72 : decode cX7_nest 72 = .ok (.invokevirtual 113, 3) := by decide +kernel
theorem dX7_nest_75 : decode cX7_nest 75 = .ok (.istore_n 3, 1) := by decide +kernel
theorem dX7_nest_76 : decode cX7_nest 76 = .ok (.aload_n 0, 1) := by decide +kernel
theorem dX7_nest_77 : decode cX7_nest 77 = .ok (.getfield 33, 3) := by decide +kernel
theorem dX7_nest_80 : decode cX7_nest 80 = .ok (.iload_n 3, 1) := by decide +kernel
theorem dX7_nest_81 : decode cX7_nest 81 = .ok (.invokevirtual 117, 3) := by decide +kernel
theorem dX7_nest_84 : decode cX7_nest 84 = .ok (.istore 4, 2) := by decide +kernel
theorem dX7_nest_86 : decode cX7_nest 86 = .ok (.iload 4, 2) := by decide +kernel
theorem dX7_nest_88 : decode cX7_nest 88 = .ok (.bipush (-4), 2) := by decide +kernel
theorem dX7_nest_90 : decode cX7_nest 90 = .ok (.if_icmp .eq 29, 3) := by decide +kernel
theorem dX7_nest_93 : decode cX7_nest 93 = .ok (.aload_n 0, 1) := by decide +kernel
theorem dX7_nest_94 : decode cX7_nest 94 = .ok (.getfield 27, 3) := by decide +kernel
theorem dX7_nest_97 : decode cX7_nest 97 = .ok (.bipush 13, 2) := by decide +kernel
theorem dX7_nest_99 : decode cX7_nest 99 = .ok (.invokevirtual 75, 3) := by decide +kernel
theorem dX7_nest_102 : decode cX7_nest 102 = .ok (.pop, 1) := by decide +kernel
theorem dX7_nest_103 : decode cX7_nest 103 = .ok (.aload_n 0, 1) := by decide +kernel
theorem dX7_nest_104 : decode cX7_nest 104 = .ok (.getfield 27, 3) := by decide +kernel
theorem dX7_nest_107 : decode cX7_nest 107 = .ok (.bipush 20, 2) := by decide +kernel
theorem dX7_nest_109 : decode cX7_nest 109 = .ok (.iload 4, 2) := by decide +kernel
theorem dX7_nest_111 : decode cX7_nest 111 = .ok (.iadd, 1) := by decide +kernel
theorem dX7_nest_112 : decode cX7_nest 112 = .ok (.invokevirtual 75, 3) := by decide +kernel
theorem dX7_nest_115 : decode cX7_nest 115 = .ok (.pop, 1) := by decide +kernel
theorem dX7_nest_116 : decode cX7_nest 116 = .ok (.bipush (-2), 2) := by decide +kernel
theorem dX7_nest_118 : decode cX7_nest 118 = .ok (.ireturn, 1) := by decide +kernel
theorem dX7_nest_119 : decode cX7_nest 119 = .ok (.aload_n 0, 1) := by decide +kernel
theorem dX7_nest_120 : decode cX7_nest 120 = .ok (.getfield 33, 3) := by decide +kernel
theorem dX7_nest_123 : decode cX7_nest 123 = .ok (.getfield 110, 3) := by decide +kernel
theorem dX7_nest_126 : decode cX7_nest 126 = .ok (.istore 5, 2) := by decide +kernel
theorem dX7_nest_128 : decode cX7_nest 128 = .ok (.aload_n 0, 1) := by decide +kernel
theorem dX7_nest_129 : decode cX7_nest 129 = .ok (.getfield 33, 3) := by decide +kernel
theorem dX7_nest_132 : decode cX7_nest 132 = .ok (.iload_n 1, 1) := by decide +kernel
theorem dX7_nest_133 : decode cX7_nest 133 = .ok (.iload_n 3, 1) := by decide +kernel
theorem dX7_nest_134 : decode cX7_nest 134 = .ok (.invokevirtual 120, 3) := by decide +kernel
theorem dX7_nest_137 : decode cX7_nest 137 = .ok (.aload_n 0, 1) := by decide +kernel
theorem dX7_nest_138 : decode cX7_nest 138 = .ok (.iload 5, 2) := by decide +kernel
theorem dX7_nest_140 : decode cX7_nest 140 = .ok (.invokevirtual 103, 3) := by decide +kernel
theorem dX7_nest_143 : decode cX7_nest 143 = .ok (.astore 6, 2) := by decide +kernel
theorem dX7_nest_145 : decode cX7_nest 145 = .ok (.aload 6, 2) := by decide +kernel
theorem dX7_nest_147 : decode cX7_nest 147 = .ok (.ifnull 22, 3) := by decide +kernel
theorem dX7_nest_150 : decode cX7_nest 150 = .ok (.aload 6, 2) := by decide +kernel
theorem dX7_nest_152 : decode cX7_nest 152 = .ok (.iload_n 1, 1) := by decide +kernel
theorem dX7_nest_153 : decode cX7_nest 153 = .ok (.iload_n 3, 1) := by decide +kernel
theorem dX7_nest_154 : decode cX7_nest 154 = .ok (.aload_n 0, 1) := by decide +kernel
theorem dX7_nest_155 : decode cX7_nest 155 = .ok (.getfield 33, 3) := by decide +kernel
theorem dX7_nest_158 : decode cX7_nest 158 = .ok (.iload_n 3, 1) := by decide +kernel
theorem dX7_nest_159 : decode cX7_nest 159 = .ok (.aload_n 0, 1) := by decide +kernel
theorem dX7_nest_160 : decode cX7_nest 160 = .ok (.getfield 124, 3) := by decide +kernel
theorem dX7_nest_163 : decode cX7_nest 163 = .ok (.invokevirtual 127, 3) := by decide +kernel
theorem dX7_nest_166 : decode cX7_nest 166 = .ok (.invokevirtual 130, 3) := by decide +kernel
theorem dX7_nest_169 : decode cX7_nest 169 = .ok (.iload 5, 2) := by decide +kernel
theorem dX7_nest_171 : decode cX7_nest 171 = .ok (.ireturn, 1) := by decide +kernel
theorem dX7_seed_0 : decode cX7_seed 0 = .ok (.iload_n 1, 1) := by decide +kernel
theorem dX7_seed_1 : decode cX7_seed 1 = .ok (.ifCond .lt 9, 3) := by decide +kernel
theorem dX7_seed_4 : decode cX7_seed 4 = .ok (.iload_n 1, 1) := by decide +kernel
theorem dX7_seed_5 : decode cX7_seed 5 = .ok (.ldc 134, 2) := by decide +kernel
theorem dX7_seed_7 : decode cX7_seed 7 = .ok (.if_icmp .lt 5, 3) := by decide +kernel
theorem dX7_seed_10 : decode cX7_seed 10 = .ok (.iconst (-1), 1) := by decide +kernel
theorem dX7_seed_11 : decode cX7_seed 11 = .ok (.ireturn, 1) := by decide +kernel
theorem dX7_seed_12 : decode cX7_seed 12 = .ok (.aload_n 0, 1) := by decide +kernel
theorem dX7_seed_13 : decode cX7_seed 13 = .ok (.getfield 59, 3) := by decide +kernel
theorem dX7_seed_16 : decode cX7_seed 16 = .ok (.getfield 135, 3) := by decide +kernel
theorem dX7_seed_19 : decode cX7_seed 19 = .ok (.istore_n 2, 1) := by decide +kernel
theorem dX7_seed_20 : decode cX7_seed 20 = .ok (.aload_n 0, 1) := by decide +kernel
theorem dX7_seed_21 : decode cX7_seed 21 = .ok (.getfield 59, 3) := by decide +kernel
theorem dX7_seed_24 : decode cX7_seed 24 = .ok (.iload_n 1, 1) := by decide +kernel
theorem dX7_seed_25 : decode cX7_seed 25 = .ok (.putfield 135, 3) := by decide +kernel
theorem dX7_seed_28 : decode cX7_seed 28 = .ok (.iload_n 2, 1) := by decide +kernel
theorem dX7_seed_29 : decode cX7_seed 29 = .ok (.ireturn, 1) := by decide +kernel
theorem dX7_deviceAt_0 : decode cX7_deviceAt 0 = .ok (.iload_n 1, 1) := by decide +kernel
theorem dX7_deviceAt_1 : decode cX7_deviceAt 1 = .ok (.ifCond .lt 32, 3) := by decide +kernel
theorem dX7_deviceAt_4 : decode cX7_deviceAt 4 = .ok (.iload_n 1, 1) := by decide +kernel
theorem dX7_deviceAt_5 : decode cX7_deviceAt 5 = .ok (.aload_n 0, 1) := by decide +kernel
theorem dX7_deviceAt_6 : decode cX7_deviceAt 6 = .ok (.getfield 33, 3) := by decide +kernel
theorem dX7_deviceAt_9 : decode cX7_deviceAt 9 = .ok (.getfield 96, 3) := by decide +kernel
theorem dX7_deviceAt_12 : decode cX7_deviceAt 12 = .ok (.if_icmp .ge 21, 3) := by decide +kernel
theorem dX7_deviceAt_15 : decode cX7_deviceAt 15 = .ok (.iload_n 1, 1) := by decide +kernel
theorem dX7_deviceAt_16 : decode cX7_deviceAt 16 = .ok (.aload_n 0, 1) := by decide +kernel
theorem dX7_deviceAt_17 : decode cX7_deviceAt 17 = .ok (.getfield 49, 3) := by decide +kernel
theorem dX7_deviceAt_20 : decode cX7_deviceAt 20 = .ok (.arraylength, 1) := by decide +kernel
theorem dX7_deviceAt_21 : decode cX7_deviceAt 21 = .ok (.if_icmp .ge 12, 3) := by decide +kernel
theorem dX7_deviceAt_24 : decode cX7_deviceAt 24 = .ok (.aload_n 0, 1) := by decide +kernel
theorem dX7_deviceAt_25 : decode cX7_deviceAt 25 = .ok (.getfield 49, 3) := by decide +kernel
theorem dX7_deviceAt_28 : decode cX7_deviceAt 28 = .ok (.iload_n 1, 1) := by decide +kernel
theorem dX7_deviceAt_29 : decode cX7_deviceAt 29 = .ok (.aaload, 1) := by decide +kernel
theorem dX7_deviceAt_30 : decode cX7_deviceAt 30 = .ok (.goto 4, 3) := by decide +kernel
theorem dX7_deviceAt_33 : decode cX7_deviceAt 33 = .ok (.aconst_null, 1) := by decide +kernel
theorem dX7_deviceAt_34 : decode cX7_deviceAt 34 = .ok (.areturn, 1) := by decide +kernel
theorem dX7_join_0 : decode cX7_join 0 = .ok (.aload_n 0, 1) := by decide +kernel
theorem dX7_join_1 : decode cX7_join 1 = .ok (.iload_n 1, 1) := by decide +kernel
theorem dX7_join_2 : decode cX7_join 2 = .ok (.invokevirtual 138, 3) := by decide +kernel
theorem dX7_join_5 : decode cX7_join 5 = .ok (.astore_n 3, 1) := by decide +kernel
theorem dX7_join_6 : decode cX7_join 6 = .ok (.aload_n 0, 1) := by decide +kernel
theorem dX7_join_7 : decode cX7_join 7 = .ok (.iload_n 2, 1) := by decide +kernel
theorem dX7_join_8 : decode cX7_join 8 = .ok (.invokevirtual 103, 3) := by decide +kernel
theorem dX7_join_11 : decode cX7_join 11 = .ok (.astore 4, 2) := by decide +kernel
theorem dX7_join_13 : decode cX7_join 13 = .ok (.aload_n 3, 1) := by decide +kernel
theorem dX7_join_14 : decode cX7_join 14 = .ok (.ifnull 8, 3) := by decide +kernel
theorem dX7_join_17 : decode cX7_join 17 = .ok (.aload 4, 2) := by decide +kernel
theorem dX7_join_19 : decode cX7_join 19 = .ok (.ifnonnull 5, 3) := by decide +kernel
theorem dX7_join_22 : decode cX7_join 22 = .ok (.iconst (-1), 1) := by decide +kernel
theorem dX7_join_23 : decode cX7_join 23 = .ok (.ireturn, 1) := by decide +kernel
theorem dX7_join_24 : decode cX7_join 24 = .ok (.aload_n 3, 1) := by decide +kernel
theorem dX7_join_25 : decode cX7_join 25 = .ok (.getfield 142, 3) := by decide +kernel
theorem dX7_join_28 : decode cX7_join 28 = .ok (.iload_n 2, 1) := by decide +kernel
theorem dX7_join_29 : decode cX7_join 29 = .ok (.if_icmp .ne 15, 3) := by decide +kernel
theorem dX7_join_32 : decode cX7_join 32 = .ok (.aload 4, 2) := by decide +kernel
theorem dX7_join_34 : decode cX7_join 34 = .ok (.iload_n 1, 1) := by decide +kernel
theorem dX7_join_35 : decode cX7_join 35 = .ok (.invokevirtual 145, 3) := by decide +kernel
theorem dX7_join_38 : decode cX7_join 38 = .ok (.ifCond .eq 6, 3) := by decide +kernel
theorem dX7_join_41 : decode cX7_join 41 = .ok (.bipush (-2), 2) := by decide +kernel
theorem dX7_join_43 : decode cX7_join 43 = .ok (.ireturn, 1) := by decide +kernel
theorem dX7_join_44 : decode cX7_join 44 = .ok (.iconst 0, 1) := by decide +kernel
theorem dX7_join_45 : decode cX7_join 45 = .ok (.istore 5, 2) := by decide +kernel
theorem dX7_join_47 : decode cX7_join 47 = .ok (.iload 5, 2) := by decide +kernel
theorem dX7_join_49 : decode cX7_join 49 = .ok (.aload_n 0, 1) := by decide +kernel
theorem dX7_join_50 : decode cX7_join 50 = .ok (.getfield 42, 3) := by decide +kernel
theorem dX7_join_53 : decode cX7_join 53 = .ok (.arraylength, 1) := by decide +kernel
theorem dX7_join_54 : decode cX7_join 54 = .ok (.if_icmp .ge 26, 3) := by decide +kernel
theorem dX7_join_57 : decode cX7_join 57 = .ok (.iload 5, 2) := by decide +kernel
theorem dX7_join_59 : decode cX7_join 59 = .ok (.iload_n 2, 1) := by decide +kernel
theorem dX7_join_60 : decode cX7_join 60 = .ok (.if_icmp .eq 14, 3) := by decide +kernel
theorem dX7_join_63 : decode cX7_join 63 = .ok (.aload_n 0, 1) := by decide +kernel
theorem dX7_join_64 : decode cX7_join 64 = .ok (.getfield 42, 3) := by decide +kernel
theorem dX7_join_67 : decode cX7_join 67 = .ok (.iload 5, 2) := by decide +kernel
theorem dX7_join_69 : decode cX7_join 69 = .ok (.aaload, 1) := by decide +kernel
theorem dX7_join_70 : decode cX7_join 70 = .ok (.iload_n 1, 1) := by decide +kernel
theorem dX7_join_71 : decode cX7_join 71 = .ok (.invokevirtual 148, 3) := by decide +kernel
theorem dX7_join_74 : decode cX7_join 74 = .ok (.iinc 5 1, 3) := by decide +kernel
theorem dX7_join_77 : decode cX7_join 77 = .ok (.goto (-30), 3) := by decide +kernel
theorem dX7_join_80 : decode cX7_join 80 = .ok (.aload 4, 2) := by decide +kernel
theorem dX7_join_82 : decode cX7_join 82 = .ok (.iload_n 1, 1) := by decide +kernel
theorem dX7_join_83 : decode cX7_join 83 = .ok (.invokevirtual 151, 3) := by decide +kernel
theorem dX7_join_86 : decode cX7_join 86 = .ok (.aload_n 3, 1) := by decide +kernel
theorem dX7_join_87 : decode cX7_join 87 = .ok (.getfield 142, 3) := by decide +kernel
theorem dX7_join_90 : decode cX7_join 90 = .ok (.istore 5, 2) := by decide +kernel
theorem dX7_join_92 : decode cX7_join 92 = .ok (.aload_n 3, 1) := by decide +kernel
theorem dX7_join_93 : decode cX7_join 93 = .ok (.iload_n 2, 1) := by decide +kernel
theorem dX7_join_94 : decode cX7_join 94 = .ok (.invokevirtual 154, 3) := by decide +kernel
theorem dX7_join_97 : decode cX7_join 97 = .ok (.iload 5, 2) := by decide +kernel
theorem dX7_join_99 : decode cX7_join 99 = .ok (.ireturn, 1) := by decide +kernel
theorem dX7_drop_0 : decode cX7_drop 0 = .ok (.aload_n 0, 1) := by decide +kernel
theorem dX7_drop_1 : decode cX7_drop 1 = .ok (.iload_n 1, 1) := by decide +kernel
theorem dX7_drop_2 : decode cX7_drop 2 = .ok (.invokevirtual 138, 3) := by decide +kernel
theorem dX7_drop_5 : decode cX7_drop 5 = .ok (.ifnonnull 5, 3) := by decide +kernel
theorem dX7_drop_8 : decode cX7_drop 8 = .ok (.iconst (-1), 1) := by decide +kernel
theorem dX7_drop_9 : decode cX7_drop 9 = .ok (.ireturn, 1) := by decide +kernel
theorem dX7_drop_10 : decode cX7_drop 10 = .ok (.iconst 0, 1) := by decide +kernel
theorem dX7_drop_11 : decode cX7_drop 11 = .ok (.istore_n 2, 1) := by decide +kernel
theorem dX7_drop_12 : decode cX7_drop 12 = .ok (.iconst 0, 1) := by decide +kernel
theorem dX7_drop_13 : decode cX7_drop 13 = .ok (.istore_n 3, 1) := by decide +kernel
theorem dX7_drop_14 : decode cX7_drop 14 = .ok (.iload_n 3, 1) := by decide +kernel
theorem dX7_drop_15 : decode cX7_drop 15 = .ok (.aload_n 0, 1) := by decide +kernel
theorem dX7_drop_16 : decode cX7_drop 16 = .ok (.getfield 42, 3) := by decide +kernel
theorem dX7_drop_19 : decode cX7_drop 19 = .ok (.arraylength, 1) := by decide +kernel
theorem dX7_drop_20 : decode cX7_drop 20 = .ok (.if_icmp .ge 35, 3) := by decide +kernel
theorem dX7_drop_23 : decode cX7_drop 23 = .ok (.aload_n 0, 1) := by decide +kernel
theorem dX7_drop_24 : decode cX7_drop 24 = .ok (.getfield 42, 3) := by decide +kernel
theorem dX7_drop_27 : decode cX7_drop 27 = .ok (.iload_n 3, 1) := by decide +kernel
theorem dX7_drop_28 : decode cX7_drop 28 = .ok (.aaload, 1) := by decide +kernel
theorem dX7_drop_29 : decode cX7_drop 29 = .ok (.iload_n 1, 1) := by decide +kernel
theorem dX7_drop_30 : decode cX7_drop 30 = .ok (.invokevirtual 145, 3) := by decide +kernel
theorem dX7_drop_33 : decode cX7_drop 33 = .ok (.ifCond .eq 6, 3) := by decide +kernel
theorem dX7_drop_36 : decode cX7_drop 36 = .ok (.iinc 2 1, 3) := by decide +kernel
theorem dX7_drop_39 : decode cX7_drop 39 = .ok (.aload_n 0, 1) := by decide +kernel
theorem dX7_drop_40 : decode cX7_drop 40 = .ok (.getfield 42, 3) := by decide +kernel
theorem dX7_drop_43 : decode cX7_drop 43 = .ok (.iload_n 3, 1) := by decide +kernel
theorem dX7_drop_44 : decode cX7_drop 44 = .ok (.aaload, 1) := by decide +kernel
theorem dX7_drop_45 : decode cX7_drop 45 = .ok (.iload_n 1, 1) := by decide +kernel
theorem dX7_drop_46 : decode cX7_drop 46 = .ok (.invokevirtual 148, 3) := by decide +kernel
theorem dX7_drop_49 : decode cX7_drop 49 = .ok (.iinc 3 1, 3) := by decide +kernel
theorem dX7_drop_52 : decode cX7_drop 52 = .ok (.goto (-38), 3) := by decide +kernel
theorem dX7_drop_55 : decode cX7_drop 55 = .ok (.iload_n 2, 1) := by decide +kernel
theorem dX7_drop_56 : decode cX7_drop 56 = .ok (.ireturn, 1) := by decide +kernel
theorem dX7_load_0 : decode cX7_load 0 = .ok (.aload_n 0, 1) := by decide +kernel
theorem dX7_load_1 : decode cX7_load 1 = .ok (.iload_n 1, 1) := by decide +kernel
theorem dX7_load_2 : decode cX7_load 2 = .ok (.invokevirtual 138, 3) := by decide +kernel
theorem dX7_load_5 : decode cX7_load 5 = .ok (.astore 4, 2) := by decide +kernel
theorem dX7_load_7 : decode cX7_load 7 = .ok (.aload 4, 2) := by decide +kernel
theorem dX7_load_9 : decode cX7_load 9 = .ok (.ifnull 22, 3) := by decide +kernel
theorem dX7_load_12 : decode cX7_load 12 = .ok (.iload_n 2, 1) := by decide +kernel
theorem dX7_load_13 : decode cX7_load 13 = .ok (.ifCond .lt 18, 3) := by decide +kernel
theorem dX7_load_16 : decode cX7_load 16 = .ok (.iload_n 2, 1) := by decide +kernel
theorem dX7_load_17 : decode cX7_load 17 = .ok (.iconst 1, 1) := by decide +kernel
theorem dX7_load_18 : decode cX7_load 18 = .ok (.if_icmp .gt 13, 3) := by decide +kernel
theorem dX7_load_21 : decode cX7_load 21 = .ok (.iload_n 3, 1) := by decide +kernel
theorem dX7_load_22 : decode cX7_load 22 = .ok (.ifCond .lt 9, 3) := by decide +kernel
theorem dX7_load_25 : decode cX7_load 25 = .ok (.iload_n 3, 1) := by decide +kernel
theorem dX7_load_26 : decode cX7_load 26 = .ok (.bipush 99, 2) := by decide +kernel
theorem dX7_load_28 : decode cX7_load 28 = .ok (.if_icmp .le 5, 3) := by decide +kernel
theorem dX7_load_31 : decode cX7_load 31 = .ok (.iconst (-1), 1) := by decide +kernel
theorem dX7_load_32 : decode cX7_load 32 = .ok (.ireturn, 1) := by decide +kernel
theorem dX7_load_33 : decode cX7_load 33 = .ok (.iload_n 3, 1) := by decide +kernel
theorem dX7_load_34 : decode cX7_load 34 = .ok (.iload_n 2, 1) := by decide +kernel
theorem dX7_load_35 : decode cX7_load 35 = .ok (.ifCond .ne 11, 3) := by decide +kernel
theorem dX7_load_38 : decode cX7_load 38 = .ok (.aload 4, 2) := by decide +kernel
theorem dX7_load_40 : decode cX7_load 40 = .ok (.getfield 157, 3) := by decide +kernel
theorem dX7_load_43 : decode cX7_load 43 = .ok (.goto 8, 3) := by decide +kernel
theorem dX7_load_46 : decode cX7_load 46 = .ok (.aload 4, 2) := by decide +kernel
theorem dX7_load_48 : decode cX7_load 48 = .ok (.getfield 160, 3) := by decide +kernel
theorem dX7_load_51 : decode cX7_load 51 = .ok (.iadd, 1) := by decide +kernel
theorem dX7_load_52 : decode cX7_load 52 = .ok (.istore 5, 2) := by decide +kernel
theorem dX7_load_54 : decode cX7_load 54 = .ok (.iload 5, 2) := by decide +kernel
theorem dX7_load_56 : decode cX7_load 56 = .ok (.bipush 99, 2) := by decide +kernel
theorem dX7_load_58 : decode cX7_load 58 = .ok (.if_icmp .le 6, 3) := by decide +kernel
theorem dX7_load_61 : decode cX7_load 61 = .ok (.bipush (-3), 2) := by decide +kernel
theorem dX7_load_63 : decode cX7_load 63 = .ok (.ireturn, 1) := by decide +kernel
theorem dX7_load_64 : decode cX7_load 64 = .ok (.iload_n 2, 1) := by decide +kernel
theorem dX7_load_65 : decode cX7_load 65 = .ok (.ifCond .ne 13, 3) := by decide +kernel
theorem dX7_load_68 : decode cX7_load 68 = .ok (.aload 4, 2) := by decide +kernel
theorem dX7_load_70 : decode cX7_load 70 = .ok (.iload 5, 2) := by decide +kernel
theorem dX7_load_72 : decode cX7_load 72 = .ok (.putfield 157, 3) := by decide +kernel
theorem dX7_load_75 : decode cX7_load 75 = .ok (.goto 10, 3) := by decide +kernel
theorem dX7_load_78 : decode cX7_load 78 = .ok (.aload 4, 2) := by decide +kernel
theorem dX7_load_80 : decode cX7_load 80 = .ok (.iload 5, 2) := by decide +kernel
theorem dX7_load_82 : decode cX7_load 82 = .ok (.putfield 160, 3) := by decide +kernel
theorem dX7_load_85 : decode cX7_load 85 = .ok (.iload 5, 2) := by decide +kernel
theorem dX7_load_87 : decode cX7_load 87 = .ok (.ireturn, 1) := by decide +kernel
theorem dX7_deafen_0 : decode cX7_deafen 0 = .ok (.aload_n 0, 1) := by decide +kernel
theorem dX7_deafen_1 : decode cX7_deafen 1 = .ok (.iload_n 1, 1) := by decide +kernel
theorem dX7_deafen_2 : decode cX7_deafen 2 = .ok (.invokevirtual 138, 3) := by decide +kernel
theorem dX7_deafen_5 : decode cX7_deafen 5 = .ok (.astore_n 3, 1) := by decide +kernel
theorem dX7_deafen_6 : decode cX7_deafen 6 = .ok (.aload_n 3, 1) := by decide +kernel
theorem dX7_deafen_7 : decode cX7_deafen 7 = .ok (.ifnull 13, 3) := by decide +kernel
theorem dX7_deafen_10 : decode cX7_deafen 10 = .ok (.iload_n 2, 1) := by decide +kernel
theorem dX7_deafen_11 : decode cX7_deafen 11 = .ok (.ifCond .lt 9, 3) := by decide +kernel
theorem dX7_deafen_14 : decode cX7_deafen 14 = .ok (.iload_n 2, 1) := by decide +kernel
theorem dX7_deafen_15 : decode cX7_deafen 15 = .ok (.bipush 9, 2) := by decide +kernel
theorem dX7_deafen_17 : decode cX7_deafen 17 = .ok (.if_icmp .le 5, 3) := by decide +kernel
theorem dX7_deafen_20 : decode cX7_deafen 20 = .ok (.iconst (-1), 1) := by decide +kernel
theorem dX7_deafen_21 : decode cX7_deafen 21 = .ok (.ireturn, 1) := by decide +kernel
theorem dX7_deafen_22 : decode cX7_deafen 22 = .ok (.aload_n 3, 1) := by decide +kernel
theorem dX7_deafen_23 : decode cX7_deafen 23 = .ok (.getfield 163, 3) := by decide +kernel
theorem dX7_deafen_26 : decode cX7_deafen 26 = .ok (.istore 4, 2) := by decide +kernel
theorem dX7_deafen_28 : decode cX7_deafen 28 = .ok (.aload_n 3, 1) := by decide +kernel
theorem dX7_deafen_29 : decode cX7_deafen 29 = .ok (.iload_n 2, 1) := by decide +kernel
theorem dX7_deafen_30 : decode cX7_deafen 30 = .ok (.putfield 163, 3) := by decide +kernel
theorem dX7_deafen_33 : decode cX7_deafen 33 = .ok (.iload 4, 2) := by decide +kernel
theorem dX7_deafen_35 : decode cX7_deafen 35 = .ok (.ireturn, 1) := by decide +kernel
theorem dX7_scan_0 : decode cX7_scan 0 = .ok (.aload_n 0, 1) := by decide +kernel
theorem dX7_scan_1 : decode cX7_scan 1 = .ok (.iload_n 1, 1) := by decide +kernel
theorem dX7_scan_2 : decode cX7_scan 2 = .ok (.invokevirtual 138, 3) := by decide +kernel
theorem dX7_scan_5 : decode cX7_scan 5 = .ok (.astore_n 2, 1) := by decide +kernel
theorem dX7_scan_6 : decode cX7_scan 6 = .ok (.aload_n 2, 1) := by decide +kernel
theorem dX7_scan_7 : decode cX7_scan 7 = .ok (.ifnonnull 5, 3) := by decide +kernel
theorem dX7_scan_10 : decode cX7_scan 10 = .ok (.iconst (-1), 1) := by decide +kernel
theorem dX7_scan_11 : decode cX7_scan 11 = .ok (.ireturn, 1) := by decide +kernel
theorem dX7_scan_12 : decode cX7_scan 12 = .ok (.aload_n 2, 1) := by decide +kernel
theorem dX7_scan_13 : decode cX7_scan 13 = .ok (.invokevirtual 166, 3) := by decide +kernel
theorem dX7_scan_16 : decode cX7_scan 16 = .ok (.ifCond .ne 6, 3) := by decide +kernel
theorem dX7_scan_19 : decode cX7_scan 19 = .ok (.bipush (-2), 2) := by decide +kernel
theorem dX7_scan_21 : decode cX7_scan 21 = .ok (.ireturn, 1) := by decide +kernel
theorem dX7_scan_22 : decode cX7_scan 22 = .ok (.iconst 0, 1) := by decide +kernel
theorem dX7_scan_23 : decode cX7_scan 23 = .ok (.istore_n 3, 1) := by decide +kernel
theorem dX7_scan_24 : decode cX7_scan 24 = .ok (.iload_n 3, 1) := by decide +kernel
theorem dX7_scan_25 : decode cX7_scan 25 = .ok (.aload_n 0, 1) := by decide +kernel
theorem dX7_scan_26 : decode cX7_scan 26 = .ok (.getfield 42, 3) := by decide +kernel
theorem dX7_scan_29 : decode cX7_scan 29 = .ok (.arraylength, 1) := by decide +kernel
theorem dX7_scan_30 : decode cX7_scan 30 = .ok (.if_icmp .ge 29, 3) := by decide +kernel
theorem dX7_scan_33 : decode cX7_scan 33 = .ok (.aload_n 0, 1) := by decide +kernel
theorem dX7_scan_34 : decode cX7_scan 34 = .ok (.getfield 42, 3) := by decide +kernel
theorem dX7_scan_37 : decode cX7_scan 37 = .ok (.iload_n 3, 1) := by decide +kernel
theorem dX7_scan_38 : decode cX7_scan 38 = .ok (.aaload, 1) := by decide +kernel
theorem dX7_scan_39 : decode cX7_scan 39 = .ok (.iload_n 1, 1) := by decide +kernel
theorem dX7_scan_40 : decode cX7_scan 40 = .ok (.invokevirtual 145, 3) := by decide +kernel
theorem dX7_scan_43 : decode cX7_scan 43 = .ok (.ifCond .eq 10, 3) := by decide +kernel
theorem dX7_scan_46 : decode cX7_scan 46 = .ok (.aload_n 2, 1) := by decide +kernel
theorem dX7_scan_47 : decode cX7_scan 47 = .ok (.iload_n 3, 1) := by decide +kernel
theorem dX7_scan_48 : decode cX7_scan 48 = .ok (.invokevirtual 154, 3) := by decide +kernel
theorem dX7_scan_51 : decode cX7_scan 51 = .ok (.iload_n 3, 1) := by decide +kernel
theorem dX7_scan_52 : decode cX7_scan 52 = .ok (.ireturn, 1) := by decide +kernel
theorem dX7_scan_53 : decode cX7_scan 53 = .ok (.iinc 3 1, 3) := by decide +kernel
theorem dX7_scan_56 : decode cX7_scan 56 = .ok (.goto (-32), 3) := by decide +kernel
theorem dX7_scan_59 : decode cX7_scan 59 = .ok (.bipush (-4), 2) := by decide +kernel
theorem dX7_scan_61 : decode cX7_scan 61 = .ok (.ireturn, 1) := by decide +kernel
theorem dX7_promiserOf_0 : decode cX7_promiserOf 0 = .ok (.iconst 0, 1) := by decide +kernel
theorem dX7_promiserOf_1 : decode cX7_promiserOf 1 = .ok (.istore_n 2, 1) := by decide +kernel
theorem dX7_promiserOf_2 : decode cX7_promiserOf 2 = .ok (.iload_n 2, 1) := by decide +kernel
theorem dX7_promiserOf_3 : decode cX7_promiserOf 3 = .ok (.aload_n 0, 1) := by decide +kernel
theorem dX7_promiserOf_4 : decode cX7_promiserOf 4 = .ok (.getfield 42, 3) := by decide +kernel
theorem dX7_promiserOf_7 : decode cX7_promiserOf 7 = .ok (.arraylength, 1) := by decide +kernel
theorem dX7_promiserOf_8 : decode cX7_promiserOf 8 = .ok (.if_icmp .ge 34, 3) := by decide +kernel
theorem dX7_promiserOf_11 : decode cX7_promiserOf 11 = .ok (.aload_n 0, 1) := by decide +kernel
theorem dX7_promiserOf_12 : decode cX7_promiserOf 12 = .ok (.getfield 42, 3) := by decide +kernel
theorem dX7_promiserOf_15 : decode cX7_promiserOf 15 = .ok (.iload_n 2, 1) := by decide +kernel
theorem dX7_promiserOf_16 : decode cX7_promiserOf 16 = .ok (.aaload, 1) := by decide +kernel
theorem dX7_promiserOf_17 : decode cX7_promiserOf 17 = .ok (.getfield 173, 3) := by decide +kernel
theorem dX7_promiserOf_20 : decode cX7_promiserOf 20 = .ok (.iload_n 1, 1) := by decide +kernel
theorem dX7_promiserOf_21 : decode cX7_promiserOf 21 = .ok (.invokevirtual 254, 3) := by decide +kernel
theorem dX7_promiserOf_24 : decode cX7_promiserOf 24 = .ok (.bipush (-4), 2) := by decide +kernel
theorem dX7_promiserOf_26 : decode cX7_promiserOf 26 = .ok (.if_icmp .eq 10, 3) := by decide +kernel
theorem dX7_promiserOf_29 : decode cX7_promiserOf 29 = .ok (.aload_n 0, 1) := by decide +kernel
theorem dX7_promiserOf_30 : decode cX7_promiserOf 30 = .ok (.getfield 42, 3) := by decide +kernel
theorem dX7_promiserOf_33 : decode cX7_promiserOf 33 = .ok (.iload_n 2, 1) := by decide +kernel
theorem dX7_promiserOf_34 : decode cX7_promiserOf 34 = .ok (.aaload, 1) := by decide +kernel
theorem dX7_promiserOf_35 : decode cX7_promiserOf 35 = .ok (.areturn, 1) := by decide +kernel
theorem dX7_promiserOf_36 : decode cX7_promiserOf 36 = .ok (.iinc 2 1, 3) := by decide +kernel
theorem dX7_promiserOf_39 : decode cX7_promiserOf 39 = .ok (.goto (-37), 3) := by decide +kernel
theorem dX7_promiserOf_42 : decode cX7_promiserOf 42 = .ok (.aconst_null, 1) := by decide +kernel
theorem dX7_promiserOf_43 : decode cX7_promiserOf 43 = .ok (.areturn, 1) := by decide +kernel
theorem dX7_ask_0 : decode cX7_ask 0 = .ok (.aload_n 0, 1) := by decide +kernel
theorem dX7_ask_1 : decode cX7_ask 1 = .ok (.getfield 27, 3) := by decide +kernel
theorem dX7_ask_4 : decode cX7_ask 4 = .ok (.invokevirtual 86, 3) := by decide +kernel
theorem dX7_ask_7 : decode cX7_ask 7 = .ok (.aload_n 0, 1) := by decide +kernel
theorem dX7_ask_8 : decode cX7_ask 8 = .ok (.iload_n 1, 1) := by decide +kernel
theorem dX7_ask_9 : decode cX7_ask 9 = .ok (.invokevirtual 138, 3) := by decide +kernel
theorem dX7_ask_12 : decode cX7_ask 12 = .ok (.astore_n 3, 1) := by decide +kernel
theorem dX7_ask_13 : decode cX7_ask 13 = .ok (.aload_n 3, 1) := by decide +kernel
theorem dX7_ask_14 : decode cX7_ask 14 = .ok (.ifnull 14, 3) := by decide +kernel
theorem dX7_ask_17 : decode cX7_ask 17 = .ok (.iload_n 2, 1) := by decide +kernel
theorem dX7_ask_18 : decode cX7_ask 18 = .ok (.iconst 1, 1) := by decide +kernel
theorem dX7_ask_19 : decode cX7_ask 19 = .ok (.if_icmp .lt 9, 3) := by decide +kernel
theorem dX7_ask_22 : decode cX7_ask 22 = .ok (.iload_n 2, 1) := by decide +kernel
theorem dX7_ask_23 : decode cX7_ask 23 = .ok (.bipush 16, 2) := by decide +kernel
theorem dX7_ask_25 : decode cX7_ask 25 = .ok (.if_icmp .lt 15, 3) := by decide +kernel
theorem dX7_ask_28 : decode cX7_ask 28 = .ok (.aload_n 0, 1) := by decide +kernel
theorem dX7_ask_29 : decode cX7_ask 29 = .ok (.getfield 27, 3) := by decide +kernel
theorem dX7_ask_32 : decode cX7_ask 32 = .ok (.bipush 18, 2) := by decide +kernel
theorem dX7_ask_34 : decode cX7_ask 34 = .ok (.invokevirtual 75, 3) := by decide +kernel
theorem dX7_ask_37 : decode cX7_ask 37 = .ok (.pop, 1) := by decide +kernel
theorem dX7_ask_38 : decode cX7_ask 38 = .ok (.iconst (-1), 1) := by decide +kernel
theorem dX7_ask_39 : decode cX7_ask 39 = .ok (.ireturn, 1) := by decide +kernel
theorem dX7_ask_40 : decode cX7_ask 40 = .ok (.aload_n 0, 1) := by decide +kernel
theorem dX7_ask_41 : decode cX7_ask 41 = .ok (.aload_n 3, 1) := by decide +kernel
theorem dX7_ask_42 : decode cX7_ask 42 = .ok (.getfield 142, 3) := by decide +kernel
theorem dX7_ask_45 : decode cX7_ask 45 = .ok (.invokevirtual 103, 3) := by decide +kernel
theorem dX7_ask_48 : decode cX7_ask 48 = .ok (.astore 4, 2) := by decide +kernel
theorem dX7_ask_50 : decode cX7_ask 50 = .ok (.aload 4, 2) := by decide +kernel
theorem dX7_ask_52 : decode cX7_ask 52 = .ok (.ifnull 20, 3) := by decide +kernel
theorem dX7_ask_55 : decode cX7_ask 55 = .ok (.aload 4, 2) := by decide +kernel
theorem dX7_ask_57 : decode cX7_ask 57 = .ok (.iload_n 1, 1) := by decide +kernel
theorem dX7_ask_58 : decode cX7_ask 58 = .ok (.invokevirtual 145, 3) := by decide +kernel
theorem dX7_ask_61 : decode cX7_ask 61 = .ok (.ifCond .eq 11, 3) := by decide +kernel
theorem dX7_ask_64 : decode cX7_ask 64 = .ok (.aload_n 0, 1) := by decide +kernel
theorem dX7_ask_65 : decode cX7_ask 65 = .ok (.iload_n 1, 1) := by decide +kernel
theorem dX7_ask_66 : decode cX7_ask 66 = .ok (.invokevirtual 170, 3) := by decide +kernel
theorem dX7_ask_69 : decode cX7_ask 69 = .ok (.ifnull 16, 3) := by decide +kernel
theorem dX7_ask_72 : decode cX7_ask 72 = .ok (.aload_n 0, 1) := by decide +kernel
theorem dX7_ask_73 : decode cX7_ask 73 = .ok (.getfield 27, 3) := by decide +kernel
theorem dX7_ask_76 : decode cX7_ask 76 = .ok (.bipush 15, 2) := by decide +kernel
theorem dX7_ask_78 : decode cX7_ask 78 = .ok (.invokevirtual 75, 3) := by decide +kernel
theorem dX7_ask_81 : decode cX7_ask 81 = .ok (.pop, 1) := by decide +kernel
theorem dX7_ask_82 : decode cX7_ask 82 = .ok (.bipush (-2), 2) := by decide +kernel
theorem dX7_ask_84 : decode cX7_ask 84 = .ok (.ireturn, 1) := by decide +kernel
theorem dX7_ask_85 : decode cX7_ask 85 = .ok (.aload 4, 2) := by decide +kernel
theorem dX7_ask_87 : decode cX7_ask 87 = .ok (.getfield 173, 3) := by decide +kernel
theorem dX7_ask_90 : decode cX7_ask 90 = .ok (.getfield 177, 3) := by decide +kernel
theorem dX7_ask_93 : decode cX7_ask 93 = .ok (.bipush 7, 2) := by decide +kernel
theorem dX7_ask_95 : decode cX7_ask 95 = .ok (.if_icmp .lt 16, 3) := by decide +kernel
theorem dX7_ask_98 : decode cX7_ask 98 = .ok (.aload_n 0, 1) := by decide +kernel
theorem dX7_ask_99 : decode cX7_ask 99 = .ok (.getfield 27, 3) := by decide +kernel
theorem dX7_ask_102 : decode cX7_ask 102 = .ok (.bipush 16, 2) := by decide +kernel
theorem dX7_ask_104 : decode cX7_ask 104 = .ok (.invokevirtual 75, 3) := by decide +kernel
theorem dX7_ask_107 : decode cX7_ask 107 = .ok (.pop, 1) := by decide +kernel
theorem dX7_ask_108 : decode cX7_ask 108 = .ok (.bipush (-3), 2) := by decide +kernel
theorem dX7_ask_110 : decode cX7_ask 110 = .ok (.ireturn, 1) := by decide +kernel
theorem dX7_ask_111 : decode cX7_ask 111 = .ok (.aload 4, 2) := by decide +kernel
theorem dX7_ask_113 : decode cX7_ask 113 = .ok (.getfield 173, 3) := by decide +kernel
theorem dX7_ask_116 : decode cX7_ask 116 = .ok (.invokevirtual 180, 3) := by decide +kernel
theorem dX7_ask_119 : decode cX7_ask 119 = .ok (.iload_n 2, 1) := by decide +kernel
theorem dX7_ask_120 : decode cX7_ask 120 = .ok (.isub, 1) := by decide +kernel
theorem dX7_ask_121 : decode cX7_ask 121 = .ok (.istore 5, 2) := by decide +kernel
theorem dX7_ask_123 : decode cX7_ask 123 = .ok (.iload 5, 2) := by decide +kernel
theorem dX7_ask_125 : decode cX7_ask 125 = .ok (.aload_n 0, 1) := by decide +kernel
theorem dX7_ask_126 : decode cX7_ask 126 = .ok (.getfield 33, 3) := by decide +kernel
theorem dX7_ask_129 : decode cX7_ask 129 = .ok (.getfield 183, 3) := by decide +kernel
theorem dX7_ask_132 : decode cX7_ask 132 = .ok (.if_icmp .ge 33, 3) := by decide +kernel
theorem dX7_ask_135 : decode cX7_ask 135 = .ok (.aload_n 0, 1) := by decide +kernel
theorem dX7_ask_136 : decode cX7_ask 136 = .ok (.getfield 27, 3) := by decide +kernel
theorem dX7_ask_139 : decode cX7_ask 139 = .ok (.bipush 17, 2) := by decide +kernel
theorem dX7_ask_141 : decode cX7_ask 141 = .ok (.invokevirtual 75, 3) := by decide +kernel
theorem dX7_ask_144 : decode cX7_ask 144 = .ok (.pop, 1) := by decide +kernel
theorem dX7_ask_145 : decode cX7_ask 145 = .ok (.aload_n 0, 1) := by decide +kernel
theorem dX7_ask_146 : decode cX7_ask 146 = .ok (.getfield 27, 3) := by decide +kernel
theorem dX7_ask_149 : decode cX7_ask 149 = .ok (.bipush 30, 2) := by decide +kernel
theorem dX7_ask_151 : decode cX7_ask 151 = .ok (.iconst 0, 1) := by decide +kernel
theorem dX7_ask_152 : decode cX7_ask 152 = .ok (.iload 5, 2) := by decide +kernel
theorem dX7_ask_154 : decode cX7_ask 154 = .ok (.invokestatic 186, 3) := by decide +kernel
theorem dX7_ask_157 : decode cX7_ask 157 = .ok (.iadd, 1) := by decide +kernel
theorem dX7_ask_158 : decode cX7_ask 158 = .ok (.invokevirtual 75, 3) := by decide +kernel
theorem dX7_ask_161 : decode cX7_ask 161 = .ok (.pop, 1) := by decide +kernel
theorem dX7_ask_162 : decode cX7_ask 162 = .ok (.bipush (-3), 2) := by decide +kernel
theorem dX7_ask_164 : decode cX7_ask 164 = .ok (.ireturn, 1) := by decide +kernel
theorem dX7_ask_165 : decode cX7_ask 165 = .ok (.aload 4, 2) := by decide +kernel
theorem dX7_ask_167 : decode cX7_ask 167 = .ok (.getfield 173, 3) := by decide +kernel
theorem dX7_ask_170 : decode cX7_ask 170 = .ok (.iload_n 1, 1) := by decide +kernel
theorem dX7_ask_171 : decode cX7_ask 171 = .ok (.iload_n 2, 1) := by decide +kernel
theorem dX7_ask_172 : decode cX7_ask 172 = .ok (.invokevirtual 191, 3) := by decide +kernel
theorem dX7_ask_175 : decode cX7_ask 175 = .ok (.iload 5, 2) := by decide +kernel
theorem dX7_ask_177 : decode cX7_ask 177 = .ok (.ireturn, 1) := by decide +kernel
theorem dX7_release_0 : decode cX7_release 0 = .ok (.aload_n 0, 1) := by decide +kernel
theorem dX7_release_1 : decode cX7_release 1 = .ok (.iload_n 1, 1) := by decide +kernel
theorem dX7_release_2 : decode cX7_release 2 = .ok (.invokevirtual 138, 3) := by decide +kernel
theorem dX7_release_5 : decode cX7_release 5 = .ok (.ifnonnull 5, 3) := by decide +kernel
theorem dX7_release_8 : decode cX7_release 8 = .ok (.iconst (-1), 1) := by decide +kernel
theorem dX7_release_9 : decode cX7_release 9 = .ok (.ireturn, 1) := by decide +kernel
theorem dX7_release_10 : decode cX7_release 10 = .ok (.aload_n 0, 1) := by decide +kernel
theorem dX7_release_11 : decode cX7_release 11 = .ok (.iload_n 1, 1) := by decide +kernel
theorem dX7_release_12 : decode cX7_release 12 = .ok (.invokevirtual 170, 3) := by decide +kernel
theorem dX7_release_15 : decode cX7_release 15 = .ok (.astore_n 2, 1) := by decide +kernel
theorem dX7_release_16 : decode cX7_release 16 = .ok (.aload_n 2, 1) := by decide +kernel
theorem dX7_release_17 : decode cX7_release 17 = .ok (.ifnonnull 8, 3) := by decide +kernel
theorem dX7_release_20 : decode cX7_release 20 = .ok (.bipush (-2), 2) := by decide +kernel
theorem dX7_release_22 : decode cX7_release 22 = .ok (.goto 11, 3) := by decide +kernel
theorem dX7_release_25 : decode cX7_release 25 = .ok (.aload_n 2, 1) := by decide +kernel
theorem dX7_release_26 : decode cX7_release 26 = .ok (.getfield 173, 3) := by decide +kernel
theorem dX7_release_29 : decode cX7_release 29 = .ok (.iload_n 1, 1) := by decide +kernel
theorem dX7_release_30 : decode cX7_release 30 = .ok (.invokevirtual 194, 3) := by decide +kernel
theorem dX7_release_33 : decode cX7_release 33 = .ok (.ireturn, 1) := by decide +kernel
theorem dX7_promise_0 : decode cX7_promise 0 = .ok (.aload_n 0, 1) := by decide +kernel
theorem dX7_promise_1 : decode cX7_promise 1 = .ok (.iload_n 1, 1) := by decide +kernel
theorem dX7_promise_2 : decode cX7_promise 2 = .ok (.invokevirtual 103, 3) := by decide +kernel
theorem dX7_promise_5 : decode cX7_promise 5 = .ok (.astore 4, 2) := by decide +kernel
theorem dX7_promise_7 : decode cX7_promise 7 = .ok (.aload 4, 2) := by decide +kernel
theorem dX7_promise_9 : decode cX7_promise 9 = .ok (.ifnull 17, 3) := by decide +kernel
theorem dX7_promise_12 : decode cX7_promise 12 = .ok (.iload_n 2, 1) := by decide +kernel
theorem dX7_promise_13 : decode cX7_promise 13 = .ok (.iconst (-1), 1) := by decide +kernel
theorem dX7_promise_14 : decode cX7_promise 14 = .ok (.if_icmp .lt 12, 3) := by decide +kernel
theorem dX7_promise_17 : decode cX7_promise 17 = .ok (.iload_n 3, 1) := by decide +kernel
theorem dX7_promise_18 : decode cX7_promise 18 = .ok (.ifCond .lt 8, 3) := by decide +kernel
theorem dX7_promise_21 : decode cX7_promise 21 = .ok (.iload_n 3, 1) := by decide +kernel
theorem dX7_promise_22 : decode cX7_promise 22 = .ok (.iconst 3, 1) := by decide +kernel
theorem dX7_promise_23 : decode cX7_promise 23 = .ok (.if_icmp .le 5, 3) := by decide +kernel
theorem dX7_promise_26 : decode cX7_promise 26 = .ok (.iconst (-1), 1) := by decide +kernel
theorem dX7_promise_27 : decode cX7_promise 27 = .ok (.ireturn, 1) := by decide +kernel
theorem dX7_promise_28 : decode cX7_promise 28 = .ok (.iload_n 2, 1) := by decide +kernel
theorem dX7_promise_29 : decode cX7_promise 29 = .ok (.iconst (-1), 1) := by decide +kernel
theorem dX7_promise_30 : decode cX7_promise 30 = .ok (.if_icmp .ne 14, 3) := by decide +kernel
theorem dX7_promise_33 : decode cX7_promise 33 = .ok (.aload 4, 2) := by decide +kernel
theorem dX7_promise_35 : decode cX7_promise 35 = .ok (.getfield 173, 3) := by decide +kernel
theorem dX7_promise_38 : decode cX7_promise 38 = .ok (.getfield 177, 3) := by decide +kernel
theorem dX7_promise_41 : decode cX7_promise 41 = .ok (.goto 13, 3) := by decide +kernel
theorem dX7_promise_44 : decode cX7_promise 44 = .ok (.aload 4, 2) := by decide +kernel
theorem dX7_promise_46 : decode cX7_promise 46 = .ok (.getfield 173, 3) := by decide +kernel
theorem dX7_promise_49 : decode cX7_promise 49 = .ok (.iload_n 2, 1) := by decide +kernel
theorem dX7_promise_50 : decode cX7_promise 50 = .ok (.iload_n 3, 1) := by decide +kernel
theorem dX7_promise_51 : decode cX7_promise 51 = .ok (.invokevirtual 197, 3) := by decide +kernel
theorem dX7_promise_54 : decode cX7_promise 54 = .ok (.ireturn, 1) := by decide +kernel
theorem dX7_nextToBeacon_0 : decode cX7_nextToBeacon 0 = .ok (.iconst 0, 1) := by decide +kernel
theorem dX7_nextToBeacon_1 : decode cX7_nextToBeacon 1 = .ok (.istore_n 1, 1) := by decide +kernel
theorem dX7_nextToBeacon_2 : decode cX7_nextToBeacon 2 = .ok (.iconst 1, 1) := by decide +kernel
theorem dX7_nextToBeacon_3 : decode cX7_nextToBeacon 3 = .ok (.istore_n 2, 1) := by decide +kernel
theorem dX7_nextToBeacon_4 : decode cX7_nextToBeacon 4 = .ok (.iload_n 2, 1) := by decide +kernel
theorem dX7_nextToBeacon_5 : decode cX7_nextToBeacon 5 = .ok (.aload_n 0, 1) := by decide +kernel
theorem dX7_nextToBeacon_6 : decode cX7_nextToBeacon 6 = .ok (.getfield 33, 3) := by decide +kernel
theorem dX7_nextToBeacon_9 : decode cX7_nextToBeacon 9 = .ok (.getfield 110, 3) := by decide +kernel
theorem dX7_nextToBeacon_12 : decode cX7_nextToBeacon 12 = .ok (.if_icmp .ge 41, 3) := by decide +kernel
theorem dX7_nextToBeacon_15 : decode cX7_nextToBeacon 15 = .ok (.iload_n 2, 1) := by decide +kernel
theorem dX7_nextToBeacon_16 : decode cX7_nextToBeacon 16 = .ok (.aload_n 0, 1) := by decide +kernel
theorem dX7_nextToBeacon_17 : decode cX7_nextToBeacon 17 = .ok (.getfield 42, 3) := by decide +kernel
theorem dX7_nextToBeacon_20 : decode cX7_nextToBeacon 20 = .ok (.arraylength, 1) := by decide +kernel
theorem dX7_nextToBeacon_21 : decode cX7_nextToBeacon 21 = .ok (.if_icmp .ge 32, 3) := by decide +kernel
theorem dX7_nextToBeacon_24 : decode cX7_nextToBeacon 24 = .ok (.aload_n 0, 1) := by decide +kernel
theorem dX7_nextToBeacon_25 : decode cX7_nextToBeacon 25 = .ok (.getfield 42, 3) := by decide +kernel
theorem dX7_nextToBeacon_28 : decode cX7_nextToBeacon 28 = .ok (.iload_n 2, 1) := by decide +kernel
theorem dX7_nextToBeacon_29 : decode cX7_nextToBeacon 29 = .ok (.aaload, 1) := by decide +kernel
theorem dX7_nextToBeacon_30 : decode cX7_nextToBeacon 30 = .ok (.getfield 257, 3) := by decide +kernel
theorem dX7_nextToBeacon_33 : decode cX7_nextToBeacon 33 = .ok (.aload_n 0, 1) := by decide +kernel
theorem dX7_nextToBeacon_34 : decode cX7_nextToBeacon 34 = .ok (.getfield 42, 3) := by decide +kernel
theorem dX7_nextToBeacon_37 : decode cX7_nextToBeacon 37 = .ok (.iload_n 1, 1) := by decide +kernel
theorem dX7_nextToBeacon_38 : decode cX7_nextToBeacon 38 = .ok (.aaload, 1) := by decide +kernel
theorem dX7_nextToBeacon_39 : decode cX7_nextToBeacon 39 = .ok (.getfield 257, 3) := by decide +kernel
theorem dX7_nextToBeacon_42 : decode cX7_nextToBeacon 42 = .ok (.if_icmp .ge 5, 3) := by decide +kernel
theorem dX7_nextToBeacon_45 : decode cX7_nextToBeacon 45 = .ok (.iload_n 2, 1) := by decide +kernel
theorem dX7_nextToBeacon_46 : decode cX7_nextToBeacon 46 = .ok (.istore_n 1, 1) := by decide +kernel
theorem dX7_nextToBeacon_47 : decode cX7_nextToBeacon 47 = .ok (.iinc 2 1, 3) := by decide +kernel
theorem dX7_nextToBeacon_50 : decode cX7_nextToBeacon 50 = .ok (.goto (-46), 3) := by decide +kernel
theorem dX7_nextToBeacon_53 : decode cX7_nextToBeacon 53 = .ok (.iload_n 1, 1) := by decide +kernel
theorem dX7_nextToBeacon_54 : decode cX7_nextToBeacon 54 = .ok (.ireturn, 1) := by decide +kernel
theorem dJ7_fill_53178_0 : decode cJ7_fill_53178 0 = .ok (.iconst 0, 1) := by decide +kernel
theorem dJ7_fill_53178_1 : decode cJ7_fill_53178 1 = .ok (.istore_n 2, 1) := by decide +kernel
theorem dJ7_fill_53178_2 : decode cJ7_fill_53178 2 = .ok (.aload_n 0, 1) := by decide +kernel
theorem dJ7_fill_53178_3 : decode cJ7_fill_53178 3 = .ok (.arraylength, 1) := by decide +kernel
theorem dJ7_fill_53178_4 : decode cJ7_fill_53178 4 = .ok (.istore_n 3, 1) := by decide +kernel
theorem dJ7_fill_53178_5 : decode cJ7_fill_53178 5 = .ok (.iload_n 2, 1) := by decide +kernel
theorem dJ7_fill_53178_6 : decode cJ7_fill_53178 6 = .ok (.iload_n 3, 1) := by decide +kernel
theorem dJ7_fill_53178_7 : decode cJ7_fill_53178 7 = .ok (.if_icmp .ge 13, 3) := by decide +kernel
theorem dJ7_fill_53178_10 : decode cJ7_fill_53178 10 = .ok (.aload_n 0, 1) := by decide +kernel
theorem dJ7_fill_53178_11 : decode cJ7_fill_53178 11 = .ok (.iload_n 2, 1) := by decide +kernel
theorem dJ7_fill_53178_12 : decode cJ7_fill_53178 12 = .ok (.iload_n 1, 1) := by decide +kernel
theorem dJ7_fill_53178_13 : decode cJ7_fill_53178 13 = .ok (.iastore, 1) := by decide +kernel
theorem dJ7_fill_53178_14 : decode cJ7_fill_53178 14 = .ok (.iinc 2 1, 3) := by decide +kernel
theorem dJ7_fill_53178_17 : decode cJ7_fill_53178 17 = .ok (.goto (-12), 3) := by decide +kernel
theorem dJ7_fill_53178_20 : decode cJ7_fill_53178 20 = .ok (.return_, 1) := by decide +kernel
theorem dX7_hearBeacon_0 : decode cX7_hearBeacon 0 = .ok (.aload_n 0, 1) := by decide +kernel
theorem dX7_hearBeacon_1 : decode cX7_hearBeacon 1 = .ok (.getfield 49, 3) := by decide +kernel
theorem dX7_hearBeacon_4 : decode cX7_hearBeacon 4 = .ok (.astore_n 2, 1) := by decide +kernel
theorem dX7_hearBeacon_5 : decode cX7_hearBeacon 5 = .ok (.aload_n 2, 1) := by decide +kernel
theorem dX7_hearBeacon_6 : decode cX7_hearBeacon 6 = .ok (.arraylength, 1) := by decide +kernel
theorem dX7_hearBeacon_7 : decode cX7_hearBeacon 7 = .ok (.istore_n 3, 1) := by decide +kernel
theorem dX7_hearBeacon_8 : decode cX7_hearBeacon 8 = .ok (.iconst 0, 1) := by decide +kernel
theorem dX7_hearBeacon_9 : decode cX7_hearBeacon 9 = .ok (.istore 4, 2) := by decide +kernel
theorem dX7_hearBeacon_11 : decode cX7_hearBeacon 11 = .ok (.iload 4, 2) := by decide +kernel
theorem dX7_hearBeacon_13 : decode cX7_hearBeacon 13 = .ok (.iload_n 3, 1) := by decide +kernel
theorem dX7_hearBeacon_14 : decode cX7_hearBeacon 14 = .ok (.if_icmp .ge 42, 3) := by decide +kernel
theorem dX7_hearBeacon_17 : decode cX7_hearBeacon 17 = .ok (.aload_n 2, 1) := by decide +kernel
theorem dX7_hearBeacon_18 : decode cX7_hearBeacon 18 = .ok (.iload 4, 2) := by decide +kernel
theorem dX7_hearBeacon_20 : decode cX7_hearBeacon 20 = .ok (.aaload, 1) := by decide +kernel
theorem dX7_hearBeacon_21 : decode cX7_hearBeacon 21 = .ok (.astore 5, 2) := by decide +kernel
theorem dX7_hearBeacon_23 : decode cX7_hearBeacon 23 = .ok (.aload 5, 2) := by decide +kernel
theorem dX7_hearBeacon_25 : decode cX7_hearBeacon 25 = .ok (.aload 5, 2) := by decide +kernel
theorem dX7_hearBeacon_27 : decode cX7_hearBeacon 27 = .ok (.getfield 142, 3) := by decide +kernel
theorem dX7_hearBeacon_30 : decode cX7_hearBeacon 30 = .ok (.iload_n 1, 1) := by decide +kernel
theorem dX7_hearBeacon_31 : decode cX7_hearBeacon 31 = .ok (.if_icmp .ne 15, 3) := by decide +kernel
theorem dX7_hearBeacon_34 : decode cX7_hearBeacon 34 = .ok (.aload 5, 2) := by decide +kernel
theorem dX7_hearBeacon_36 : decode cX7_hearBeacon 36 = .ok (.invokevirtual 280, 3) := by decide +kernel
theorem dX7_hearBeacon_39 : decode cX7_hearBeacon 39 = .ok (.ifCond .eq 7, 3) := by decide +kernel
theorem dX7_hearBeacon_42 : decode cX7_hearBeacon 42 = .ok (.iconst 1, 1) := by decide +kernel
theorem dX7_hearBeacon_43 : decode cX7_hearBeacon 43 = .ok (.goto 4, 3) := by decide +kernel
theorem dX7_hearBeacon_46 : decode cX7_hearBeacon 46 = .ok (.iconst 0, 1) := by decide +kernel
theorem dX7_hearBeacon_47 : decode cX7_hearBeacon 47 = .ok (.putfield 283, 3) := by decide +kernel
theorem dX7_hearBeacon_50 : decode cX7_hearBeacon 50 = .ok (.iinc 4 1, 3) := by decide +kernel
theorem dX7_hearBeacon_53 : decode cX7_hearBeacon 53 = .ok (.goto (-42), 3) := by decide +kernel
theorem dX7_hearBeacon_56 : decode cX7_hearBeacon 56 = .ok (.return_, 1) := by decide +kernel
theorem dX7_keepPromises_0 : decode cX7_keepPromises 0 = .ok (.aload_n 1, 1) := by decide +kernel
theorem dX7_keepPromises_1 : decode cX7_keepPromises 1 = .ok (.getfield 173, 3) := by decide +kernel
theorem dX7_keepPromises_4 : decode cX7_keepPromises 4 = .ok (.astore_n 2, 1) := by decide +kernel
theorem dX7_keepPromises_5 : decode cX7_keepPromises 5 = .ok (.iconst 0, 1) := by decide +kernel
theorem dX7_keepPromises_6 : decode cX7_keepPromises 6 = .ok (.istore_n 3, 1) := by decide +kernel
theorem dX7_keepPromises_7 : decode cX7_keepPromises 7 = .ok (.iconst 0, 1) := by decide +kernel
theorem dX7_keepPromises_8 : decode cX7_keepPromises 8 = .ok (.istore 4, 2) := by decide +kernel
theorem dX7_keepPromises_10 : decode cX7_keepPromises 10 = .ok (.iload 4, 2) := by decide +kernel
theorem dX7_keepPromises_12 : decode cX7_keepPromises 12 = .ok (.aload_n 2, 1) := by decide +kernel
theorem dX7_keepPromises_13 : decode cX7_keepPromises 13 = .ok (.getfield 177, 3) := by decide +kernel
theorem dX7_keepPromises_16 : decode cX7_keepPromises 16 = .ok (.if_icmp .ge 101, 3) := by decide +kernel
theorem dX7_keepPromises_19 : decode cX7_keepPromises 19 = .ok (.aload_n 0, 1) := by decide +kernel
theorem dX7_keepPromises_20 : decode cX7_keepPromises 20 = .ok (.aload_n 2, 1) := by decide +kernel
theorem dX7_keepPromises_21 : decode cX7_keepPromises 21 = .ok (.iload 4, 2) := by decide +kernel
theorem dX7_keepPromises_23 : decode cX7_keepPromises 23 = .ok (.iconst 0, 1) := by decide +kernel
theorem dX7_keepPromises_24 : decode cX7_keepPromises 24 = .ok (.invokevirtual 197, 3) := by decide +kernel
theorem dX7_keepPromises_27 : decode cX7_keepPromises 27 = .ok (.invokevirtual 138, 3) := by decide +kernel
theorem dX7_keepPromises_30 : decode cX7_keepPromises 30 = .ok (.astore 5, 2) := by decide +kernel
theorem dX7_keepPromises_32 : decode cX7_keepPromises 32 = .ok (.aload_n 2, 1) := by decide +kernel
theorem dX7_keepPromises_33 : decode cX7_keepPromises 33 = .ok (.iload 4, 2) := by decide +kernel
theorem dX7_keepPromises_35 : decode cX7_keepPromises 35 = .ok (.iconst 1, 1) := by decide +kernel
theorem dX7_keepPromises_36 : decode cX7_keepPromises 36 = .ok (.invokevirtual 197, 3) := by decide +kernel
theorem dX7_keepPromises_39 : decode cX7_keepPromises 39 = .ok (.aload_n 0, 1) := by decide +kernel
theorem dX7_keepPromises_40 : decode cX7_keepPromises 40 = .ok (.getfield 33, 3) := by decide +kernel
theorem dX7_keepPromises_43 : decode cX7_keepPromises 43 = .ok (.getfield 220, 3) := by decide +kernel
theorem dX7_keepPromises_46 : decode cX7_keepPromises 46 = .ok (.imul, 1) := by decide +kernel
theorem dX7_keepPromises_47 : decode cX7_keepPromises 47 = .ok (.istore 6, 2) := by decide +kernel
theorem dX7_keepPromises_49 : decode cX7_keepPromises 49 = .ok (.aload_n 2, 1) := by decide +kernel
theorem dX7_keepPromises_50 : decode cX7_keepPromises 50 = .ok (.iload 4, 2) := by decide +kernel
theorem dX7_keepPromises_52 : decode cX7_keepPromises 52 = .ok (.iconst 2, 1) := by decide +kernel
theorem dX7_keepPromises_53 : decode cX7_keepPromises 53 = .ok (.invokevirtual 197, 3) := by decide +kernel
theorem dX7_keepPromises_56 : decode cX7_keepPromises 56 = .ok (.aload_n 0, 1) := by decide +kernel
theorem dX7_keepPromises_57 : decode cX7_keepPromises 57 = .ok (.getfield 33, 3) := by decide +kernel
theorem dX7_keepPromises_60 : decode cX7_keepPromises 60 = .ok (.getfield 220, 3) := by decide +kernel
theorem dX7_keepPromises_63 : decode cX7_keepPromises 63 = .ok (.imul, 1) := by decide +kernel
theorem dX7_keepPromises_64 : decode cX7_keepPromises 64 = .ok (.istore 7, 2) := by decide +kernel
theorem dX7_keepPromises_66 : decode cX7_keepPromises 66 = .ok (.aload 5, 2) := by decide +kernel
theorem dX7_keepPromises_68 : decode cX7_keepPromises 68 = .ok (.ifnonnull 7, 3) := by decide +kernel
theorem dX7_keepPromises_71 : decode cX7_keepPromises 71 = .ok (.iconst 0, 1) := by decide +kernel
theorem dX7_keepPromises_72 : decode cX7_keepPromises 72 = .ok (.goto 16, 3) := by decide +kernel
theorem dX7_keepPromises_75 : decode cX7_keepPromises 75 = .ok (.aload 5, 2) := by decide +kernel
theorem dX7_keepPromises_77 : decode cX7_keepPromises 77 = .ok (.aload_n 1, 1) := by decide +kernel
theorem dX7_keepPromises_78 : decode cX7_keepPromises 78 = .ok (.getfield 210, 3) := by decide +kernel
theorem dX7_keepPromises_81 : decode cX7_keepPromises 81 = .ok (.iload 6, 2) := by decide +kernel
theorem dX7_keepPromises_83 : decode cX7_keepPromises 83 = .ok (.iload 7, 2) := by decide +kernel
theorem dX7_keepPromises_85 : decode cX7_keepPromises 85 = .ok (.invokevirtual 287, 3) := by decide +kernel
theorem dX7_keepPromises_88 : decode cX7_keepPromises 88 = .ok (.istore 8, 2) := by decide +kernel
theorem dX7_keepPromises_90 : decode cX7_keepPromises 90 = .ok (.aload_n 2, 1) := by decide +kernel
theorem dX7_keepPromises_91 : decode cX7_keepPromises 91 = .ok (.iload 4, 2) := by decide +kernel
theorem dX7_keepPromises_93 : decode cX7_keepPromises 93 = .ok (.iload 8, 2) := by decide +kernel
theorem dX7_keepPromises_95 : decode cX7_keepPromises 95 = .ok (.ifCond .le 7, 3) := by decide +kernel
theorem dX7_keepPromises_98 : decode cX7_keepPromises 98 = .ok (.iconst 1, 1) := by decide +kernel
theorem dX7_keepPromises_99 : decode cX7_keepPromises 99 = .ok (.goto 4, 3) := by decide +kernel
theorem dX7_keepPromises_102 : decode cX7_keepPromises 102 = .ok (.iconst 0, 1) := by decide +kernel
theorem dX7_keepPromises_103 : decode cX7_keepPromises 103 = .ok (.invokevirtual 291, 3) := by decide +kernel
theorem dX7_keepPromises_106 : decode cX7_keepPromises 106 = .ok (.iload_n 3, 1) := by decide +kernel
theorem dX7_keepPromises_107 : decode cX7_keepPromises 107 = .ok (.iload 8, 2) := by decide +kernel
theorem dX7_keepPromises_109 : decode cX7_keepPromises 109 = .ok (.iadd, 1) := by decide +kernel
theorem dX7_keepPromises_110 : decode cX7_keepPromises 110 = .ok (.istore_n 3, 1) := by decide +kernel
theorem dX7_keepPromises_111 : decode cX7_keepPromises 111 = .ok (.iinc 4 1, 3) := by decide +kernel
theorem dX7_keepPromises_114 : decode cX7_keepPromises 114 = .ok (.goto (-104), 3) := by decide +kernel
theorem dX7_keepPromises_117 : decode cX7_keepPromises 117 = .ok (.iload_n 3, 1) := by decide +kernel
theorem dX7_keepPromises_118 : decode cX7_keepPromises 118 = .ok (.ireturn, 1) := by decide +kernel
theorem dX7_activePart_0 : decode cX7_activePart 0 = .ok (.aload_n 2, 1) := by decide +kernel
theorem dX7_activePart_1 : decode cX7_activePart 1 = .ok (.getfield 210, 3) := by decide +kernel
theorem dX7_activePart_4 : decode cX7_activePart 4 = .ok (.iconst 0, 1) := by decide +kernel
theorem dX7_activePart_5 : decode cX7_activePart 5 = .ok (.invokestatic 260, 3) := by decide +kernel
theorem dX7_activePart_8 : decode cX7_activePart 8 = .ok (.aload_n 2, 1) := by decide +kernel
theorem dX7_activePart_9 : decode cX7_activePart 9 = .ok (.getfield 210, 3) := by decide +kernel
theorem dX7_activePart_12 : decode cX7_activePart 12 = .ok (.iconst 0, 1) := by decide +kernel
theorem dX7_activePart_13 : decode cX7_activePart 13 = .ok (.iconst 1, 1) := by decide +kernel
theorem dX7_activePart_14 : decode cX7_activePart 14 = .ok (.iastore, 1) := by decide +kernel
theorem dX7_activePart_15 : decode cX7_activePart 15 = .ok (.aload_n 2, 1) := by decide +kernel
theorem dX7_activePart_16 : decode cX7_activePart 16 = .ok (.getfield 173, 3) := by decide +kernel
theorem dX7_activePart_19 : decode cX7_activePart 19 = .ok (.aload_n 0, 1) := by decide +kernel
theorem dX7_activePart_20 : decode cX7_activePart 20 = .ok (.getfield 33, 3) := by decide +kernel
theorem dX7_activePart_23 : decode cX7_activePart 23 = .ok (.getfield 223, 3) := by decide +kernel
theorem dX7_activePart_26 : decode cX7_activePart 26 = .ok (.invokevirtual 266, 3) := by decide +kernel
theorem dX7_activePart_29 : decode cX7_activePart 29 = .ok (.aload_n 0, 1) := by decide +kernel
theorem dX7_activePart_30 : decode cX7_activePart 30 = .ok (.iload_n 1, 1) := by decide +kernel
theorem dX7_activePart_31 : decode cX7_activePart 31 = .ok (.invokevirtual 269, 3) := by decide +kernel
theorem dX7_activePart_34 : decode cX7_activePart 34 = .ok (.aload_n 0, 1) := by decide +kernel
theorem dX7_activePart_35 : decode cX7_activePart 35 = .ok (.getfield 59, 3) := by decide +kernel
theorem dX7_activePart_38 : decode cX7_activePart 38 = .ok (.aload_n 2, 1) := by decide +kernel
theorem dX7_activePart_39 : decode cX7_activePart 39 = .ok (.getfield 210, 3) := by decide +kernel
theorem dX7_activePart_42 : decode cX7_activePart 42 = .ok (.aload_n 2, 1) := by decide +kernel
theorem dX7_activePart_43 : decode cX7_activePart 43 = .ok (.getfield 173, 3) := by decide +kernel
theorem dX7_activePart_46 : decode cX7_activePart 46 = .ok (.invokevirtual 180, 3) := by decide +kernel
theorem dX7_activePart_49 : decode cX7_activePart 49 = .ok (.aload_n 0, 1) := by decide +kernel
theorem dX7_activePart_50 : decode cX7_activePart 50 = .ok (.getfield 33, 3) := by decide +kernel
theorem dX7_activePart_53 : decode cX7_activePart 53 = .ok (.getfield 220, 3) := by decide +kernel
theorem dX7_activePart_56 : decode cX7_activePart 56 = .ok (.imul, 1) := by decide +kernel
theorem dX7_activePart_57 : decode cX7_activePart 57 = .ok (.invokevirtual 272, 3) := by decide +kernel
theorem dX7_activePart_60 : decode cX7_activePart 60 = .ok (.istore_n 3, 1) := by decide +kernel
theorem dX7_activePart_61 : decode cX7_activePart 61 = .ok (.iload_n 3, 1) := by decide +kernel
theorem dX7_activePart_62 : decode cX7_activePart 62 = .ok (.aload_n 0, 1) := by decide +kernel
theorem dX7_activePart_63 : decode cX7_activePart 63 = .ok (.aload_n 2, 1) := by decide +kernel
theorem dX7_activePart_64 : decode cX7_activePart 64 = .ok (.invokevirtual 276, 3) := by decide +kernel
theorem dX7_activePart_67 : decode cX7_activePart 67 = .ok (.iadd, 1) := by decide +kernel
theorem dX7_activePart_68 : decode cX7_activePart 68 = .ok (.istore_n 3, 1) := by decide +kernel
theorem dX7_activePart_69 : decode cX7_activePart 69 = .ok (.aload_n 0, 1) := by decide +kernel
theorem dX7_activePart_70 : decode cX7_activePart 70 = .ok (.aload_n 2, 1) := by decide +kernel
theorem dX7_activePart_71 : decode cX7_activePart 71 = .ok (.getfield 257, 3) := by decide +kernel
theorem dX7_activePart_74 : decode cX7_activePart 74 = .ok (.aload_n 0, 1) := by decide +kernel
theorem dX7_activePart_75 : decode cX7_activePart 75 = .ok (.getfield 33, 3) := by decide +kernel
theorem dX7_activePart_78 : decode cX7_activePart 78 = .ok (.getfield 207, 3) := by decide +kernel
theorem dX7_activePart_81 : decode cX7_activePart 81 = .ok (.iadd, 1) := by decide +kernel
theorem dX7_activePart_82 : decode cX7_activePart 82 = .ok (.putfield 124, 3) := by decide +kernel
theorem dX7_activePart_85 : decode cX7_activePart 85 = .ok (.aload_n 2, 1) := by decide +kernel
theorem dX7_activePart_86 : decode cX7_activePart 86 = .ok (.dup, 1) := by decide +kernel
theorem dX7_activePart_87 : decode cX7_activePart 87 = .ok (.getfield 257, 3) := by decide +kernel
theorem dX7_activePart_90 : decode cX7_activePart 90 = .ok (.aload_n 0, 1) := by decide +kernel
theorem dX7_activePart_91 : decode cX7_activePart 91 = .ok (.getfield 33, 3) := by decide +kernel
theorem dX7_activePart_94 : decode cX7_activePart 94 = .ok (.getfield 107, 3) := by decide +kernel
theorem dX7_activePart_97 : decode cX7_activePart 97 = .ok (.iadd, 1) := by decide +kernel
theorem dX7_activePart_98 : decode cX7_activePart 98 = .ok (.putfield 257, 3) := by decide +kernel
theorem dX7_activePart_101 : decode cX7_activePart 101 = .ok (.aload_n 2, 1) := by decide +kernel
theorem dX7_activePart_102 : decode cX7_activePart 102 = .ok (.dup, 1) := by decide +kernel
theorem dX7_activePart_103 : decode cX7_activePart 103 = .ok (.getfield 214, 3) := by decide +kernel
theorem dX7_activePart_106 : decode cX7_activePart 106 = .ok (.iconst 1, 1) := by decide +kernel
theorem dX7_activePart_107 : decode cX7_activePart 107 = .ok (.iadd, 1) := by decide +kernel
theorem dX7_activePart_108 : decode cX7_activePart 108 = .ok (.putfield 214, 3) := by decide +kernel
theorem dX7_activePart_111 : decode cX7_activePart 111 = .ok (.aload_n 0, 1) := by decide +kernel
theorem dX7_activePart_112 : decode cX7_activePart 112 = .ok (.dup, 1) := by decide +kernel
theorem dX7_activePart_113 : decode cX7_activePart 113 = .ok (.getfield 229, 3) := by decide +kernel
theorem dX7_activePart_116 : decode cX7_activePart 116 = .ok (.iconst 1, 1) := by decide +kernel
theorem dX7_activePart_117 : decode cX7_activePart 117 = .ok (.iadd, 1) := by decide +kernel
theorem dX7_activePart_118 : decode cX7_activePart 118 = .ok (.putfield 229, 3) := by decide +kernel
theorem dX7_activePart_121 : decode cX7_activePart 121 = .ok (.iload_n 3, 1) := by decide +kernel
theorem dX7_activePart_122 : decode cX7_activePart 122 = .ok (.ireturn, 1) := by decide +kernel
theorem dX7_run_0 : decode cX7_run 0 = .ok (.iload_n 1, 1) := by decide +kernel
theorem dX7_run_1 : decode cX7_run 1 = .ok (.iconst 1, 1) := by decide +kernel
theorem dX7_run_2 : decode cX7_run 2 = .ok (.if_icmp .lt 9, 3) := by decide +kernel
theorem dX7_run_5 : decode cX7_run 5 = .ok (.iload_n 1, 1) := by decide +kernel
theorem dX7_run_6 : decode cX7_run 6 = .ok (.bipush 20, 2) := by decide +kernel
theorem dX7_run_8 : decode cX7_run 8 = .ok (.if_icmp .le 5, 3) := by decide +kernel
theorem dX7_run_11 : decode cX7_run 11 = .ok (.iconst (-1), 1) := by decide +kernel
theorem dX7_run_12 : decode cX7_run 12 = .ok (.ireturn, 1) := by decide +kernel
theorem dX7_run_13 : decode cX7_run 13 = .ok (.iconst 0, 1) := by decide +kernel
theorem dX7_run_14 : decode cX7_run 14 = .ok (.istore_n 2, 1) := by decide +kernel
theorem dX7_run_15 : decode cX7_run 15 = .ok (.iconst 0, 1) := by decide +kernel
theorem dX7_run_16 : decode cX7_run 16 = .ok (.istore_n 3, 1) := by decide +kernel
theorem dX7_run_17 : decode cX7_run 17 = .ok (.iload_n 3, 1) := by decide +kernel
theorem dX7_run_18 : decode cX7_run 18 = .ok (.iload_n 1, 1) := by decide +kernel
theorem dX7_run_19 : decode cX7_run 19 = .ok (.if_icmp .ge 39, 3) := by decide +kernel
theorem dX7_run_22 : decode cX7_run 22 = .ok (.aload_n 0, 1) := by decide +kernel
theorem dX7_run_23 : decode cX7_run 23 = .ok (.invokevirtual 200, 3) := by decide +kernel
theorem dX7_run_26 : decode cX7_run 26 = .ok (.istore 4, 2) := by decide +kernel
theorem dX7_run_28 : decode cX7_run 28 = .ok (.aload_n 0, 1) := by decide +kernel
theorem dX7_run_29 : decode cX7_run 29 = .ok (.iload 4, 2) := by decide +kernel
theorem dX7_run_31 : decode cX7_run 31 = .ok (.invokevirtual 103, 3) := by decide +kernel
theorem dX7_run_34 : decode cX7_run 34 = .ok (.astore 5, 2) := by decide +kernel
theorem dX7_run_36 : decode cX7_run 36 = .ok (.aload 5, 2) := by decide +kernel
theorem dX7_run_38 : decode cX7_run 38 = .ok (.ifnull 14, 3) := by decide +kernel
theorem dX7_run_41 : decode cX7_run 41 = .ok (.iload_n 2, 1) := by decide +kernel
theorem dX7_run_42 : decode cX7_run 42 = .ok (.aload_n 0, 1) := by decide +kernel
theorem dX7_run_43 : decode cX7_run 43 = .ok (.iload 4, 2) := by decide +kernel
theorem dX7_run_45 : decode cX7_run 45 = .ok (.aload 5, 2) := by decide +kernel
theorem dX7_run_47 : decode cX7_run 47 = .ok (.invokevirtual 203, 3) := by decide +kernel
theorem dX7_run_50 : decode cX7_run 50 = .ok (.iadd, 1) := by decide +kernel
theorem dX7_run_51 : decode cX7_run 51 = .ok (.istore_n 2, 1) := by decide +kernel
theorem dX7_run_52 : decode cX7_run 52 = .ok (.iinc 3 1, 3) := by decide +kernel
theorem dX7_run_55 : decode cX7_run 55 = .ok (.goto (-38), 3) := by decide +kernel
theorem dX7_run_58 : decode cX7_run 58 = .ok (.iload_n 2, 1) := by decide +kernel
theorem dX7_run_59 : decode cX7_run 59 = .ok (.ireturn, 1) := by decide +kernel
theorem dX7_air_0 : decode cX7_air 0 = .ok (.aload_n 0, 1) := by decide +kernel
theorem dX7_air_1 : decode cX7_air 1 = .ok (.iload_n 1, 1) := by decide +kernel
theorem dX7_air_2 : decode cX7_air 2 = .ok (.invokevirtual 103, 3) := by decide +kernel
theorem dX7_air_5 : decode cX7_air 5 = .ok (.astore_n 3, 1) := by decide +kernel
theorem dX7_air_6 : decode cX7_air 6 = .ok (.aload_n 3, 1) := by decide +kernel
theorem dX7_air_7 : decode cX7_air 7 = .ok (.ifnull 27, 3) := by decide +kernel
theorem dX7_air_10 : decode cX7_air 10 = .ok (.iload_n 2, 1) := by decide +kernel
theorem dX7_air_11 : decode cX7_air 11 = .ok (.ifCond .lt 23, 3) := by decide +kernel
theorem dX7_air_14 : decode cX7_air 14 = .ok (.iload_n 2, 1) := by decide +kernel
theorem dX7_air_15 : decode cX7_air 15 = .ok (.aload_n 0, 1) := by decide +kernel
theorem dX7_air_16 : decode cX7_air 16 = .ok (.getfield 33, 3) := by decide +kernel
theorem dX7_air_19 : decode cX7_air 19 = .ok (.getfield 207, 3) := by decide +kernel
theorem dX7_air_22 : decode cX7_air 22 = .ok (.if_icmp .ge 12, 3) := by decide +kernel
theorem dX7_air_25 : decode cX7_air 25 = .ok (.iload_n 2, 1) := by decide +kernel
theorem dX7_air_26 : decode cX7_air 26 = .ok (.aload_n 3, 1) := by decide +kernel
theorem dX7_air_27 : decode cX7_air 27 = .ok (.getfield 210, 3) := by decide +kernel
theorem dX7_air_30 : decode cX7_air 30 = .ok (.arraylength, 1) := by decide +kernel
theorem dX7_air_31 : decode cX7_air 31 = .ok (.if_icmp .lt 5, 3) := by decide +kernel
theorem dX7_air_34 : decode cX7_air 34 = .ok (.iconst (-1), 1) := by decide +kernel
theorem dX7_air_35 : decode cX7_air 35 = .ok (.ireturn, 1) := by decide +kernel
theorem dX7_air_36 : decode cX7_air 36 = .ok (.aload_n 3, 1) := by decide +kernel
theorem dX7_air_37 : decode cX7_air 37 = .ok (.getfield 214, 3) := by decide +kernel
theorem dX7_air_40 : decode cX7_air 40 = .ok (.ifCond .ne 8, 3) := by decide +kernel
theorem dX7_air_43 : decode cX7_air 43 = .ok (.bipush (-4), 2) := by decide +kernel
theorem dX7_air_45 : decode cX7_air 45 = .ok (.goto 9, 3) := by decide +kernel
theorem dX7_air_48 : decode cX7_air 48 = .ok (.aload_n 3, 1) := by decide +kernel
theorem dX7_air_49 : decode cX7_air 49 = .ok (.getfield 210, 3) := by decide +kernel
theorem dX7_air_52 : decode cX7_air 52 = .ok (.iload_n 2, 1) := by decide +kernel
theorem dX7_air_53 : decode cX7_air 53 = .ok (.iaload, 1) := by decide +kernel
theorem dX7_air_54 : decode cX7_air 54 = .ok (.ireturn, 1) := by decide +kernel
theorem dX7_coordinator_0 : decode cX7_coordinator 0 = .ok (.aload_n 0, 1) := by decide +kernel
theorem dX7_coordinator_1 : decode cX7_coordinator 1 = .ok (.iload_n 1, 1) := by decide +kernel
theorem dX7_coordinator_2 : decode cX7_coordinator 2 = .ok (.invokevirtual 103, 3) := by decide +kernel
theorem dX7_coordinator_5 : decode cX7_coordinator 5 = .ok (.astore_n 3, 1) := by decide +kernel
theorem dX7_coordinator_6 : decode cX7_coordinator 6 = .ok (.aload_n 3, 1) := by decide +kernel
theorem dX7_coordinator_7 : decode cX7_coordinator 7 = .ok (.ifnonnull 7, 3) := by decide +kernel
theorem dX7_coordinator_10 : decode cX7_coordinator 10 = .ok (.iconst (-1), 1) := by decide +kernel
theorem dX7_coordinator_11 : decode cX7_coordinator 11 = .ok (.goto 8, 3) := by decide +kernel
theorem dX7_coordinator_14 : decode cX7_coordinator 14 = .ok (.aload_n 3, 1) := by decide +kernel
theorem dX7_coordinator_15 : decode cX7_coordinator 15 = .ok (.iload_n 2, 1) := by decide +kernel
theorem dX7_coordinator_16 : decode cX7_coordinator 16 = .ok (.invokevirtual 217, 3) := by decide +kernel
theorem dX7_coordinator_19 : decode cX7_coordinator 19 = .ok (.ireturn, 1) := by decide +kernel
theorem dX7_device_0 : decode cX7_device 0 = .ok (.aload_n 0, 1) := by decide +kernel
theorem dX7_device_1 : decode cX7_device 1 = .ok (.iload_n 1, 1) := by decide +kernel
theorem dX7_device_2 : decode cX7_device 2 = .ok (.invokevirtual 138, 3) := by decide +kernel
theorem dX7_device_5 : decode cX7_device 5 = .ok (.astore_n 3, 1) := by decide +kernel
theorem dX7_device_6 : decode cX7_device 6 = .ok (.aload_n 3, 1) := by decide +kernel
theorem dX7_device_7 : decode cX7_device 7 = .ok (.ifnonnull 7, 3) := by decide +kernel
theorem dX7_device_10 : decode cX7_device 10 = .ok (.iconst (-1), 1) := by decide +kernel
theorem dX7_device_11 : decode cX7_device 11 = .ok (.goto 8, 3) := by decide +kernel
theorem dX7_device_14 : decode cX7_device 14 = .ok (.aload_n 3, 1) := by decide +kernel
theorem dX7_device_15 : decode cX7_device 15 = .ok (.iload_n 2, 1) := by decide +kernel
theorem dX7_device_16 : decode cX7_device 16 = .ok (.invokevirtual 219, 3) := by decide +kernel
theorem dX7_device_19 : decode cX7_device 19 = .ok (.ireturn, 1) := by decide +kernel
theorem dX7_orphans_0 : decode cX7_orphans 0 = .ok (.iconst 0, 1) := by decide +kernel
theorem dX7_orphans_1 : decode cX7_orphans 1 = .ok (.istore_n 1, 1) := by decide +kernel
theorem dX7_orphans_2 : decode cX7_orphans 2 = .ok (.iconst 0, 1) := by decide +kernel
theorem dX7_orphans_3 : decode cX7_orphans 3 = .ok (.istore_n 2, 1) := by decide +kernel
theorem dX7_orphans_4 : decode cX7_orphans 4 = .ok (.iload_n 2, 1) := by decide +kernel
theorem dX7_orphans_5 : decode cX7_orphans 5 = .ok (.aload_n 0, 1) := by decide +kernel
theorem dX7_orphans_6 : decode cX7_orphans 6 = .ok (.getfield 33, 3) := by decide +kernel
theorem dX7_orphans_9 : decode cX7_orphans 9 = .ok (.getfield 96, 3) := by decide +kernel
theorem dX7_orphans_12 : decode cX7_orphans 12 = .ok (.if_icmp .ge 33, 3) := by decide +kernel
theorem dX7_orphans_15 : decode cX7_orphans 15 = .ok (.iload_n 2, 1) := by decide +kernel
theorem dX7_orphans_16 : decode cX7_orphans 16 = .ok (.aload_n 0, 1) := by decide +kernel
theorem dX7_orphans_17 : decode cX7_orphans 17 = .ok (.getfield 49, 3) := by decide +kernel
theorem dX7_orphans_20 : decode cX7_orphans 20 = .ok (.arraylength, 1) := by decide +kernel
theorem dX7_orphans_21 : decode cX7_orphans 21 = .ok (.if_icmp .ge 24, 3) := by decide +kernel
theorem dX7_orphans_24 : decode cX7_orphans 24 = .ok (.aload_n 0, 1) := by decide +kernel
theorem dX7_orphans_25 : decode cX7_orphans 25 = .ok (.getfield 49, 3) := by decide +kernel
theorem dX7_orphans_28 : decode cX7_orphans 28 = .ok (.iload_n 2, 1) := by decide +kernel
theorem dX7_orphans_29 : decode cX7_orphans 29 = .ok (.aaload, 1) := by decide +kernel
theorem dX7_orphans_30 : decode cX7_orphans 30 = .ok (.invokevirtual 166, 3) := by decide +kernel
theorem dX7_orphans_33 : decode cX7_orphans 33 = .ok (.ifCond .eq 6, 3) := by decide +kernel
theorem dX7_orphans_36 : decode cX7_orphans 36 = .ok (.iinc 1 1, 3) := by decide +kernel
theorem dX7_orphans_39 : decode cX7_orphans 39 = .ok (.iinc 2 1, 3) := by decide +kernel
theorem dX7_orphans_42 : decode cX7_orphans 42 = .ok (.goto (-38), 3) := by decide +kernel
theorem dX7_orphans_45 : decode cX7_orphans 45 = .ok (.iload_n 1, 1) := by decide +kernel
theorem dX7_orphans_46 : decode cX7_orphans 46 = .ok (.ireturn, 1) := by decide +kernel
theorem dX7_count_0 : decode cX7_count 0 = .ok (.iload_n 1, 1) := by decide +kernel
theorem dX7_count_1 : decode cX7_count 1 = .ok (.tableswitch 162 0 12 #[67, 75, 83, 88, 96, 104, 112, 120, 128, 136, 144, 152, 157], 67) := by decide +kernel
theorem dX7_count_68 : decode cX7_count 68 = .ok (.aload_n 0, 1) := by decide +kernel
theorem dX7_count_69 : decode cX7_count 69 = .ok (.getfield 33, 3) := by decide +kernel
theorem dX7_count_72 : decode cX7_count 72 = .ok (.getfield 110, 3) := by decide +kernel
theorem dX7_count_75 : decode cX7_count 75 = .ok (.ireturn, 1) := by decide +kernel
theorem dX7_count_76 : decode cX7_count 76 = .ok (.aload_n 0, 1) := by decide +kernel
theorem dX7_count_77 : decode cX7_count 77 = .ok (.getfield 33, 3) := by decide +kernel
theorem dX7_count_80 : decode cX7_count 80 = .ok (.getfield 96, 3) := by decide +kernel
theorem dX7_count_83 : decode cX7_count 83 = .ok (.ireturn, 1) := by decide +kernel
theorem dX7_count_84 : decode cX7_count 84 = .ok (.aload_n 0, 1) := by decide +kernel
theorem dX7_count_85 : decode cX7_count 85 = .ok (.getfield 124, 3) := by decide +kernel
theorem dX7_count_88 : decode cX7_count 88 = .ok (.ireturn, 1) := by decide +kernel
theorem dX7_count_89 : decode cX7_count 89 = .ok (.aload_n 0, 1) := by decide +kernel
theorem dX7_count_90 : decode cX7_count 90 = .ok (.getfield 33, 3) := by decide +kernel
theorem dX7_count_93 : decode cX7_count 93 = .ok (.getfield 107, 3) := by decide +kernel
theorem dX7_count_96 : decode cX7_count 96 = .ok (.ireturn, 1) := by decide +kernel
theorem dX7_count_97 : decode cX7_count 97 = .ok (.aload_n 0, 1) := by decide +kernel
theorem dX7_count_98 : decode cX7_count 98 = .ok (.getfield 33, 3) := by decide +kernel
theorem dX7_count_101 : decode cX7_count 101 = .ok (.getfield 207, 3) := by decide +kernel
theorem dX7_count_104 : decode cX7_count 104 = .ok (.ireturn, 1) := by decide +kernel
theorem dX7_count_105 : decode cX7_count 105 = .ok (.aload_n 0, 1) := by decide +kernel
theorem dX7_count_106 : decode cX7_count 106 = .ok (.getfield 33, 3) := by decide +kernel
theorem dX7_count_109 : decode cX7_count 109 = .ok (.getfield 220, 3) := by decide +kernel
theorem dX7_count_112 : decode cX7_count 112 = .ok (.ireturn, 1) := by decide +kernel
theorem dX7_count_113 : decode cX7_count 113 = .ok (.aload_n 0, 1) := by decide +kernel
theorem dX7_count_114 : decode cX7_count 114 = .ok (.getfield 33, 3) := by decide +kernel
theorem dX7_count_117 : decode cX7_count 117 = .ok (.getfield 183, 3) := by decide +kernel
theorem dX7_count_120 : decode cX7_count 120 = .ok (.ireturn, 1) := by decide +kernel
theorem dX7_count_121 : decode cX7_count 121 = .ok (.aload_n 0, 1) := by decide +kernel
theorem dX7_count_122 : decode cX7_count 122 = .ok (.getfield 33, 3) := by decide +kernel
theorem dX7_count_125 : decode cX7_count 125 = .ok (.getfield 223, 3) := by decide +kernel
theorem dX7_count_128 : decode cX7_count 128 = .ok (.ireturn, 1) := by decide +kernel
theorem dX7_count_129 : decode cX7_count 129 = .ok (.aload_n 0, 1) := by decide +kernel
theorem dX7_count_130 : decode cX7_count 130 = .ok (.getfield 59, 3) := by decide +kernel
theorem dX7_count_133 : decode cX7_count 133 = .ok (.getfield 135, 3) := by decide +kernel
theorem dX7_count_136 : decode cX7_count 136 = .ok (.ireturn, 1) := by decide +kernel
theorem dX7_count_137 : decode cX7_count 137 = .ok (.aload_n 0, 1) := by decide +kernel
theorem dX7_count_138 : decode cX7_count 138 = .ok (.getfield 27, 3) := by decide +kernel
theorem dX7_count_141 : decode cX7_count 141 = .ok (.getfield 89, 3) := by decide +kernel
theorem dX7_count_144 : decode cX7_count 144 = .ok (.ireturn, 1) := by decide +kernel
theorem dX7_count_145 : decode cX7_count 145 = .ok (.aload_n 0, 1) := by decide +kernel
theorem dX7_count_146 : decode cX7_count 146 = .ok (.getfield 14, 3) := by decide +kernel
theorem dX7_count_149 : decode cX7_count 149 = .ok (.getfield 89, 3) := by decide +kernel
theorem dX7_count_152 : decode cX7_count 152 = .ok (.ireturn, 1) := by decide +kernel
theorem dX7_count_153 : decode cX7_count 153 = .ok (.aload_n 0, 1) := by decide +kernel
theorem dX7_count_154 : decode cX7_count 154 = .ok (.invokevirtual 226, 3) := by decide +kernel
theorem dX7_count_157 : decode cX7_count 157 = .ok (.ireturn, 1) := by decide +kernel
theorem dX7_count_158 : decode cX7_count 158 = .ok (.aload_n 0, 1) := by decide +kernel
theorem dX7_count_159 : decode cX7_count 159 = .ok (.getfield 229, 3) := by decide +kernel
theorem dX7_count_162 : decode cX7_count 162 = .ok (.ireturn, 1) := by decide +kernel
theorem dX7_count_163 : decode cX7_count 163 = .ok (.iconst (-1), 1) := by decide +kernel
theorem dX7_count_164 : decode cX7_count 164 = .ok (.ireturn, 1) := by decide +kernel

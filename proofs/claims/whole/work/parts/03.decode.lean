theorem dX0_init_0 : decode cX0_init 0 = .ok (.aload_n 0, 1) := by decide +kernel
theorem dX0_init_1 : decode cX0_init 1 = .ok (.invokespecial 3, 3) := by decide +kernel
theorem dX0_init_4 : decode cX0_init 4 = .ok (.aload_n 0, 1) := by decide +kernel
theorem dX0_init_5 : decode cX0_init 5 = .ok (.bipush 12, 2) := by decide +kernel
theorem dX0_init_7 : decode cX0_init 7 = .ok (.anewarray 9, 3) := by decide +kernel
theorem dX0_init_10 : decode cX0_init 10 = .ok (.putfield 11, 3) := by decide +kernel
theorem dX0_init_13 : decode cX0_init 13 = .ok (.aload_n 0, 1) := by decide +kernel
theorem dX0_init_14 : decode cX0_init 14 = .ok (.iconst 0, 1) := by decide +kernel
theorem dX0_init_15 : decode cX0_init 15 = .ok (.putfield 17, 3) := by decide +kernel
theorem dX0_init_18 : decode cX0_init 18 = .ok (.aload_n 0, 1) := by decide +kernel
theorem dX0_init_19 : decode cX0_init 19 = .ok (.iconst 0, 1) := by decide +kernel
theorem dX0_init_20 : decode cX0_init 20 = .ok (.putfield 21, 3) := by decide +kernel
theorem dX0_init_23 : decode cX0_init 23 = .ok (.iconst 0, 1) := by decide +kernel
theorem dX0_init_24 : decode cX0_init 24 = .ok (.istore_n 2, 1) := by decide +kernel
theorem dX0_init_25 : decode cX0_init 25 = .ok (.iload_n 2, 1) := by decide +kernel
theorem dX0_init_26 : decode cX0_init 26 = .ok (.bipush 12, 2) := by decide +kernel
theorem dX0_init_28 : decode cX0_init 28 = .ok (.if_icmp .ge 23, 3) := by decide +kernel
theorem dX0_init_31 : decode cX0_init 31 = .ok (.aload_n 0, 1) := by decide +kernel
theorem dX0_init_32 : decode cX0_init 32 = .ok (.getfield 11, 3) := by decide +kernel
theorem dX0_init_35 : decode cX0_init 35 = .ok (.iload_n 2, 1) := by decide +kernel
theorem dX0_init_36 : decode cX0_init 36 = .ok (.new 9, 3) := by decide +kernel
theorem dX0_init_39 : decode cX0_init 39 = .ok (.dup, 1) := by decide +kernel
theorem dX0_init_40 : decode cX0_init 40 = .ok (.aload_n 1, 1) := by decide +kernel
theorem dX0_init_41 : decode cX0_init 41 = .ok (.invokespecial 24, 3) := by decide +kernel
theorem dX0_init_44 : decode cX0_init 44 = .ok (.aastore, 1) := by decide +kernel
theorem dX0_init_45 : decode cX0_init 45 = .ok (.iinc 2 1, 3) := by decide +kernel
theorem dX0_init_48 : decode cX0_init 48 = .ok (.goto (-23), 3) := by decide +kernel
theorem dX0_init_51 : decode cX0_init 51 = .ok (.return_, 1) := by decide +kernel
theorem dX0_remember_0 : decode cX0_remember 0 = .ok (.aload_n 0, 1) := by decide +kernel
theorem dX0_remember_1 : decode cX0_remember 1 = .ok (.aload_n 0, 1) := by decide +kernel
theorem dX0_remember_2 : decode cX0_remember 2 = .ok (.getfield 21, 3) := by decide +kernel
theorem dX0_remember_5 : decode cX0_remember 5 = .ok (.iconst 1, 1) := by decide +kernel
theorem dX0_remember_6 : decode cX0_remember 6 = .ok (.iadd, 1) := by decide +kernel
theorem dX0_remember_7 : decode cX0_remember 7 = .ok (.bipush 12, 2) := by decide +kernel
theorem dX0_remember_9 : decode cX0_remember 9 = .ok (.if_icmp .ge 12, 3) := by decide +kernel
theorem dX0_remember_12 : decode cX0_remember 12 = .ok (.aload_n 0, 1) := by decide +kernel
theorem dX0_remember_13 : decode cX0_remember 13 = .ok (.getfield 21, 3) := by decide +kernel
theorem dX0_remember_16 : decode cX0_remember 16 = .ok (.iconst 1, 1) := by decide +kernel
theorem dX0_remember_17 : decode cX0_remember 17 = .ok (.iadd, 1) := by decide +kernel
theorem dX0_remember_18 : decode cX0_remember 18 = .ok (.goto 4, 3) := by decide +kernel
theorem dX0_remember_21 : decode cX0_remember 21 = .ok (.iconst 0, 1) := by decide +kernel
theorem dX0_remember_22 : decode cX0_remember 22 = .ok (.putfield 21, 3) := by decide +kernel
theorem dX0_remember_25 : decode cX0_remember 25 = .ok (.aload_n 0, 1) := by decide +kernel
theorem dX0_remember_26 : decode cX0_remember 26 = .ok (.getfield 11, 3) := by decide +kernel
theorem dX0_remember_29 : decode cX0_remember 29 = .ok (.aload_n 0, 1) := by decide +kernel
theorem dX0_remember_30 : decode cX0_remember 30 = .ok (.getfield 21, 3) := by decide +kernel
theorem dX0_remember_33 : decode cX0_remember 33 = .ok (.aaload, 1) := by decide +kernel
theorem dX0_remember_34 : decode cX0_remember 34 = .ok (.aload_n 1, 1) := by decide +kernel
theorem dX0_remember_35 : decode cX0_remember 35 = .ok (.invokevirtual 27, 3) := by decide +kernel
theorem dX0_remember_38 : decode cX0_remember 38 = .ok (.aload_n 0, 1) := by decide +kernel
theorem dX0_remember_39 : decode cX0_remember 39 = .ok (.aload_n 0, 1) := by decide +kernel
theorem dX0_remember_40 : decode cX0_remember 40 = .ok (.getfield 17, 3) := by decide +kernel
theorem dX0_remember_43 : decode cX0_remember 43 = .ok (.iconst 1, 1) := by decide +kernel
theorem dX0_remember_44 : decode cX0_remember 44 = .ok (.iadd, 1) := by decide +kernel
theorem dX0_remember_45 : decode cX0_remember 45 = .ok (.bipush 12, 2) := by decide +kernel
theorem dX0_remember_47 : decode cX0_remember 47 = .ok (.invokestatic 31, 3) := by decide +kernel
theorem dX0_remember_50 : decode cX0_remember 50 = .ok (.putfield 17, 3) := by decide +kernel
theorem dX0_remember_53 : decode cX0_remember 53 = .ok (.return_, 1) := by decide +kernel
theorem dX0_restore_0 : decode cX0_restore 0 = .ok (.aload_n 0, 1) := by decide +kernel
theorem dX0_restore_1 : decode cX0_restore 1 = .ok (.getfield 17, 3) := by decide +kernel
theorem dX0_restore_4 : decode cX0_restore 4 = .ok (.ifCond .ne 5, 3) := by decide +kernel
theorem dX0_restore_7 : decode cX0_restore 7 = .ok (.iconst 0, 1) := by decide +kernel
theorem dX0_restore_8 : decode cX0_restore 8 = .ok (.ireturn, 1) := by decide +kernel
theorem dX0_restore_9 : decode cX0_restore 9 = .ok (.aload_n 1, 1) := by decide +kernel
theorem dX0_restore_10 : decode cX0_restore 10 = .ok (.aload_n 0, 1) := by decide +kernel
theorem dX0_restore_11 : decode cX0_restore 11 = .ok (.getfield 11, 3) := by decide +kernel
theorem dX0_restore_14 : decode cX0_restore 14 = .ok (.aload_n 0, 1) := by decide +kernel
theorem dX0_restore_15 : decode cX0_restore 15 = .ok (.getfield 21, 3) := by decide +kernel
theorem dX0_restore_18 : decode cX0_restore 18 = .ok (.aaload, 1) := by decide +kernel
theorem dX0_restore_19 : decode cX0_restore 19 = .ok (.invokevirtual 27, 3) := by decide +kernel
theorem dX0_restore_22 : decode cX0_restore 22 = .ok (.aload_n 0, 1) := by decide +kernel
theorem dX0_restore_23 : decode cX0_restore 23 = .ok (.aload_n 0, 1) := by decide +kernel
theorem dX0_restore_24 : decode cX0_restore 24 = .ok (.getfield 21, 3) := by decide +kernel
theorem dX0_restore_27 : decode cX0_restore 27 = .ok (.ifCond .le 12, 3) := by decide +kernel
theorem dX0_restore_30 : decode cX0_restore 30 = .ok (.aload_n 0, 1) := by decide +kernel
theorem dX0_restore_31 : decode cX0_restore 31 = .ok (.getfield 21, 3) := by decide +kernel
theorem dX0_restore_34 : decode cX0_restore 34 = .ok (.iconst 1, 1) := by decide +kernel
theorem dX0_restore_35 : decode cX0_restore 35 = .ok (.isub, 1) := by decide +kernel
theorem dX0_restore_36 : decode cX0_restore 36 = .ok (.goto 5, 3) := by decide +kernel
theorem dX0_restore_39 : decode cX0_restore 39 = .ok (.bipush 11, 2) := by decide +kernel
theorem dX0_restore_41 : decode cX0_restore 41 = .ok (.putfield 21, 3) := by decide +kernel
theorem dX0_restore_44 : decode cX0_restore 44 = .ok (.aload_n 0, 1) := by decide +kernel
theorem dX0_restore_45 : decode cX0_restore 45 = .ok (.dup, 1) := by decide +kernel
theorem dX0_restore_46 : decode cX0_restore 46 = .ok (.getfield 17, 3) := by decide +kernel
theorem dX0_restore_49 : decode cX0_restore 49 = .ok (.iconst 1, 1) := by decide +kernel
theorem dX0_restore_50 : decode cX0_restore 50 = .ok (.isub, 1) := by decide +kernel
theorem dX0_restore_51 : decode cX0_restore 51 = .ok (.putfield 17, 3) := by decide +kernel
theorem dX0_restore_54 : decode cX0_restore 54 = .ok (.iconst 1, 1) := by decide +kernel
theorem dX0_restore_55 : decode cX0_restore 55 = .ok (.ireturn, 1) := by decide +kernel
theorem dX1_init_0 : decode cX1_init 0 = .ok (.aload_n 0, 1) := by decide +kernel
theorem dX1_init_1 : decode cX1_init 1 = .ok (.invokespecial 3, 3) := by decide +kernel
theorem dX1_init_4 : decode cX1_init 4 = .ok (.aload_n 0, 1) := by decide +kernel
theorem dX1_init_5 : decode cX1_init 5 = .ok (.iconst 0, 1) := by decide +kernel
theorem dX1_init_6 : decode cX1_init 6 = .ok (.putfield 9, 3) := by decide +kernel
theorem dX1_init_9 : decode cX1_init 9 = .ok (.aload_n 0, 1) := by decide +kernel
theorem dX1_init_10 : decode cX1_init 10 = .ok (.bipush 8, 2) := by decide +kernel
theorem dX1_init_12 : decode cX1_init 12 = .ok (.newarray .int, 2) := by decide +kernel
theorem dX1_init_14 : decode cX1_init 14 = .ok (.putfield 15, 3) := by decide +kernel
theorem dX1_init_17 : decode cX1_init 17 = .ok (.aload_n 0, 1) := by decide +kernel
theorem dX1_init_18 : decode cX1_init 18 = .ok (.bipush 8, 2) := by decide +kernel
theorem dX1_init_20 : decode cX1_init 20 = .ok (.newarray .int, 2) := by decide +kernel
theorem dX1_init_22 : decode cX1_init 22 = .ok (.putfield 19, 3) := by decide +kernel
theorem dX1_init_25 : decode cX1_init 25 = .ok (.aload_n 0, 1) := by decide +kernel
theorem dX1_init_26 : decode cX1_init 26 = .ok (.bipush 48, 2) := by decide +kernel
theorem dX1_init_28 : decode cX1_init 28 = .ok (.newarray .int, 2) := by decide +kernel
theorem dX1_init_30 : decode cX1_init 30 = .ok (.putfield 22, 3) := by decide +kernel
theorem dX1_init_33 : decode cX1_init 33 = .ok (.aload_n 0, 1) := by decide +kernel
theorem dX1_init_34 : decode cX1_init 34 = .ok (.bipush 48, 2) := by decide +kernel
theorem dX1_init_36 : decode cX1_init 36 = .ok (.newarray .int, 2) := by decide +kernel
theorem dX1_init_38 : decode cX1_init 38 = .ok (.putfield 25, 3) := by decide +kernel
theorem dX1_init_41 : decode cX1_init 41 = .ok (.aload_n 0, 1) := by decide +kernel
theorem dX1_init_42 : decode cX1_init 42 = .ok (.bipush 8, 2) := by decide +kernel
theorem dX1_init_44 : decode cX1_init 44 = .ok (.newarray .int, 2) := by decide +kernel
theorem dX1_init_46 : decode cX1_init 46 = .ok (.putfield 28, 3) := by decide +kernel
theorem dX1_init_49 : decode cX1_init 49 = .ok (.aload_n 0, 1) := by decide +kernel
theorem dX1_init_50 : decode cX1_init 50 = .ok (.bipush 8, 2) := by decide +kernel
theorem dX1_init_52 : decode cX1_init 52 = .ok (.newarray .int, 2) := by decide +kernel
theorem dX1_init_54 : decode cX1_init 54 = .ok (.putfield 31, 3) := by decide +kernel
theorem dX1_init_57 : decode cX1_init 57 = .ok (.aload_n 0, 1) := by decide +kernel
theorem dX1_init_58 : decode cX1_init 58 = .ok (.bipush 8, 2) := by decide +kernel
theorem dX1_init_60 : decode cX1_init 60 = .ok (.newarray .int, 2) := by decide +kernel
theorem dX1_init_62 : decode cX1_init 62 = .ok (.putfield 34, 3) := by decide +kernel
theorem dX1_init_65 : decode cX1_init 65 = .ok (.aload_n 0, 1) := by decide +kernel
theorem dX1_init_66 : decode cX1_init 66 = .ok (.bipush 8, 2) := by decide +kernel
theorem dX1_init_68 : decode cX1_init 68 = .ok (.newarray .int, 2) := by decide +kernel
theorem dX1_init_70 : decode cX1_init 70 = .ok (.putfield 37, 3) := by decide +kernel
theorem dX1_init_73 : decode cX1_init 73 = .ok (.aload_n 0, 1) := by decide +kernel
theorem dX1_init_74 : decode cX1_init 74 = .ok (.invokevirtual 40, 3) := by decide +kernel
theorem dX1_init_77 : decode cX1_init 77 = .ok (.return_, 1) := by decide +kernel
theorem dX1_tellAnew_0 : decode cX1_tellAnew 0 = .ok (.aload_n 0, 1) := by decide +kernel
theorem dX1_tellAnew_1 : decode cX1_tellAnew 1 = .ok (.iconst 0, 1) := by decide +kernel
theorem dX1_tellAnew_2 : decode cX1_tellAnew 2 = .ok (.putfield 9, 3) := by decide +kernel
theorem dX1_tellAnew_5 : decode cX1_tellAnew 5 = .ok (.aload_n 0, 1) := by decide +kernel
theorem dX1_tellAnew_6 : decode cX1_tellAnew 6 = .ok (.bipush (-9), 2) := by decide +kernel
theorem dX1_tellAnew_8 : decode cX1_tellAnew 8 = .ok (.invokevirtual 43, 3) := by decide +kernel
theorem dX1_tellAnew_11 : decode cX1_tellAnew 11 = .ok (.pop, 1) := by decide +kernel
theorem dX1_tellAnew_12 : decode cX1_tellAnew 12 = .ok (.return_, 1) := by decide +kernel
theorem dX1_addTask_0 : decode cX1_addTask 0 = .ok (.aload_n 0, 1) := by decide +kernel
theorem dX1_addTask_1 : decode cX1_addTask 1 = .ok (.getfield 9, 3) := by decide +kernel
theorem dX1_addTask_4 : decode cX1_addTask 4 = .ok (.bipush 8, 2) := by decide +kernel
theorem dX1_addTask_6 : decode cX1_addTask 6 = .ok (.if_icmp .lt 6, 3) := by decide +kernel
theorem dX1_addTask_9 : decode cX1_addTask 9 = .ok (.bipush (-9), 2) := by decide +kernel
theorem dX1_addTask_11 : decode cX1_addTask 11 = .ok (.ireturn, 1) := by decide +kernel
theorem dX1_addTask_12 : decode cX1_addTask 12 = .ok (.aload_n 0, 1) := by decide +kernel
theorem dX1_addTask_13 : decode cX1_addTask 13 = .ok (.getfield 9, 3) := by decide +kernel
theorem dX1_addTask_16 : decode cX1_addTask 16 = .ok (.istore_n 2, 1) := by decide +kernel
theorem dX1_addTask_17 : decode cX1_addTask 17 = .ok (.aload_n 0, 1) := by decide +kernel
theorem dX1_addTask_18 : decode cX1_addTask 18 = .ok (.dup, 1) := by decide +kernel
theorem dX1_addTask_19 : decode cX1_addTask 19 = .ok (.getfield 9, 3) := by decide +kernel
theorem dX1_addTask_22 : decode cX1_addTask 22 = .ok (.iconst 1, 1) := by decide +kernel
theorem dX1_addTask_23 : decode cX1_addTask 23 = .ok (.iadd, 1) := by decide +kernel
theorem dX1_addTask_24 : decode cX1_addTask 24 = .ok (.putfield 9, 3) := by decide +kernel
theorem dX1_addTask_27 : decode cX1_addTask 27 = .ok (.aload_n 0, 1) := by decide +kernel
theorem dX1_addTask_28 : decode cX1_addTask 28 = .ok (.getfield 15, 3) := by decide +kernel
theorem dX1_addTask_31 : decode cX1_addTask 31 = .ok (.iload_n 2, 1) := by decide +kernel
theorem dX1_addTask_32 : decode cX1_addTask 32 = .ok (.iload_n 1, 1) := by decide +kernel
theorem dX1_addTask_33 : decode cX1_addTask 33 = .ok (.iastore, 1) := by decide +kernel
theorem dX1_addTask_34 : decode cX1_addTask 34 = .ok (.aload_n 0, 1) := by decide +kernel
theorem dX1_addTask_35 : decode cX1_addTask 35 = .ok (.getfield 19, 3) := by decide +kernel
theorem dX1_addTask_38 : decode cX1_addTask 38 = .ok (.iload_n 2, 1) := by decide +kernel
theorem dX1_addTask_39 : decode cX1_addTask 39 = .ok (.iconst 0, 1) := by decide +kernel
theorem dX1_addTask_40 : decode cX1_addTask 40 = .ok (.iastore, 1) := by decide +kernel
theorem dX1_addTask_41 : decode cX1_addTask 41 = .ok (.aload_n 0, 1) := by decide +kernel
theorem dX1_addTask_42 : decode cX1_addTask 42 = .ok (.getfield 28, 3) := by decide +kernel
theorem dX1_addTask_45 : decode cX1_addTask 45 = .ok (.iload_n 2, 1) := by decide +kernel
theorem dX1_addTask_46 : decode cX1_addTask 46 = .ok (.bipush 99, 2) := by decide +kernel
theorem dX1_addTask_48 : decode cX1_addTask 48 = .ok (.iastore, 1) := by decide +kernel
theorem dX1_addTask_49 : decode cX1_addTask 49 = .ok (.aload_n 0, 1) := by decide +kernel
theorem dX1_addTask_50 : decode cX1_addTask 50 = .ok (.getfield 31, 3) := by decide +kernel
theorem dX1_addTask_53 : decode cX1_addTask 53 = .ok (.iload_n 2, 1) := by decide +kernel
theorem dX1_addTask_54 : decode cX1_addTask 54 = .ok (.iconst 0, 1) := by decide +kernel
theorem dX1_addTask_55 : decode cX1_addTask 55 = .ok (.iastore, 1) := by decide +kernel
theorem dX1_addTask_56 : decode cX1_addTask 56 = .ok (.aload_n 0, 1) := by decide +kernel
theorem dX1_addTask_57 : decode cX1_addTask 57 = .ok (.getfield 34, 3) := by decide +kernel
theorem dX1_addTask_60 : decode cX1_addTask 60 = .ok (.iload_n 2, 1) := by decide +kernel
theorem dX1_addTask_61 : decode cX1_addTask 61 = .ok (.iconst 0, 1) := by decide +kernel
theorem dX1_addTask_62 : decode cX1_addTask 62 = .ok (.iastore, 1) := by decide +kernel
theorem dX1_addTask_63 : decode cX1_addTask 63 = .ok (.aload_n 0, 1) := by decide +kernel
theorem dX1_addTask_64 : decode cX1_addTask 64 = .ok (.getfield 37, 3) := by decide +kernel
theorem dX1_addTask_67 : decode cX1_addTask 67 = .ok (.iload_n 2, 1) := by decide +kernel
theorem dX1_addTask_68 : decode cX1_addTask 68 = .ok (.iconst 0, 1) := by decide +kernel
theorem dX1_addTask_69 : decode cX1_addTask 69 = .ok (.iastore, 1) := by decide +kernel
theorem dX1_addTask_70 : decode cX1_addTask 70 = .ok (.iload_n 2, 1) := by decide +kernel
theorem dX1_addTask_71 : decode cX1_addTask 71 = .ok (.ireturn, 1) := by decide +kernel
theorem dX1_addOperation_0 : decode cX1_addOperation 0 = .ok (.iload_n 1, 1) := by decide +kernel
theorem dX1_addOperation_1 : decode cX1_addOperation 1 = .ok (.ifCond .lt 22, 3) := by decide +kernel
theorem dX1_addOperation_4 : decode cX1_addOperation 4 = .ok (.iload_n 1, 1) := by decide +kernel
theorem dX1_addOperation_5 : decode cX1_addOperation 5 = .ok (.aload_n 0, 1) := by decide +kernel
theorem dX1_addOperation_6 : decode cX1_addOperation 6 = .ok (.getfield 9, 3) := by decide +kernel
theorem dX1_addOperation_9 : decode cX1_addOperation 9 = .ok (.if_icmp .ge 14, 3) := by decide +kernel
theorem dX1_addOperation_12 : decode cX1_addOperation 12 = .ok (.aload_n 0, 1) := by decide +kernel
theorem dX1_addOperation_13 : decode cX1_addOperation 13 = .ok (.getfield 19, 3) := by decide +kernel
theorem dX1_addOperation_16 : decode cX1_addOperation 16 = .ok (.iload_n 1, 1) := by decide +kernel
theorem dX1_addOperation_17 : decode cX1_addOperation 17 = .ok (.iaload, 1) := by decide +kernel
theorem dX1_addOperation_18 : decode cX1_addOperation 18 = .ok (.bipush 6, 2) := by decide +kernel
theorem dX1_addOperation_20 : decode cX1_addOperation 20 = .ok (.if_icmp .lt 5, 3) := by decide +kernel
theorem dX1_addOperation_23 : decode cX1_addOperation 23 = .ok (.iconst 0, 1) := by decide +kernel
theorem dX1_addOperation_24 : decode cX1_addOperation 24 = .ok (.ireturn, 1) := by decide +kernel
theorem dX1_addOperation_25 : decode cX1_addOperation 25 = .ok (.iload_n 1, 1) := by decide +kernel
theorem dX1_addOperation_26 : decode cX1_addOperation 26 = .ok (.bipush 6, 2) := by decide +kernel
theorem dX1_addOperation_28 : decode cX1_addOperation 28 = .ok (.imul, 1) := by decide +kernel
theorem dX1_addOperation_29 : decode cX1_addOperation 29 = .ok (.aload_n 0, 1) := by decide +kernel
theorem dX1_addOperation_30 : decode cX1_addOperation 30 = .ok (.getfield 19, 3) := by decide +kernel
theorem dX1_addOperation_33 : decode cX1_addOperation 33 = .ok (.iload_n 1, 1) := by decide +kernel
theorem dX1_addOperation_34 : decode cX1_addOperation 34 = .ok (.iaload, 1) := by decide +kernel
theorem dX1_addOperation_35 : decode cX1_addOperation 35 = .ok (.iadd, 1) := by decide +kernel
theorem dX1_addOperation_36 : decode cX1_addOperation 36 = .ok (.istore 4, 2) := by decide +kernel
theorem dX1_addOperation_38 : decode cX1_addOperation 38 = .ok (.aload_n 0, 1) := by decide +kernel
theorem dX1_addOperation_39 : decode cX1_addOperation 39 = .ok (.getfield 22, 3) := by decide +kernel
theorem dX1_addOperation_42 : decode cX1_addOperation 42 = .ok (.iload 4, 2) := by decide +kernel
theorem dX1_addOperation_44 : decode cX1_addOperation 44 = .ok (.iload_n 2, 1) := by decide +kernel
theorem dX1_addOperation_45 : decode cX1_addOperation 45 = .ok (.iastore, 1) := by decide +kernel
theorem dX1_addOperation_46 : decode cX1_addOperation 46 = .ok (.aload_n 0, 1) := by decide +kernel
theorem dX1_addOperation_47 : decode cX1_addOperation 47 = .ok (.getfield 25, 3) := by decide +kernel
theorem dX1_addOperation_50 : decode cX1_addOperation 50 = .ok (.iload 4, 2) := by decide +kernel
theorem dX1_addOperation_52 : decode cX1_addOperation 52 = .ok (.iload_n 3, 1) := by decide +kernel
theorem dX1_addOperation_53 : decode cX1_addOperation 53 = .ok (.iastore, 1) := by decide +kernel
theorem dX1_addOperation_54 : decode cX1_addOperation 54 = .ok (.aload_n 0, 1) := by decide +kernel
theorem dX1_addOperation_55 : decode cX1_addOperation 55 = .ok (.getfield 19, 3) := by decide +kernel
theorem dX1_addOperation_58 : decode cX1_addOperation 58 = .ok (.iload_n 1, 1) := by decide +kernel
theorem dX1_addOperation_59 : decode cX1_addOperation 59 = .ok (.dup2, 1) := by decide +kernel
theorem dX1_addOperation_60 : decode cX1_addOperation 60 = .ok (.iaload, 1) := by decide +kernel
theorem dX1_addOperation_61 : decode cX1_addOperation 61 = .ok (.iconst 1, 1) := by decide +kernel
theorem dX1_addOperation_62 : decode cX1_addOperation 62 = .ok (.iadd, 1) := by decide +kernel
theorem dX1_addOperation_63 : decode cX1_addOperation 63 = .ok (.iastore, 1) := by decide +kernel
theorem dX1_addOperation_64 : decode cX1_addOperation 64 = .ok (.iconst 1, 1) := by decide +kernel
theorem dX1_addOperation_65 : decode cX1_addOperation 65 = .ok (.ireturn, 1) := by decide +kernel
theorem dX1_copyFrom_0 : decode cX1_copyFrom 0 = .ok (.aload_n 0, 1) := by decide +kernel
theorem dX1_copyFrom_1 : decode cX1_copyFrom 1 = .ok (.aload_n 1, 1) := by decide +kernel
theorem dX1_copyFrom_2 : decode cX1_copyFrom 2 = .ok (.getfield 9, 3) := by decide +kernel
theorem dX1_copyFrom_5 : decode cX1_copyFrom 5 = .ok (.putfield 9, 3) := by decide +kernel
theorem dX1_copyFrom_8 : decode cX1_copyFrom 8 = .ok (.aload_n 1, 1) := by decide +kernel
theorem dX1_copyFrom_9 : decode cX1_copyFrom 9 = .ok (.getfield 15, 3) := by decide +kernel
theorem dX1_copyFrom_12 : decode cX1_copyFrom 12 = .ok (.iconst 0, 1) := by decide +kernel
theorem dX1_copyFrom_13 : decode cX1_copyFrom 13 = .ok (.aload_n 0, 1) := by decide +kernel
theorem dX1_copyFrom_14 : decode cX1_copyFrom 14 = .ok (.getfield 15, 3) := by decide +kernel
theorem dX1_copyFrom_17 : decode cX1_copyFrom 17 = .ok (.iconst 0, 1) := by decide +kernel
theorem dX1_copyFrom_18 : decode cX1_copyFrom 18 = .ok (.bipush 8, 2) := by decide +kernel
theorem dX1_copyFrom_20 : decode cX1_copyFrom 20 = .ok (.invokestatic 47, 3) := by decide +kernel
theorem dX1_copyFrom_23 : decode cX1_copyFrom 23 = .ok (.aload_n 1, 1) := by decide +kernel
theorem dX1_copyFrom_24 : decode cX1_copyFrom 24 = .ok (.getfield 19, 3) := by decide +kernel
theorem dX1_copyFrom_27 : decode cX1_copyFrom 27 = .ok (.iconst 0, 1) := by decide +kernel
theorem dX1_copyFrom_28 : decode cX1_copyFrom 28 = .ok (.aload_n 0, 1) := by decide +kernel
theorem dX1_copyFrom_29 : decode cX1_copyFrom 29 = .ok (.getfield 19, 3) := by decide +kernel
theorem dX1_copyFrom_32 : decode cX1_copyFrom 32 = .ok (.iconst 0, 1) := by decide +kernel
theorem dX1_copyFrom_33 : decode cX1_copyFrom 33 = .ok (.bipush 8, 2) := by decide +kernel
theorem dX1_copyFrom_35 : decode cX1_copyFrom 35 = .ok (.invokestatic 47, 3) := by decide +kernel
theorem dX1_copyFrom_38 : decode cX1_copyFrom 38 = .ok (.aload_n 1, 1) := by decide +kernel
theorem dX1_copyFrom_39 : decode cX1_copyFrom 39 = .ok (.getfield 22, 3) := by decide +kernel
theorem dX1_copyFrom_42 : decode cX1_copyFrom 42 = .ok (.iconst 0, 1) := by decide +kernel
theorem dX1_copyFrom_43 : decode cX1_copyFrom 43 = .ok (.aload_n 0, 1) := by decide +kernel
theorem dX1_copyFrom_44 : decode cX1_copyFrom 44 = .ok (.getfield 22, 3) := by decide +kernel
theorem dX1_copyFrom_47 : decode cX1_copyFrom 47 = .ok (.iconst 0, 1) := by decide +kernel
theorem dX1_copyFrom_48 : decode cX1_copyFrom 48 = .ok (.bipush 48, 2) := by decide +kernel
theorem dX1_copyFrom_50 : decode cX1_copyFrom 50 = .ok (.invokestatic 47, 3) := by decide +kernel
theorem dX1_copyFrom_53 : decode cX1_copyFrom 53 = .ok (.aload_n 1, 1) := by decide +kernel
theorem dX1_copyFrom_54 : decode cX1_copyFrom 54 = .ok (.getfield 25, 3) := by decide +kernel
theorem dX1_copyFrom_57 : decode cX1_copyFrom 57 = .ok (.iconst 0, 1) := by decide +kernel
theorem dX1_copyFrom_58 : decode cX1_copyFrom 58 = .ok (.aload_n 0, 1) := by decide +kernel
theorem dX1_copyFrom_59 : decode cX1_copyFrom 59 = .ok (.getfield 25, 3) := by decide +kernel
theorem dX1_copyFrom_62 : decode cX1_copyFrom 62 = .ok (.iconst 0, 1) := by decide +kernel
theorem dX1_copyFrom_63 : decode cX1_copyFrom 63 = .ok (.bipush 48, 2) := by decide +kernel
theorem dX1_copyFrom_65 : decode cX1_copyFrom 65 = .ok (.invokestatic 47, 3) := by decide +kernel
theorem dX1_copyFrom_68 : decode cX1_copyFrom 68 = .ok (.aload_n 1, 1) := by decide +kernel
theorem dX1_copyFrom_69 : decode cX1_copyFrom 69 = .ok (.getfield 28, 3) := by decide +kernel
theorem dX1_copyFrom_72 : decode cX1_copyFrom 72 = .ok (.iconst 0, 1) := by decide +kernel
theorem dX1_copyFrom_73 : decode cX1_copyFrom 73 = .ok (.aload_n 0, 1) := by decide +kernel
theorem dX1_copyFrom_74 : decode cX1_copyFrom 74 = .ok (.getfield 28, 3) := by decide +kernel
theorem dX1_copyFrom_77 : decode cX1_copyFrom 77 = .ok (.iconst 0, 1) := by decide +kernel
theorem dX1_copyFrom_78 : decode cX1_copyFrom 78 = .ok (.bipush 8, 2) := by decide +kernel
theorem dX1_copyFrom_80 : decode cX1_copyFrom 80 = .ok (.invokestatic 47, 3) := by decide +kernel
theorem dX1_copyFrom_83 : decode cX1_copyFrom 83 = .ok (.aload_n 1, 1) := by decide +kernel
theorem dX1_copyFrom_84 : decode cX1_copyFrom 84 = .ok (.getfield 31, 3) := by decide +kernel
theorem dX1_copyFrom_87 : decode cX1_copyFrom 87 = .ok (.iconst 0, 1) := by decide +kernel
theorem dX1_copyFrom_88 : decode cX1_copyFrom 88 = .ok (.aload_n 0, 1) := by decide +kernel
theorem dX1_copyFrom_89 : decode cX1_copyFrom 89 = .ok (.getfield 31, 3) := by decide +kernel
theorem dX1_copyFrom_92 : decode cX1_copyFrom 92 = .ok (.iconst 0, 1) := by decide +kernel
theorem dX1_copyFrom_93 : decode cX1_copyFrom 93 = .ok (.bipush 8, 2) := by decide +kernel
theorem dX1_copyFrom_95 : decode cX1_copyFrom 95 = .ok (.invokestatic 47, 3) := by decide +kernel
theorem dX1_copyFrom_98 : decode cX1_copyFrom 98 = .ok (.aload_n 1, 1) := by decide +kernel
theorem dX1_copyFrom_99 : decode cX1_copyFrom 99 = .ok (.getfield 34, 3) := by decide +kernel
theorem dX1_copyFrom_102 : decode cX1_copyFrom 102 = .ok (.iconst 0, 1) := by decide +kernel
theorem dX1_copyFrom_103 : decode cX1_copyFrom 103 = .ok (.aload_n 0, 1) := by decide +kernel
theorem dX1_copyFrom_104 : decode cX1_copyFrom 104 = .ok (.getfield 34, 3) := by decide +kernel
theorem dX1_copyFrom_107 : decode cX1_copyFrom 107 = .ok (.iconst 0, 1) := by decide +kernel
theorem dX1_copyFrom_108 : decode cX1_copyFrom 108 = .ok (.bipush 8, 2) := by decide +kernel
theorem dX1_copyFrom_110 : decode cX1_copyFrom 110 = .ok (.invokestatic 47, 3) := by decide +kernel
theorem dX1_copyFrom_113 : decode cX1_copyFrom 113 = .ok (.aload_n 1, 1) := by decide +kernel
theorem dX1_copyFrom_114 : decode cX1_copyFrom 114 = .ok (.getfield 37, 3) := by decide +kernel
theorem dX1_copyFrom_117 : decode cX1_copyFrom 117 = .ok (.iconst 0, 1) := by decide +kernel
theorem dX1_copyFrom_118 : decode cX1_copyFrom 118 = .ok (.aload_n 0, 1) := by decide +kernel
theorem dX1_copyFrom_119 : decode cX1_copyFrom 119 = .ok (.getfield 37, 3) := by decide +kernel
theorem dX1_copyFrom_122 : decode cX1_copyFrom 122 = .ok (.iconst 0, 1) := by decide +kernel
theorem dX1_copyFrom_123 : decode cX1_copyFrom 123 = .ok (.bipush 8, 2) := by decide +kernel
theorem dX1_copyFrom_125 : decode cX1_copyFrom 125 = .ok (.invokestatic 47, 3) := by decide +kernel
theorem dX1_copyFrom_128 : decode cX1_copyFrom 128 = .ok (.return_, 1) := by decide +kernel
theorem dX2_init_0 : decode cX2_init 0 = .ok (.aload_n 0, 1) := by decide +kernel
theorem dX2_init_1 : decode cX2_init 1 = .ok (.invokespecial 3, 3) := by decide +kernel
theorem dX2_init_4 : decode cX2_init 4 = .ok (.aload_n 0, 1) := by decide +kernel
theorem dX2_init_5 : decode cX2_init 5 = .ok (.iconst 0, 1) := by decide +kernel
theorem dX2_init_6 : decode cX2_init 6 = .ok (.putfield 9, 3) := by decide +kernel
theorem dX2_init_9 : decode cX2_init 9 = .ok (.aload_n 0, 1) := by decide +kernel
theorem dX2_init_10 : decode cX2_init 10 = .ok (.aload_n 1, 1) := by decide +kernel
theorem dX2_init_11 : decode cX2_init 11 = .ok (.putfield 15, 3) := by decide +kernel
theorem dX2_init_14 : decode cX2_init 14 = .ok (.aload_n 0, 1) := by decide +kernel
theorem dX2_init_15 : decode cX2_init 15 = .ok (.aload_n 2, 1) := by decide +kernel
theorem dX2_init_16 : decode cX2_init 16 = .ok (.putfield 19, 3) := by decide +kernel
theorem dX2_init_19 : decode cX2_init 19 = .ok (.return_, 1) := by decide +kernel
theorem dX2_readAll_0 : decode cX2_readAll 0 = .ok (.aload_n 0, 1) := by decide +kernel
theorem dX2_readAll_1 : decode cX2_readAll 1 = .ok (.iconst 0, 1) := by decide +kernel
theorem dX2_readAll_2 : decode cX2_readAll 2 = .ok (.putfield 9, 3) := by decide +kernel
theorem dX2_readAll_5 : decode cX2_readAll 5 = .ok (.aload_n 0, 1) := by decide +kernel
theorem dX2_readAll_6 : decode cX2_readAll 6 = .ok (.getfield 19, 3) := by decide +kernel
theorem dX2_readAll_9 : decode cX2_readAll 9 = .ok (.invokevirtual 23, 3) := by decide +kernel
theorem dX2_readAll_12 : decode cX2_readAll 12 = .ok (.aload_n 0, 1) := by decide +kernel
theorem dX2_readAll_13 : decode cX2_readAll 13 = .ok (.getfield 15, 3) := by decide +kernel
theorem dX2_readAll_16 : decode cX2_readAll 16 = .ok (.invokevirtual 28, 3) := by decide +kernel
theorem dX2_readAll_19 : decode cX2_readAll 19 = .ok (.iconst 0, 1) := by decide +kernel
theorem dX2_readAll_20 : decode cX2_readAll 20 = .ok (.istore_n 1, 1) := by decide +kernel
theorem dX2_readAll_21 : decode cX2_readAll 21 = .ok (.iload_n 1, 1) := by decide +kernel
theorem dX2_readAll_22 : decode cX2_readAll 22 = .ok (.bipush 120, 2) := by decide +kernel
theorem dX2_readAll_24 : decode cX2_readAll 24 = .ok (.if_icmp .ge 39, 3) := by decide +kernel
theorem dX2_readAll_27 : decode cX2_readAll 27 = .ok (.aload_n 0, 1) := by decide +kernel
theorem dX2_readAll_28 : decode cX2_readAll 28 = .ok (.getfield 15, 3) := by decide +kernel
theorem dX2_readAll_31 : decode cX2_readAll 31 = .ok (.getfield 33, 3) := by decide +kernel
theorem dX2_readAll_34 : decode cX2_readAll 34 = .ok (.iconst (-1), 1) := by decide +kernel
theorem dX2_readAll_35 : decode cX2_readAll 35 = .ok (.if_icmp .eq 28, 3) := by decide +kernel
theorem dX2_readAll_38 : decode cX2_readAll 38 = .ok (.aload_n 0, 1) := by decide +kernel
theorem dX2_readAll_39 : decode cX2_readAll 39 = .ok (.invokevirtual 36, 3) := by decide +kernel
theorem dX2_readAll_42 : decode cX2_readAll 42 = .ok (.ifCond .ne 5, 3) := by decide +kernel
theorem dX2_readAll_45 : decode cX2_readAll 45 = .ok (.iconst 0, 1) := by decide +kernel
theorem dX2_readAll_46 : decode cX2_readAll 46 = .ok (.ireturn, 1) := by decide +kernel
theorem dX2_readAll_47 : decode cX2_readAll 47 = .ok (.aload_n 0, 1) := by decide +kernel
theorem dX2_readAll_48 : decode cX2_readAll 48 = .ok (.dup, 1) := by decide +kernel
theorem dX2_readAll_49 : decode cX2_readAll 49 = .ok (.getfield 9, 3) := by decide +kernel
theorem dX2_readAll_52 : decode cX2_readAll 52 = .ok (.iconst 1, 1) := by decide +kernel
theorem dX2_readAll_53 : decode cX2_readAll 53 = .ok (.iadd, 1) := by decide +kernel
theorem dX2_readAll_54 : decode cX2_readAll 54 = .ok (.putfield 9, 3) := by decide +kernel
theorem dX2_readAll_57 : decode cX2_readAll 57 = .ok (.iinc 1 1, 3) := by decide +kernel
theorem dX2_readAll_60 : decode cX2_readAll 60 = .ok (.goto (-39), 3) := by decide +kernel
theorem dX2_readAll_63 : decode cX2_readAll 63 = .ok (.iconst 1, 1) := by decide +kernel
theorem dX2_readAll_64 : decode cX2_readAll 64 = .ok (.ireturn, 1) := by decide +kernel
theorem dX2_readItem_0 : decode cX2_readItem 0 = .ok (.aload_n 0, 1) := by decide +kernel
theorem dX2_readItem_1 : decode cX2_readItem 1 = .ok (.getfield 15, 3) := by decide +kernel
theorem dX2_readItem_4 : decode cX2_readItem 4 = .ok (.getfield 33, 3) := by decide +kernel
theorem dX2_readItem_7 : decode cX2_readItem 7 = .ok (.bipush 114, 2) := by decide +kernel
theorem dX2_readItem_9 : decode cX2_readItem 9 = .ok (.if_icmp .ne 7, 3) := by decide +kernel
theorem dX2_readItem_12 : decode cX2_readItem 12 = .ok (.iconst 1, 1) := by decide +kernel
theorem dX2_readItem_13 : decode cX2_readItem 13 = .ok (.goto 4, 3) := by decide +kernel
theorem dX2_readItem_16 : decode cX2_readItem 16 = .ok (.iconst 0, 1) := by decide +kernel
theorem dX2_readItem_17 : decode cX2_readItem 17 = .ok (.aload_n 0, 1) := by decide +kernel
theorem dX2_readItem_18 : decode cX2_readItem 18 = .ok (.getfield 9, 3) := by decide +kernel
theorem dX2_readItem_21 : decode cX2_readItem 21 = .ok (.ifCond .ne 7, 3) := by decide +kernel
theorem dX2_readItem_24 : decode cX2_readItem 24 = .ok (.iconst 1, 1) := by decide +kernel
theorem dX2_readItem_25 : decode cX2_readItem 25 = .ok (.goto 4, 3) := by decide +kernel
theorem dX2_readItem_28 : decode cX2_readItem 28 = .ok (.iconst 0, 1) := by decide +kernel
theorem dX2_readItem_29 : decode cX2_readItem 29 = .ok (.if_icmp .eq 5, 3) := by decide +kernel
theorem dX2_readItem_32 : decode cX2_readItem 32 = .ok (.iconst 0, 1) := by decide +kernel
theorem dX2_readItem_33 : decode cX2_readItem 33 = .ok (.ireturn, 1) := by decide +kernel
theorem dX2_readItem_34 : decode cX2_readItem 34 = .ok (.aload_n 0, 1) := by decide +kernel
theorem dX2_readItem_35 : decode cX2_readItem 35 = .ok (.getfield 15, 3) := by decide +kernel
theorem dX2_readItem_38 : decode cX2_readItem 38 = .ok (.getfield 33, 3) := by decide +kernel
theorem dX2_readItem_41 : decode cX2_readItem 41 = .ok (.tableswitch 146 99 116 #[127, 97, 146, 146, 141, 146, 146, 146, 146, 146, 146, 146, 146, 146, 146, 87, 112, 92], 87) := by decide +kernel
theorem dX2_readItem_128 : decode cX2_readItem 128 = .ok (.aload_n 0, 1) := by decide +kernel
theorem dX2_readItem_129 : decode cX2_readItem 129 = .ok (.invokevirtual 40, 3) := by decide +kernel
theorem dX2_readItem_132 : decode cX2_readItem 132 = .ok (.ireturn, 1) := by decide +kernel
theorem dX2_readItem_133 : decode cX2_readItem 133 = .ok (.aload_n 0, 1) := by decide +kernel
theorem dX2_readItem_134 : decode cX2_readItem 134 = .ok (.invokevirtual 43, 3) := by decide +kernel
theorem dX2_readItem_137 : decode cX2_readItem 137 = .ok (.ireturn, 1) := by decide +kernel
theorem dX2_readItem_138 : decode cX2_readItem 138 = .ok (.aload_n 0, 1) := by decide +kernel
theorem dX2_readItem_139 : decode cX2_readItem 139 = .ok (.aload_n 0, 1) := by decide +kernel
theorem dX2_readItem_140 : decode cX2_readItem 140 = .ok (.getfield 19, 3) := by decide +kernel
theorem dX2_readItem_143 : decode cX2_readItem 143 = .ok (.getfield 46, 3) := by decide +kernel
theorem dX2_readItem_146 : decode cX2_readItem 146 = .ok (.iconst 1, 1) := by decide +kernel
theorem dX2_readItem_147 : decode cX2_readItem 147 = .ok (.bipush 60, 2) := by decide +kernel
theorem dX2_readItem_149 : decode cX2_readItem 149 = .ok (.invokevirtual 50, 3) := by decide +kernel
theorem dX2_readItem_152 : decode cX2_readItem 152 = .ok (.ireturn, 1) := by decide +kernel
theorem dX2_readItem_153 : decode cX2_readItem 153 = .ok (.aload_n 0, 1) := by decide +kernel
theorem dX2_readItem_154 : decode cX2_readItem 154 = .ok (.aload_n 0, 1) := by decide +kernel
theorem dX2_readItem_155 : decode cX2_readItem 155 = .ok (.getfield 19, 3) := by decide +kernel
theorem dX2_readItem_158 : decode cX2_readItem 158 = .ok (.getfield 54, 3) := by decide +kernel
theorem dX2_readItem_161 : decode cX2_readItem 161 = .ok (.iconst 0, 1) := by decide +kernel
theorem dX2_readItem_162 : decode cX2_readItem 162 = .ok (.bipush 6, 2) := by decide +kernel
theorem dX2_readItem_164 : decode cX2_readItem 164 = .ok (.invokevirtual 50, 3) := by decide +kernel
theorem dX2_readItem_167 : decode cX2_readItem 167 = .ok (.ireturn, 1) := by decide +kernel
theorem dX2_readItem_168 : decode cX2_readItem 168 = .ok (.aload_n 0, 1) := by decide +kernel
theorem dX2_readItem_169 : decode cX2_readItem 169 = .ok (.aload_n 0, 1) := by decide +kernel
theorem dX2_readItem_170 : decode cX2_readItem 170 = .ok (.getfield 19, 3) := by decide +kernel
theorem dX2_readItem_173 : decode cX2_readItem 173 = .ok (.getfield 57, 3) := by decide +kernel
theorem dX2_readItem_176 : decode cX2_readItem 176 = .ok (.iconst 0, 1) := by decide +kernel
theorem dX2_readItem_177 : decode cX2_readItem 177 = .ok (.iconst 5, 1) := by decide +kernel
theorem dX2_readItem_178 : decode cX2_readItem 178 = .ok (.invokevirtual 50, 3) := by decide +kernel
theorem dX2_readItem_181 : decode cX2_readItem 181 = .ok (.ireturn, 1) := by decide +kernel
theorem dX2_readItem_182 : decode cX2_readItem 182 = .ok (.aload_n 0, 1) := by decide +kernel
theorem dX2_readItem_183 : decode cX2_readItem 183 = .ok (.invokevirtual 60, 3) := by decide +kernel
theorem dX2_readItem_186 : decode cX2_readItem 186 = .ok (.ireturn, 1) := by decide +kernel
theorem dX2_readItem_187 : decode cX2_readItem 187 = .ok (.iconst 0, 1) := by decide +kernel
theorem dX2_readItem_188 : decode cX2_readItem 188 = .ok (.ireturn, 1) := by decide +kernel
theorem dX2_readRoot_0 : decode cX2_readRoot 0 = .ok (.aload_n 0, 1) := by decide +kernel
theorem dX2_readRoot_1 : decode cX2_readRoot 1 = .ok (.getfield 15, 3) := by decide +kernel
theorem dX2_readRoot_4 : decode cX2_readRoot 4 = .ok (.invokevirtual 63, 3) := by decide +kernel
theorem dX2_readRoot_7 : decode cX2_readRoot 7 = .ok (.aload_n 0, 1) := by decide +kernel
theorem dX2_readRoot_8 : decode cX2_readRoot 8 = .ok (.iconst 0, 1) := by decide +kernel
theorem dX2_readRoot_9 : decode cX2_readRoot 9 = .ok (.invokevirtual 66, 3) := by decide +kernel
theorem dX2_readRoot_12 : decode cX2_readRoot 12 = .ok (.ireturn, 1) := by decide +kernel
theorem dX2_readTask_0 : decode cX2_readTask 0 = .ok (.aload_n 0, 1) := by decide +kernel
theorem dX2_readTask_1 : decode cX2_readTask 1 = .ok (.getfield 19, 3) := by decide +kernel
theorem dX2_readTask_4 : decode cX2_readTask 4 = .ok (.getfield 70, 3) := by decide +kernel
theorem dX2_readTask_7 : decode cX2_readTask 7 = .ok (.bipush 8, 2) := by decide +kernel
theorem dX2_readTask_9 : decode cX2_readTask 9 = .ok (.if_icmp .lt 5, 3) := by decide +kernel
theorem dX2_readTask_12 : decode cX2_readTask 12 = .ok (.iconst 0, 1) := by decide +kernel
theorem dX2_readTask_13 : decode cX2_readTask 13 = .ok (.ireturn, 1) := by decide +kernel
theorem dX2_readTask_14 : decode cX2_readTask 14 = .ok (.aload_n 0, 1) := by decide +kernel
theorem dX2_readTask_15 : decode cX2_readTask 15 = .ok (.getfield 15, 3) := by decide +kernel
theorem dX2_readTask_18 : decode cX2_readTask 18 = .ok (.invokevirtual 63, 3) := by decide +kernel
theorem dX2_readTask_21 : decode cX2_readTask 21 = .ok (.aload_n 0, 1) := by decide +kernel
theorem dX2_readTask_22 : decode cX2_readTask 22 = .ok (.invokevirtual 73, 3) := by decide +kernel
theorem dX2_readTask_25 : decode cX2_readTask 25 = .ok (.ifCond .ne 5, 3) := by decide +kernel
theorem dX2_readTask_28 : decode cX2_readTask 28 = .ok (.iconst 0, 1) := by decide +kernel
theorem dX2_readTask_29 : decode cX2_readTask 29 = .ok (.ireturn, 1) := by decide +kernel
theorem dX2_readTask_30 : decode cX2_readTask 30 = .ok (.aload_n 0, 1) := by decide +kernel
theorem dX2_readTask_31 : decode cX2_readTask 31 = .ok (.getfield 19, 3) := by decide +kernel
theorem dX2_readTask_34 : decode cX2_readTask 34 = .ok (.aload_n 0, 1) := by decide +kernel
theorem dX2_readTask_35 : decode cX2_readTask 35 = .ok (.getfield 15, 3) := by decide +kernel
theorem dX2_readTask_38 : decode cX2_readTask 38 = .ok (.getfield 76, 3) := by decide +kernel
theorem dX2_readTask_41 : decode cX2_readTask 41 = .ok (.invokevirtual 79, 3) := by decide +kernel
theorem dX2_readTask_44 : decode cX2_readTask 44 = .ok (.istore_n 1, 1) := by decide +kernel
theorem dX2_readTask_45 : decode cX2_readTask 45 = .ok (.aload_n 0, 1) := by decide +kernel
theorem dX2_readTask_46 : decode cX2_readTask 46 = .ok (.getfield 15, 3) := by decide +kernel
theorem dX2_readTask_49 : decode cX2_readTask 49 = .ok (.invokevirtual 63, 3) := by decide +kernel
theorem dX2_readTask_52 : decode cX2_readTask 52 = .ok (.aload_n 0, 1) := by decide +kernel
theorem dX2_readTask_53 : decode cX2_readTask 53 = .ok (.iload_n 1, 1) := by decide +kernel
theorem dX2_readTask_54 : decode cX2_readTask 54 = .ok (.invokevirtual 66, 3) := by decide +kernel
theorem dX2_readTask_57 : decode cX2_readTask 57 = .ok (.ireturn, 1) := by decide +kernel
theorem dX2_readSetting_0 : decode cX2_readSetting 0 = .ok (.aload_n 0, 1) := by decide +kernel
theorem dX2_readSetting_1 : decode cX2_readSetting 1 = .ok (.getfield 15, 3) := by decide +kernel
theorem dX2_readSetting_4 : decode cX2_readSetting 4 = .ok (.invokevirtual 63, 3) := by decide +kernel
theorem dX2_readSetting_7 : decode cX2_readSetting 7 = .ok (.aload_n 0, 1) := by decide +kernel
theorem dX2_readSetting_8 : decode cX2_readSetting 8 = .ok (.invokevirtual 73, 3) := by decide +kernel
theorem dX2_readSetting_11 : decode cX2_readSetting 11 = .ok (.ifCond .ne 5, 3) := by decide +kernel
theorem dX2_readSetting_14 : decode cX2_readSetting 14 = .ok (.iconst 0, 1) := by decide +kernel
theorem dX2_readSetting_15 : decode cX2_readSetting 15 = .ok (.ireturn, 1) := by decide +kernel
theorem dX2_readSetting_16 : decode cX2_readSetting 16 = .ok (.aload_n 0, 1) := by decide +kernel
theorem dX2_readSetting_17 : decode cX2_readSetting 17 = .ok (.getfield 15, 3) := by decide +kernel
theorem dX2_readSetting_20 : decode cX2_readSetting 20 = .ok (.getfield 76, 3) := by decide +kernel
theorem dX2_readSetting_23 : decode cX2_readSetting 23 = .ok (.istore 4, 2) := by decide +kernel
theorem dX2_readSetting_25 : decode cX2_readSetting 25 = .ok (.aload_n 0, 1) := by decide +kernel
theorem dX2_readSetting_26 : decode cX2_readSetting 26 = .ok (.getfield 15, 3) := by decide +kernel
theorem dX2_readSetting_29 : decode cX2_readSetting 29 = .ok (.invokevirtual 63, 3) := by decide +kernel
theorem dX2_readSetting_32 : decode cX2_readSetting 32 = .ok (.aload_n 0, 1) := by decide +kernel
theorem dX2_readSetting_33 : decode cX2_readSetting 33 = .ok (.getfield 15, 3) := by decide +kernel
theorem dX2_readSetting_36 : decode cX2_readSetting 36 = .ok (.iload_n 2, 1) := by decide +kernel
theorem dX2_readSetting_37 : decode cX2_readSetting 37 = .ok (.iload_n 3, 1) := by decide +kernel
theorem dX2_readSetting_38 : decode cX2_readSetting 38 = .ok (.invokevirtual 83, 3) := by decide +kernel
theorem dX2_readSetting_41 : decode cX2_readSetting 41 = .ok (.ifCond .ne 5, 3) := by decide +kernel
theorem dX2_readSetting_44 : decode cX2_readSetting 44 = .ok (.iconst 0, 1) := by decide +kernel
theorem dX2_readSetting_45 : decode cX2_readSetting 45 = .ok (.ireturn, 1) := by decide +kernel
theorem dX2_readSetting_46 : decode cX2_readSetting 46 = .ok (.aload_n 1, 1) := by decide +kernel
theorem dX2_readSetting_47 : decode cX2_readSetting 47 = .ok (.iload 4, 2) := by decide +kernel
theorem dX2_readSetting_49 : decode cX2_readSetting 49 = .ok (.aload_n 0, 1) := by decide +kernel
theorem dX2_readSetting_50 : decode cX2_readSetting 50 = .ok (.getfield 15, 3) := by decide +kernel
theorem dX2_readSetting_53 : decode cX2_readSetting 53 = .ok (.getfield 76, 3) := by decide +kernel
theorem dX2_readSetting_56 : decode cX2_readSetting 56 = .ok (.iastore, 1) := by decide +kernel
theorem dX2_readSetting_57 : decode cX2_readSetting 57 = .ok (.aload_n 0, 1) := by decide +kernel
theorem dX2_readSetting_58 : decode cX2_readSetting 58 = .ok (.getfield 15, 3) := by decide +kernel
theorem dX2_readSetting_61 : decode cX2_readSetting 61 = .ok (.invokevirtual 63, 3) := by decide +kernel
theorem dX2_readSetting_64 : decode cX2_readSetting 64 = .ok (.aload_n 0, 1) := by decide +kernel
theorem dX2_readSetting_65 : decode cX2_readSetting 65 = .ok (.invokevirtual 87, 3) := by decide +kernel
theorem dX2_readSetting_68 : decode cX2_readSetting 68 = .ok (.ireturn, 1) := by decide +kernel
theorem dX2_readGathers_0 : decode cX2_readGathers 0 = .ok (.aload_n 0, 1) := by decide +kernel
theorem dX2_readGathers_1 : decode cX2_readGathers 1 = .ok (.getfield 15, 3) := by decide +kernel
theorem dX2_readGathers_4 : decode cX2_readGathers 4 = .ok (.invokevirtual 63, 3) := by decide +kernel
theorem dX2_readGathers_7 : decode cX2_readGathers 7 = .ok (.aload_n 0, 1) := by decide +kernel
theorem dX2_readGathers_8 : decode cX2_readGathers 8 = .ok (.invokevirtual 73, 3) := by decide +kernel
theorem dX2_readGathers_11 : decode cX2_readGathers 11 = .ok (.ifCond .eq 22, 3) := by decide +kernel
theorem dX2_readGathers_14 : decode cX2_readGathers 14 = .ok (.aload_n 0, 1) := by decide +kernel
theorem dX2_readGathers_15 : decode cX2_readGathers 15 = .ok (.getfield 19, 3) := by decide +kernel
theorem dX2_readGathers_18 : decode cX2_readGathers 18 = .ok (.getfield 90, 3) := by decide +kernel
theorem dX2_readGathers_21 : decode cX2_readGathers 21 = .ok (.aload_n 0, 1) := by decide +kernel
theorem dX2_readGathers_22 : decode cX2_readGathers 22 = .ok (.getfield 15, 3) := by decide +kernel
theorem dX2_readGathers_25 : decode cX2_readGathers 25 = .ok (.getfield 76, 3) := by decide +kernel
theorem dX2_readGathers_28 : decode cX2_readGathers 28 = .ok (.iaload, 1) := by decide +kernel
theorem dX2_readGathers_29 : decode cX2_readGathers 29 = .ok (.iconst 1, 1) := by decide +kernel
theorem dX2_readGathers_30 : decode cX2_readGathers 30 = .ok (.if_icmp .ne 5, 3) := by decide +kernel
theorem dX2_readGathers_33 : decode cX2_readGathers 33 = .ok (.iconst 0, 1) := by decide +kernel
theorem dX2_readGathers_34 : decode cX2_readGathers 34 = .ok (.ireturn, 1) := by decide +kernel
theorem dX2_readGathers_35 : decode cX2_readGathers 35 = .ok (.aload_n 0, 1) := by decide +kernel
theorem dX2_readGathers_36 : decode cX2_readGathers 36 = .ok (.getfield 19, 3) := by decide +kernel
theorem dX2_readGathers_39 : decode cX2_readGathers 39 = .ok (.getfield 90, 3) := by decide +kernel
theorem dX2_readGathers_42 : decode cX2_readGathers 42 = .ok (.aload_n 0, 1) := by decide +kernel
theorem dX2_readGathers_43 : decode cX2_readGathers 43 = .ok (.getfield 15, 3) := by decide +kernel
theorem dX2_readGathers_46 : decode cX2_readGathers 46 = .ok (.getfield 76, 3) := by decide +kernel
theorem dX2_readGathers_49 : decode cX2_readGathers 49 = .ok (.iconst 1, 1) := by decide +kernel
theorem dX2_readGathers_50 : decode cX2_readGathers 50 = .ok (.iastore, 1) := by decide +kernel
theorem dX2_readGathers_51 : decode cX2_readGathers 51 = .ok (.aload_n 0, 1) := by decide +kernel
theorem dX2_readGathers_52 : decode cX2_readGathers 52 = .ok (.getfield 15, 3) := by decide +kernel
theorem dX2_readGathers_55 : decode cX2_readGathers 55 = .ok (.invokevirtual 63, 3) := by decide +kernel
theorem dX2_readGathers_58 : decode cX2_readGathers 58 = .ok (.aload_n 0, 1) := by decide +kernel
theorem dX2_readGathers_59 : decode cX2_readGathers 59 = .ok (.invokevirtual 87, 3) := by decide +kernel
theorem dX2_readGathers_62 : decode cX2_readGathers 62 = .ok (.ireturn, 1) := by decide +kernel
theorem dX2_readOperations_0 : decode cX2_readOperations 0 = .ok (.iconst 0, 1) := by decide +kernel
theorem dX2_readOperations_1 : decode cX2_readOperations 1 = .ok (.istore_n 2, 1) := by decide +kernel
theorem dX2_readOperations_2 : decode cX2_readOperations 2 = .ok (.iload_n 2, 1) := by decide +kernel
theorem dX2_readOperations_3 : decode cX2_readOperations 3 = .ok (.bipush 6, 2) := by decide +kernel
theorem dX2_readOperations_5 : decode cX2_readOperations 5 = .ok (.if_icmp .ge 31, 3) := by decide +kernel
theorem dX2_readOperations_8 : decode cX2_readOperations 8 = .ok (.aload_n 0, 1) := by decide +kernel
theorem dX2_readOperations_9 : decode cX2_readOperations 9 = .ok (.getfield 15, 3) := by decide +kernel
theorem dX2_readOperations_12 : decode cX2_readOperations 12 = .ok (.getfield 33, 3) := by decide +kernel
theorem dX2_readOperations_15 : decode cX2_readOperations 15 = .ok (.bipush 59, 2) := by decide +kernel
theorem dX2_readOperations_17 : decode cX2_readOperations 17 = .ok (.if_icmp .eq 19, 3) := by decide +kernel
theorem dX2_readOperations_20 : decode cX2_readOperations 20 = .ok (.aload_n 0, 1) := by decide +kernel
theorem dX2_readOperations_21 : decode cX2_readOperations 21 = .ok (.iload_n 1, 1) := by decide +kernel
theorem dX2_readOperations_22 : decode cX2_readOperations 22 = .ok (.invokevirtual 93, 3) := by decide +kernel
theorem dX2_readOperations_25 : decode cX2_readOperations 25 = .ok (.ifCond .ne 5, 3) := by decide +kernel
theorem dX2_readOperations_28 : decode cX2_readOperations 28 = .ok (.iconst 0, 1) := by decide +kernel
theorem dX2_readOperations_29 : decode cX2_readOperations 29 = .ok (.ireturn, 1) := by decide +kernel
theorem dX2_readOperations_30 : decode cX2_readOperations 30 = .ok (.iinc 2 1, 3) := by decide +kernel
theorem dX2_readOperations_33 : decode cX2_readOperations 33 = .ok (.goto (-31), 3) := by decide +kernel
theorem dX2_readOperations_36 : decode cX2_readOperations 36 = .ok (.aload_n 0, 1) := by decide +kernel
theorem dX2_readOperations_37 : decode cX2_readOperations 37 = .ok (.invokevirtual 87, 3) := by decide +kernel
theorem dX2_readOperations_40 : decode cX2_readOperations 40 = .ok (.ireturn, 1) := by decide +kernel
theorem dX2_readOperation_0 : decode cX2_readOperation 0 = .ok (.aload_n 0, 1) := by decide +kernel
theorem dX2_readOperation_1 : decode cX2_readOperation 1 = .ok (.getfield 15, 3) := by decide +kernel
theorem dX2_readOperation_4 : decode cX2_readOperation 4 = .ok (.getfield 33, 3) := by decide +kernel
theorem dX2_readOperation_7 : decode cX2_readOperation 7 = .ok (.istore_n 2, 1) := by decide +kernel
theorem dX2_readOperation_8 : decode cX2_readOperation 8 = .ok (.iconst 0, 1) := by decide +kernel
theorem dX2_readOperation_9 : decode cX2_readOperation 9 = .ok (.istore_n 3, 1) := by decide +kernel
theorem dX2_readOperation_10 : decode cX2_readOperation 10 = .ok (.iload_n 2, 1) := by decide +kernel
theorem dX2_readOperation_11 : decode cX2_readOperation 11 = .ok (.bipush 119, 2) := by decide +kernel
theorem dX2_readOperation_13 : decode cX2_readOperation 13 = .ok (.if_icmp .eq 9, 3) := by decide +kernel
theorem dX2_readOperation_16 : decode cX2_readOperation 16 = .ok (.iload_n 2, 1) := by decide +kernel
theorem dX2_readOperation_17 : decode cX2_readOperation 17 = .ok (.bipush 102, 2) := by decide +kernel
theorem dX2_readOperation_19 : decode cX2_readOperation 19 = .ok (.if_icmp .ne 36, 3) := by decide +kernel
theorem dX2_readOperation_22 : decode cX2_readOperation 22 = .ok (.aload_n 0, 1) := by decide +kernel
theorem dX2_readOperation_23 : decode cX2_readOperation 23 = .ok (.getfield 15, 3) := by decide +kernel
theorem dX2_readOperation_26 : decode cX2_readOperation 26 = .ok (.invokevirtual 63, 3) := by decide +kernel
theorem dX2_readOperation_29 : decode cX2_readOperation 29 = .ok (.aload_n 0, 1) := by decide +kernel
theorem dX2_readOperation_30 : decode cX2_readOperation 30 = .ok (.getfield 15, 3) := by decide +kernel
theorem dX2_readOperation_33 : decode cX2_readOperation 33 = .ok (.iconst 1, 1) := by decide +kernel
theorem dX2_readOperation_34 : decode cX2_readOperation 34 = .ok (.bipush 9, 2) := by decide +kernel
theorem dX2_readOperation_36 : decode cX2_readOperation 36 = .ok (.invokevirtual 83, 3) := by decide +kernel
theorem dX2_readOperation_39 : decode cX2_readOperation 39 = .ok (.ifCond .ne 5, 3) := by decide +kernel
theorem dX2_readOperation_42 : decode cX2_readOperation 42 = .ok (.iconst 0, 1) := by decide +kernel
theorem dX2_readOperation_43 : decode cX2_readOperation 43 = .ok (.ireturn, 1) := by decide +kernel
theorem dX2_readOperation_44 : decode cX2_readOperation 44 = .ok (.aload_n 0, 1) := by decide +kernel
theorem dX2_readOperation_45 : decode cX2_readOperation 45 = .ok (.getfield 15, 3) := by decide +kernel
theorem dX2_readOperation_48 : decode cX2_readOperation 48 = .ok (.getfield 76, 3) := by decide +kernel
theorem dX2_readOperation_51 : decode cX2_readOperation 51 = .ok (.istore_n 3, 1) := by decide +kernel
theorem dX2_readOperation_52 : decode cX2_readOperation 52 = .ok (.goto 23, 3) := by decide +kernel
theorem dX2_readOperation_55 : decode cX2_readOperation 55 = .ok (.iload_n 2, 1) := by decide +kernel
theorem dX2_readOperation_56 : decode cX2_readOperation 56 = .ok (.bipush 98, 2) := by decide +kernel
theorem dX2_readOperation_58 : decode cX2_readOperation 58 = .ok (.if_icmp .eq 17, 3) := by decide +kernel
theorem dX2_readOperation_61 : decode cX2_readOperation 61 = .ok (.iload_n 2, 1) := by decide +kernel
theorem dX2_readOperation_62 : decode cX2_readOperation 62 = .ok (.bipush 106, 2) := by decide +kernel
theorem dX2_readOperation_64 : decode cX2_readOperation 64 = .ok (.if_icmp .eq 11, 3) := by decide +kernel
theorem dX2_readOperation_67 : decode cX2_readOperation 67 = .ok (.iload_n 2, 1) := by decide +kernel
theorem dX2_readOperation_68 : decode cX2_readOperation 68 = .ok (.bipush 120, 2) := by decide +kernel
theorem dX2_readOperation_70 : decode cX2_readOperation 70 = .ok (.if_icmp .eq 5, 3) := by decide +kernel
theorem dX2_readOperation_73 : decode cX2_readOperation 73 = .ok (.iconst 0, 1) := by decide +kernel
theorem dX2_readOperation_74 : decode cX2_readOperation 74 = .ok (.ireturn, 1) := by decide +kernel
theorem dX2_readOperation_75 : decode cX2_readOperation 75 = .ok (.aload_n 0, 1) := by decide +kernel
theorem dX2_readOperation_76 : decode cX2_readOperation 76 = .ok (.getfield 15, 3) := by decide +kernel
theorem dX2_readOperation_79 : decode cX2_readOperation 79 = .ok (.invokevirtual 63, 3) := by decide +kernel
theorem dX2_readOperation_82 : decode cX2_readOperation 82 = .ok (.aload_n 0, 1) := by decide +kernel
theorem dX2_readOperation_83 : decode cX2_readOperation 83 = .ok (.getfield 19, 3) := by decide +kernel
theorem dX2_readOperation_86 : decode cX2_readOperation 86 = .ok (.iload_n 1, 1) := by decide +kernel
theorem dX2_readOperation_87 : decode cX2_readOperation 87 = .ok (.iload_n 2, 1) := by decide +kernel
theorem dX2_readOperation_88 : decode cX2_readOperation 88 = .ok (.iload_n 3, 1) := by decide +kernel
theorem dX2_readOperation_89 : decode cX2_readOperation 89 = .ok (.invokevirtual 96, 3) := by decide +kernel
theorem dX2_readOperation_92 : decode cX2_readOperation 92 = .ok (.ireturn, 1) := by decide +kernel
theorem dX2_readEnd_0 : decode cX2_readEnd 0 = .ok (.aload_n 0, 1) := by decide +kernel
theorem dX2_readEnd_1 : decode cX2_readEnd 1 = .ok (.getfield 15, 3) := by decide +kernel
theorem dX2_readEnd_4 : decode cX2_readEnd 4 = .ok (.getfield 33, 3) := by decide +kernel
theorem dX2_readEnd_7 : decode cX2_readEnd 7 = .ok (.bipush 59, 2) := by decide +kernel
theorem dX2_readEnd_9 : decode cX2_readEnd 9 = .ok (.if_icmp .eq 5, 3) := by decide +kernel
theorem dX2_readEnd_12 : decode cX2_readEnd 12 = .ok (.iconst 0, 1) := by decide +kernel
theorem dX2_readEnd_13 : decode cX2_readEnd 13 = .ok (.ireturn, 1) := by decide +kernel
theorem dX2_readEnd_14 : decode cX2_readEnd 14 = .ok (.aload_n 0, 1) := by decide +kernel
theorem dX2_readEnd_15 : decode cX2_readEnd 15 = .ok (.getfield 15, 3) := by decide +kernel
theorem dX2_readEnd_18 : decode cX2_readEnd 18 = .ok (.invokevirtual 63, 3) := by decide +kernel
theorem dX2_readEnd_21 : decode cX2_readEnd 21 = .ok (.iconst 1, 1) := by decide +kernel
theorem dX2_readEnd_22 : decode cX2_readEnd 22 = .ok (.ireturn, 1) := by decide +kernel
theorem dX2_isTaskTold_0 : decode cX2_isTaskTold 0 = .ok (.aload_n 0, 1) := by decide +kernel
theorem dX2_isTaskTold_1 : decode cX2_isTaskTold 1 = .ok (.getfield 15, 3) := by decide +kernel
theorem dX2_isTaskTold_4 : decode cX2_isTaskTold 4 = .ok (.iconst 0, 1) := by decide +kernel
theorem dX2_isTaskTold_5 : decode cX2_isTaskTold 5 = .ok (.aload_n 0, 1) := by decide +kernel
theorem dX2_isTaskTold_6 : decode cX2_isTaskTold 6 = .ok (.getfield 19, 3) := by decide +kernel
theorem dX2_isTaskTold_9 : decode cX2_isTaskTold 9 = .ok (.getfield 70, 3) := by decide +kernel
theorem dX2_isTaskTold_12 : decode cX2_isTaskTold 12 = .ok (.iconst 1, 1) := by decide +kernel
theorem dX2_isTaskTold_13 : decode cX2_isTaskTold 13 = .ok (.isub, 1) := by decide +kernel
theorem dX2_isTaskTold_14 : decode cX2_isTaskTold 14 = .ok (.invokevirtual 83, 3) := by decide +kernel
theorem dX2_isTaskTold_17 : decode cX2_isTaskTold 17 = .ok (.ireturn, 1) := by decide +kernel
theorem dX3_init_0 : decode cX3_init 0 = .ok (.aload_n 0, 1) := by decide +kernel
theorem dX3_init_1 : decode cX3_init 1 = .ok (.invokespecial 3, 3) := by decide +kernel
theorem dX3_init_4 : decode cX3_init 4 = .ok (.aload_n 0, 1) := by decide +kernel
theorem dX3_init_5 : decode cX3_init 5 = .ok (.iconst 0, 1) := by decide +kernel
theorem dX3_init_6 : decode cX3_init 6 = .ok (.putfield 9, 3) := by decide +kernel
theorem dX3_init_9 : decode cX3_init 9 = .ok (.aload_n 0, 1) := by decide +kernel
theorem dX3_init_10 : decode cX3_init 10 = .ok (.bipush 8, 2) := by decide +kernel
theorem dX3_init_12 : decode cX3_init 12 = .ok (.newarray .int, 2) := by decide +kernel
theorem dX3_init_14 : decode cX3_init 14 = .ok (.putfield 15, 3) := by decide +kernel
theorem dX3_init_17 : decode cX3_init 17 = .ok (.aload_n 0, 1) := by decide +kernel
theorem dX3_init_18 : decode cX3_init 18 = .ok (.bipush 8, 2) := by decide +kernel
theorem dX3_init_20 : decode cX3_init 20 = .ok (.newarray .int, 2) := by decide +kernel
theorem dX3_init_22 : decode cX3_init 22 = .ok (.putfield 19, 3) := by decide +kernel
theorem dX3_init_25 : decode cX3_init 25 = .ok (.aload_n 0, 1) := by decide +kernel
theorem dX3_init_26 : decode cX3_init 26 = .ok (.bipush 8, 2) := by decide +kernel
theorem dX3_init_28 : decode cX3_init 28 = .ok (.newarray .int, 2) := by decide +kernel
theorem dX3_init_30 : decode cX3_init 30 = .ok (.putfield 22, 3) := by decide +kernel
theorem dX3_init_33 : decode cX3_init 33 = .ok (.aload_n 0, 1) := by decide +kernel
theorem dX3_init_34 : decode cX3_init 34 = .ok (.bipush 8, 2) := by decide +kernel
theorem dX3_init_36 : decode cX3_init 36 = .ok (.newarray .int, 2) := by decide +kernel
theorem dX3_init_38 : decode cX3_init 38 = .ok (.putfield 25, 3) := by decide +kernel
theorem dX3_init_41 : decode cX3_init 41 = .ok (.aload_n 0, 1) := by decide +kernel
theorem dX3_init_42 : decode cX3_init 42 = .ok (.bipush 8, 2) := by decide +kernel
theorem dX3_init_44 : decode cX3_init 44 = .ok (.newarray .int, 2) := by decide +kernel
theorem dX3_init_46 : decode cX3_init 46 = .ok (.putfield 28, 3) := by decide +kernel
theorem dX3_init_49 : decode cX3_init 49 = .ok (.aload_n 0, 1) := by decide +kernel
theorem dX3_init_50 : decode cX3_init 50 = .ok (.bipush 8, 2) := by decide +kernel
theorem dX3_init_52 : decode cX3_init 52 = .ok (.newarray .int, 2) := by decide +kernel
theorem dX3_init_54 : decode cX3_init 54 = .ok (.putfield 31, 3) := by decide +kernel
theorem dX3_init_57 : decode cX3_init 57 = .ok (.aload_n 0, 1) := by decide +kernel
theorem dX3_init_58 : decode cX3_init 58 = .ok (.bipush 8, 2) := by decide +kernel
theorem dX3_init_60 : decode cX3_init 60 = .ok (.newarray .int, 2) := by decide +kernel
theorem dX3_init_62 : decode cX3_init 62 = .ok (.putfield 34, 3) := by decide +kernel
theorem dX3_init_65 : decode cX3_init 65 = .ok (.aload_n 0, 1) := by decide +kernel
theorem dX3_init_66 : decode cX3_init 66 = .ok (.bipush 8, 2) := by decide +kernel
theorem dX3_init_68 : decode cX3_init 68 = .ok (.newarray .int, 2) := by decide +kernel
theorem dX3_init_70 : decode cX3_init 70 = .ok (.putfield 37, 3) := by decide +kernel
theorem dX3_init_73 : decode cX3_init 73 = .ok (.aload_n 0, 1) := by decide +kernel
theorem dX3_init_74 : decode cX3_init 74 = .ok (.bipush 8, 2) := by decide +kernel
theorem dX3_init_76 : decode cX3_init 76 = .ok (.newarray .int, 2) := by decide +kernel
theorem dX3_init_78 : decode cX3_init 78 = .ok (.putfield 40, 3) := by decide +kernel
theorem dX3_init_81 : decode cX3_init 81 = .ok (.aload_n 0, 1) := by decide +kernel
theorem dX3_init_82 : decode cX3_init 82 = .ok (.bipush 8, 2) := by decide +kernel
theorem dX3_init_84 : decode cX3_init 84 = .ok (.newarray .int, 2) := by decide +kernel
theorem dX3_init_86 : decode cX3_init 86 = .ok (.putfield 43, 3) := by decide +kernel
theorem dX3_init_89 : decode cX3_init 89 = .ok (.aload_n 0, 1) := by decide +kernel
theorem dX3_init_90 : decode cX3_init 90 = .ok (.bipush 64, 2) := by decide +kernel
theorem dX3_init_92 : decode cX3_init 92 = .ok (.newarray .int, 2) := by decide +kernel
theorem dX3_init_94 : decode cX3_init 94 = .ok (.putfield 46, 3) := by decide +kernel
theorem dX3_init_97 : decode cX3_init 97 = .ok (.aload_n 0, 1) := by decide +kernel
theorem dX3_init_98 : decode cX3_init 98 = .ok (.iconst 0, 1) := by decide +kernel
theorem dX3_init_99 : decode cX3_init 99 = .ok (.putfield 49, 3) := by decide +kernel
theorem dX3_init_102 : decode cX3_init 102 = .ok (.aload_n 0, 1) := by decide +kernel
theorem dX3_init_103 : decode cX3_init 103 = .ok (.bipush 60, 2) := by decide +kernel
theorem dX3_init_105 : decode cX3_init 105 = .ok (.newarray .int, 2) := by decide +kernel
theorem dX3_init_107 : decode cX3_init 107 = .ok (.putfield 52, 3) := by decide +kernel
theorem dX3_init_110 : decode cX3_init 110 = .ok (.aload_n 0, 1) := by decide +kernel
theorem dX3_init_111 : decode cX3_init 111 = .ok (.bipush 60, 2) := by decide +kernel
theorem dX3_init_113 : decode cX3_init 113 = .ok (.newarray .int, 2) := by decide +kernel
theorem dX3_init_115 : decode cX3_init 115 = .ok (.putfield 55, 3) := by decide +kernel
theorem dX3_init_118 : decode cX3_init 118 = .ok (.aload_n 0, 1) := by decide +kernel
theorem dX3_init_119 : decode cX3_init 119 = .ok (.bipush 60, 2) := by decide +kernel
theorem dX3_init_121 : decode cX3_init 121 = .ok (.newarray .int, 2) := by decide +kernel
theorem dX3_init_123 : decode cX3_init 123 = .ok (.putfield 58, 3) := by decide +kernel
theorem dX3_init_126 : decode cX3_init 126 = .ok (.aload_n 0, 1) := by decide +kernel
theorem dX3_init_127 : decode cX3_init 127 = .ok (.aload_n 1, 1) := by decide +kernel
theorem dX3_init_128 : decode cX3_init 128 = .ok (.invokevirtual 61, 3) := by decide +kernel
theorem dX3_init_131 : decode cX3_init 131 = .ok (.return_, 1) := by decide +kernel
theorem dX3_restart_0 : decode cX3_restart 0 = .ok (.aload_n 0, 1) := by decide +kernel
theorem dX3_restart_1 : decode cX3_restart 1 = .ok (.aload_n 1, 1) := by decide +kernel
theorem dX3_restart_2 : decode cX3_restart 2 = .ok (.putfield 65, 3) := by decide +kernel
theorem dX3_restart_5 : decode cX3_restart 5 = .ok (.aload_n 0, 1) := by decide +kernel
theorem dX3_restart_6 : decode cX3_restart 6 = .ok (.iconst 0, 1) := by decide +kernel
theorem dX3_restart_7 : decode cX3_restart 7 = .ok (.putfield 9, 3) := by decide +kernel
theorem dX3_restart_10 : decode cX3_restart 10 = .ok (.aload_n 0, 1) := by decide +kernel
theorem dX3_restart_11 : decode cX3_restart 11 = .ok (.iconst 0, 1) := by decide +kernel
theorem dX3_restart_12 : decode cX3_restart 12 = .ok (.putfield 49, 3) := by decide +kernel
theorem dX3_restart_15 : decode cX3_restart 15 = .ok (.iconst 0, 1) := by decide +kernel
theorem dX3_restart_16 : decode cX3_restart 16 = .ok (.istore_n 2, 1) := by decide +kernel
theorem dX3_restart_17 : decode cX3_restart 17 = .ok (.iload_n 2, 1) := by decide +kernel
theorem dX3_restart_18 : decode cX3_restart 18 = .ok (.bipush 8, 2) := by decide +kernel
theorem dX3_restart_20 : decode cX3_restart 20 = .ok (.if_icmp .ge 81, 3) := by decide +kernel
theorem dX3_restart_23 : decode cX3_restart 23 = .ok (.aload_n 0, 1) := by decide +kernel
theorem dX3_restart_24 : decode cX3_restart 24 = .ok (.getfield 15, 3) := by decide +kernel
theorem dX3_restart_27 : decode cX3_restart 27 = .ok (.iload_n 2, 1) := by decide +kernel
theorem dX3_restart_28 : decode cX3_restart 28 = .ok (.iconst 0, 1) := by decide +kernel
theorem dX3_restart_29 : decode cX3_restart 29 = .ok (.iastore, 1) := by decide +kernel
theorem dX3_restart_30 : decode cX3_restart 30 = .ok (.aload_n 0, 1) := by decide +kernel
theorem dX3_restart_31 : decode cX3_restart 31 = .ok (.getfield 19, 3) := by decide +kernel
theorem dX3_restart_34 : decode cX3_restart 34 = .ok (.iload_n 2, 1) := by decide +kernel
theorem dX3_restart_35 : decode cX3_restart 35 = .ok (.bipush (-9), 2) := by decide +kernel
theorem dX3_restart_37 : decode cX3_restart 37 = .ok (.iastore, 1) := by decide +kernel
theorem dX3_restart_38 : decode cX3_restart 38 = .ok (.aload_n 0, 1) := by decide +kernel
theorem dX3_restart_39 : decode cX3_restart 39 = .ok (.getfield 22, 3) := by decide +kernel
theorem dX3_restart_42 : decode cX3_restart 42 = .ok (.iload_n 2, 1) := by decide +kernel
theorem dX3_restart_43 : decode cX3_restart 43 = .ok (.iconst 0, 1) := by decide +kernel
theorem dX3_restart_44 : decode cX3_restart 44 = .ok (.iastore, 1) := by decide +kernel
theorem dX3_restart_45 : decode cX3_restart 45 = .ok (.aload_n 0, 1) := by decide +kernel
theorem dX3_restart_46 : decode cX3_restart 46 = .ok (.getfield 25, 3) := by decide +kernel
theorem dX3_restart_49 : decode cX3_restart 49 = .ok (.iload_n 2, 1) := by decide +kernel
theorem dX3_restart_50 : decode cX3_restart 50 = .ok (.iconst 0, 1) := by decide +kernel
theorem dX3_restart_51 : decode cX3_restart 51 = .ok (.iastore, 1) := by decide +kernel
theorem dX3_restart_52 : decode cX3_restart 52 = .ok (.aload_n 0, 1) := by decide +kernel
theorem dX3_restart_53 : decode cX3_restart 53 = .ok (.getfield 28, 3) := by decide +kernel
theorem dX3_restart_56 : decode cX3_restart 56 = .ok (.iload_n 2, 1) := by decide +kernel
theorem dX3_restart_57 : decode cX3_restart 57 = .ok (.ldc 69, 2) := by decide +kernel
theorem dX3_restart_59 : decode cX3_restart 59 = .ok (.iastore, 1) := by decide +kernel
theorem dX3_restart_60 : decode cX3_restart 60 = .ok (.aload_n 0, 1) := by decide +kernel
theorem dX3_restart_61 : decode cX3_restart 61 = .ok (.getfield 31, 3) := by decide +kernel
theorem dX3_restart_64 : decode cX3_restart 64 = .ok (.iload_n 2, 1) := by decide +kernel
theorem dX3_restart_65 : decode cX3_restart 65 = .ok (.iconst 0, 1) := by decide +kernel
theorem dX3_restart_66 : decode cX3_restart 66 = .ok (.iastore, 1) := by decide +kernel
theorem dX3_restart_67 : decode cX3_restart 67 = .ok (.aload_n 0, 1) := by decide +kernel
theorem dX3_restart_68 : decode cX3_restart 68 = .ok (.getfield 34, 3) := by decide +kernel
theorem dX3_restart_71 : decode cX3_restart 71 = .ok (.iload_n 2, 1) := by decide +kernel
theorem dX3_restart_72 : decode cX3_restart 72 = .ok (.iconst 0, 1) := by decide +kernel
theorem dX3_restart_73 : decode cX3_restart 73 = .ok (.iastore, 1) := by decide +kernel
theorem dX3_restart_74 : decode cX3_restart 74 = .ok (.aload_n 0, 1) := by decide +kernel
theorem dX3_restart_75 : decode cX3_restart 75 = .ok (.getfield 37, 3) := by decide +kernel
theorem dX3_restart_78 : decode cX3_restart 78 = .ok (.iload_n 2, 1) := by decide +kernel
theorem dX3_restart_79 : decode cX3_restart 79 = .ok (.iconst 0, 1) := by decide +kernel
theorem dX3_restart_80 : decode cX3_restart 80 = .ok (.iastore, 1) := by decide +kernel
theorem dX3_restart_81 : decode cX3_restart 81 = .ok (.aload_n 0, 1) := by decide +kernel
theorem dX3_restart_82 : decode cX3_restart 82 = .ok (.getfield 40, 3) := by decide +kernel
theorem dX3_restart_85 : decode cX3_restart 85 = .ok (.iload_n 2, 1) := by decide +kernel
theorem dX3_restart_86 : decode cX3_restart 86 = .ok (.iconst 0, 1) := by decide +kernel
theorem dX3_restart_87 : decode cX3_restart 87 = .ok (.iastore, 1) := by decide +kernel
theorem dX3_restart_88 : decode cX3_restart 88 = .ok (.aload_n 0, 1) := by decide +kernel
theorem dX3_restart_89 : decode cX3_restart 89 = .ok (.getfield 43, 3) := by decide +kernel
theorem dX3_restart_92 : decode cX3_restart 92 = .ok (.iload_n 2, 1) := by decide +kernel
theorem dX3_restart_93 : decode cX3_restart 93 = .ok (.iconst 0, 1) := by decide +kernel
theorem dX3_restart_94 : decode cX3_restart 94 = .ok (.iastore, 1) := by decide +kernel
theorem dX3_restart_95 : decode cX3_restart 95 = .ok (.iinc 2 1, 3) := by decide +kernel
theorem dX3_restart_98 : decode cX3_restart 98 = .ok (.goto (-81), 3) := by decide +kernel
theorem dX3_restart_101 : decode cX3_restart 101 = .ok (.aload_n 0, 1) := by decide +kernel
theorem dX3_restart_102 : decode cX3_restart 102 = .ok (.iconst 0, 1) := by decide +kernel
theorem dX3_restart_103 : decode cX3_restart 103 = .ok (.ldc 69, 2) := by decide +kernel
theorem dX3_restart_105 : decode cX3_restart 105 = .ok (.invokevirtual 70, 3) := by decide +kernel
theorem dX3_restart_108 : decode cX3_restart 108 = .ok (.return_, 1) := by decide +kernel
theorem dX3_copyFrom_0 : decode cX3_copyFrom 0 = .ok (.aload_n 0, 1) := by decide +kernel
theorem dX3_copyFrom_1 : decode cX3_copyFrom 1 = .ok (.aload_n 1, 1) := by decide +kernel
theorem dX3_copyFrom_2 : decode cX3_copyFrom 2 = .ok (.getfield 65, 3) := by decide +kernel
theorem dX3_copyFrom_5 : decode cX3_copyFrom 5 = .ok (.putfield 65, 3) := by decide +kernel
theorem dX3_copyFrom_8 : decode cX3_copyFrom 8 = .ok (.aload_n 0, 1) := by decide +kernel
theorem dX3_copyFrom_9 : decode cX3_copyFrom 9 = .ok (.aload_n 1, 1) := by decide +kernel
theorem dX3_copyFrom_10 : decode cX3_copyFrom 10 = .ok (.getfield 9, 3) := by decide +kernel
theorem dX3_copyFrom_13 : decode cX3_copyFrom 13 = .ok (.putfield 9, 3) := by decide +kernel
theorem dX3_copyFrom_16 : decode cX3_copyFrom 16 = .ok (.aload_n 0, 1) := by decide +kernel
theorem dX3_copyFrom_17 : decode cX3_copyFrom 17 = .ok (.aload_n 1, 1) := by decide +kernel
theorem dX3_copyFrom_18 : decode cX3_copyFrom 18 = .ok (.getfield 49, 3) := by decide +kernel
theorem dX3_copyFrom_21 : decode cX3_copyFrom 21 = .ok (.putfield 49, 3) := by decide +kernel
theorem dX3_copyFrom_24 : decode cX3_copyFrom 24 = .ok (.aload_n 1, 1) := by decide +kernel
theorem dX3_copyFrom_25 : decode cX3_copyFrom 25 = .ok (.getfield 15, 3) := by decide +kernel
theorem dX3_copyFrom_28 : decode cX3_copyFrom 28 = .ok (.iconst 0, 1) := by decide +kernel
theorem dX3_copyFrom_29 : decode cX3_copyFrom 29 = .ok (.aload_n 0, 1) := by decide +kernel
theorem dX3_copyFrom_30 : decode cX3_copyFrom 30 = .ok (.getfield 15, 3) := by decide +kernel
theorem dX3_copyFrom_33 : decode cX3_copyFrom 33 = .ok (.iconst 0, 1) := by decide +kernel
theorem dX3_copyFrom_34 : decode cX3_copyFrom 34 = .ok (.bipush 8, 2) := by decide +kernel
theorem dX3_copyFrom_36 : decode cX3_copyFrom 36 = .ok (.invokestatic 74, 3) := by decide +kernel
theorem dX3_copyFrom_39 : decode cX3_copyFrom 39 = .ok (.aload_n 1, 1) := by decide +kernel
theorem dX3_copyFrom_40 : decode cX3_copyFrom 40 = .ok (.getfield 19, 3) := by decide +kernel
theorem dX3_copyFrom_43 : decode cX3_copyFrom 43 = .ok (.iconst 0, 1) := by decide +kernel
theorem dX3_copyFrom_44 : decode cX3_copyFrom 44 = .ok (.aload_n 0, 1) := by decide +kernel
theorem dX3_copyFrom_45 : decode cX3_copyFrom 45 = .ok (.getfield 19, 3) := by decide +kernel
theorem dX3_copyFrom_48 : decode cX3_copyFrom 48 = .ok (.iconst 0, 1) := by decide +kernel
theorem dX3_copyFrom_49 : decode cX3_copyFrom 49 = .ok (.bipush 8, 2) := by decide +kernel
theorem dX3_copyFrom_51 : decode cX3_copyFrom 51 = .ok (.invokestatic 74, 3) := by decide +kernel
theorem dX3_copyFrom_54 : decode cX3_copyFrom 54 = .ok (.aload_n 1, 1) := by decide +kernel
theorem dX3_copyFrom_55 : decode cX3_copyFrom 55 = .ok (.getfield 22, 3) := by decide +kernel
theorem dX3_copyFrom_58 : decode cX3_copyFrom 58 = .ok (.iconst 0, 1) := by decide +kernel
theorem dX3_copyFrom_59 : decode cX3_copyFrom 59 = .ok (.aload_n 0, 1) := by decide +kernel
theorem dX3_copyFrom_60 : decode cX3_copyFrom 60 = .ok (.getfield 22, 3) := by decide +kernel
theorem dX3_copyFrom_63 : decode cX3_copyFrom 63 = .ok (.iconst 0, 1) := by decide +kernel
theorem dX3_copyFrom_64 : decode cX3_copyFrom 64 = .ok (.bipush 8, 2) := by decide +kernel
theorem dX3_copyFrom_66 : decode cX3_copyFrom 66 = .ok (.invokestatic 74, 3) := by decide +kernel
theorem dX3_copyFrom_69 : decode cX3_copyFrom 69 = .ok (.aload_n 1, 1) := by decide +kernel
theorem dX3_copyFrom_70 : decode cX3_copyFrom 70 = .ok (.getfield 25, 3) := by decide +kernel
theorem dX3_copyFrom_73 : decode cX3_copyFrom 73 = .ok (.iconst 0, 1) := by decide +kernel
theorem dX3_copyFrom_74 : decode cX3_copyFrom 74 = .ok (.aload_n 0, 1) := by decide +kernel
theorem dX3_copyFrom_75 : decode cX3_copyFrom 75 = .ok (.getfield 25, 3) := by decide +kernel
theorem dX3_copyFrom_78 : decode cX3_copyFrom 78 = .ok (.iconst 0, 1) := by decide +kernel
theorem dX3_copyFrom_79 : decode cX3_copyFrom 79 = .ok (.bipush 8, 2) := by decide +kernel
theorem dX3_copyFrom_81 : decode cX3_copyFrom 81 = .ok (.invokestatic 74, 3) := by decide +kernel
theorem dX3_copyFrom_84 : decode cX3_copyFrom 84 = .ok (.aload_n 1, 1) := by decide +kernel
theorem dX3_copyFrom_85 : decode cX3_copyFrom 85 = .ok (.getfield 28, 3) := by decide +kernel
theorem dX3_copyFrom_88 : decode cX3_copyFrom 88 = .ok (.iconst 0, 1) := by decide +kernel
theorem dX3_copyFrom_89 : decode cX3_copyFrom 89 = .ok (.aload_n 0, 1) := by decide +kernel
theorem dX3_copyFrom_90 : decode cX3_copyFrom 90 = .ok (.getfield 28, 3) := by decide +kernel
theorem dX3_copyFrom_93 : decode cX3_copyFrom 93 = .ok (.iconst 0, 1) := by decide +kernel
theorem dX3_copyFrom_94 : decode cX3_copyFrom 94 = .ok (.bipush 8, 2) := by decide +kernel
theorem dX3_copyFrom_96 : decode cX3_copyFrom 96 = .ok (.invokestatic 74, 3) := by decide +kernel
theorem dX3_copyFrom_99 : decode cX3_copyFrom 99 = .ok (.aload_n 1, 1) := by decide +kernel
theorem dX3_copyFrom_100 : decode cX3_copyFrom 100 = .ok (.getfield 31, 3) := by decide +kernel
theorem dX3_copyFrom_103 : decode cX3_copyFrom 103 = .ok (.iconst 0, 1) := by decide +kernel
theorem dX3_copyFrom_104 : decode cX3_copyFrom 104 = .ok (.aload_n 0, 1) := by decide +kernel
theorem dX3_copyFrom_105 : decode cX3_copyFrom 105 = .ok (.getfield 31, 3) := by decide +kernel
theorem dX3_copyFrom_108 : decode cX3_copyFrom 108 = .ok (.iconst 0, 1) := by decide +kernel
theorem dX3_copyFrom_109 : decode cX3_copyFrom 109 = .ok (.bipush 8, 2) := by decide +kernel
theorem dX3_copyFrom_111 : decode cX3_copyFrom 111 = .ok (.invokestatic 74, 3) := by decide +kernel
theorem dX3_copyFrom_114 : decode cX3_copyFrom 114 = .ok (.aload_n 1, 1) := by decide +kernel
theorem dX3_copyFrom_115 : decode cX3_copyFrom 115 = .ok (.getfield 34, 3) := by decide +kernel
theorem dX3_copyFrom_118 : decode cX3_copyFrom 118 = .ok (.iconst 0, 1) := by decide +kernel
theorem dX3_copyFrom_119 : decode cX3_copyFrom 119 = .ok (.aload_n 0, 1) := by decide +kernel
theorem dX3_copyFrom_120 : decode cX3_copyFrom 120 = .ok (.getfield 34, 3) := by decide +kernel
theorem dX3_copyFrom_123 : decode cX3_copyFrom 123 = .ok (.iconst 0, 1) := by decide +kernel
theorem dX3_copyFrom_124 : decode cX3_copyFrom 124 = .ok (.bipush 8, 2) := by decide +kernel
theorem dX3_copyFrom_126 : decode cX3_copyFrom 126 = .ok (.invokestatic 74, 3) := by decide +kernel
theorem dX3_copyFrom_129 : decode cX3_copyFrom 129 = .ok (.aload_n 1, 1) := by decide +kernel
theorem dX3_copyFrom_130 : decode cX3_copyFrom 130 = .ok (.getfield 37, 3) := by decide +kernel
theorem dX3_copyFrom_133 : decode cX3_copyFrom 133 = .ok (.iconst 0, 1) := by decide +kernel
theorem dX3_copyFrom_134 : decode cX3_copyFrom 134 = .ok (.aload_n 0, 1) := by decide +kernel
theorem dX3_copyFrom_135 : decode cX3_copyFrom 135 = .ok (.getfield 37, 3) := by decide +kernel
theorem dX3_copyFrom_138 : decode cX3_copyFrom 138 = .ok (.iconst 0, 1) := by decide +kernel
theorem dX3_copyFrom_139 : decode cX3_copyFrom 139 = .ok (.bipush 8, 2) := by decide +kernel
theorem dX3_copyFrom_141 : decode cX3_copyFrom 141 = .ok (.invokestatic 74, 3) := by decide +kernel
theorem dX3_copyFrom_144 : decode cX3_copyFrom 144 = .ok (.aload_n 1, 1) := by decide +kernel
theorem dX3_copyFrom_145 : decode cX3_copyFrom 145 = .ok (.getfield 40, 3) := by decide +kernel
theorem dX3_copyFrom_148 : decode cX3_copyFrom 148 = .ok (.iconst 0, 1) := by decide +kernel
theorem dX3_copyFrom_149 : decode cX3_copyFrom 149 = .ok (.aload_n 0, 1) := by decide +kernel
theorem dX3_copyFrom_150 : decode cX3_copyFrom 150 = .ok (.getfield 40, 3) := by decide +kernel
theorem dX3_copyFrom_153 : decode cX3_copyFrom 153 = .ok (.iconst 0, 1) := by decide +kernel
theorem dX3_copyFrom_154 : decode cX3_copyFrom 154 = .ok (.bipush 8, 2) := by decide +kernel
theorem dX3_copyFrom_156 : decode cX3_copyFrom 156 = .ok (.invokestatic 74, 3) := by decide +kernel
theorem dX3_copyFrom_159 : decode cX3_copyFrom 159 = .ok (.aload_n 1, 1) := by decide +kernel
theorem dX3_copyFrom_160 : decode cX3_copyFrom 160 = .ok (.getfield 43, 3) := by decide +kernel
theorem dX3_copyFrom_163 : decode cX3_copyFrom 163 = .ok (.iconst 0, 1) := by decide +kernel
theorem dX3_copyFrom_164 : decode cX3_copyFrom 164 = .ok (.aload_n 0, 1) := by decide +kernel
theorem dX3_copyFrom_165 : decode cX3_copyFrom 165 = .ok (.getfield 43, 3) := by decide +kernel
theorem dX3_copyFrom_168 : decode cX3_copyFrom 168 = .ok (.iconst 0, 1) := by decide +kernel
theorem dX3_copyFrom_169 : decode cX3_copyFrom 169 = .ok (.bipush 8, 2) := by decide +kernel
theorem dX3_copyFrom_171 : decode cX3_copyFrom 171 = .ok (.invokestatic 74, 3) := by decide +kernel
theorem dX3_copyFrom_174 : decode cX3_copyFrom 174 = .ok (.aload_n 1, 1) := by decide +kernel
theorem dX3_copyFrom_175 : decode cX3_copyFrom 175 = .ok (.getfield 46, 3) := by decide +kernel
theorem dX3_copyFrom_178 : decode cX3_copyFrom 178 = .ok (.iconst 0, 1) := by decide +kernel
theorem dX3_copyFrom_179 : decode cX3_copyFrom 179 = .ok (.aload_n 0, 1) := by decide +kernel
theorem dX3_copyFrom_180 : decode cX3_copyFrom 180 = .ok (.getfield 46, 3) := by decide +kernel
theorem dX3_copyFrom_183 : decode cX3_copyFrom 183 = .ok (.iconst 0, 1) := by decide +kernel
theorem dX3_copyFrom_184 : decode cX3_copyFrom 184 = .ok (.bipush 64, 2) := by decide +kernel
theorem dX3_copyFrom_186 : decode cX3_copyFrom 186 = .ok (.invokestatic 74, 3) := by decide +kernel
theorem dX3_copyFrom_189 : decode cX3_copyFrom 189 = .ok (.aload_n 1, 1) := by decide +kernel
theorem dX3_copyFrom_190 : decode cX3_copyFrom 190 = .ok (.getfield 52, 3) := by decide +kernel
theorem dX3_copyFrom_193 : decode cX3_copyFrom 193 = .ok (.iconst 0, 1) := by decide +kernel
theorem dX3_copyFrom_194 : decode cX3_copyFrom 194 = .ok (.aload_n 0, 1) := by decide +kernel
theorem dX3_copyFrom_195 : decode cX3_copyFrom 195 = .ok (.getfield 52, 3) := by decide +kernel
theorem dX3_copyFrom_198 : decode cX3_copyFrom 198 = .ok (.iconst 0, 1) := by decide +kernel
theorem dX3_copyFrom_199 : decode cX3_copyFrom 199 = .ok (.bipush 60, 2) := by decide +kernel
theorem dX3_copyFrom_201 : decode cX3_copyFrom 201 = .ok (.invokestatic 74, 3) := by decide +kernel
theorem dX3_copyFrom_204 : decode cX3_copyFrom 204 = .ok (.aload_n 1, 1) := by decide +kernel
theorem dX3_copyFrom_205 : decode cX3_copyFrom 205 = .ok (.getfield 55, 3) := by decide +kernel
theorem dX3_copyFrom_208 : decode cX3_copyFrom 208 = .ok (.iconst 0, 1) := by decide +kernel
theorem dX3_copyFrom_209 : decode cX3_copyFrom 209 = .ok (.aload_n 0, 1) := by decide +kernel
theorem dX3_copyFrom_210 : decode cX3_copyFrom 210 = .ok (.getfield 55, 3) := by decide +kernel
theorem dX3_copyFrom_213 : decode cX3_copyFrom 213 = .ok (.iconst 0, 1) := by decide +kernel
theorem dX3_copyFrom_214 : decode cX3_copyFrom 214 = .ok (.bipush 60, 2) := by decide +kernel
theorem dX3_copyFrom_216 : decode cX3_copyFrom 216 = .ok (.invokestatic 74, 3) := by decide +kernel
theorem dX3_copyFrom_219 : decode cX3_copyFrom 219 = .ok (.aload_n 1, 1) := by decide +kernel
theorem dX3_copyFrom_220 : decode cX3_copyFrom 220 = .ok (.getfield 58, 3) := by decide +kernel
theorem dX3_copyFrom_223 : decode cX3_copyFrom 223 = .ok (.iconst 0, 1) := by decide +kernel
theorem dX3_copyFrom_224 : decode cX3_copyFrom 224 = .ok (.aload_n 0, 1) := by decide +kernel
theorem dX3_copyFrom_225 : decode cX3_copyFrom 225 = .ok (.getfield 58, 3) := by decide +kernel
theorem dX3_copyFrom_228 : decode cX3_copyFrom 228 = .ok (.iconst 0, 1) := by decide +kernel
theorem dX3_copyFrom_229 : decode cX3_copyFrom 229 = .ok (.bipush 60, 2) := by decide +kernel
theorem dX3_copyFrom_231 : decode cX3_copyFrom 231 = .ok (.invokestatic 74, 3) := by decide +kernel
theorem dX3_copyFrom_234 : decode cX3_copyFrom 234 = .ok (.return_, 1) := by decide +kernel
theorem dX3_passUntilEnded_0 : decode cX3_passUntilEnded 0 = .ok (.iconst 0, 1) := by decide +kernel
theorem dX3_passUntilEnded_1 : decode cX3_passUntilEnded 1 = .ok (.istore_n 3, 1) := by decide +kernel
theorem dX3_passUntilEnded_2 : decode cX3_passUntilEnded 2 = .ok (.iload_n 3, 1) := by decide +kernel
theorem dX3_passUntilEnded_3 : decode cX3_passUntilEnded 3 = .ok (.iload_n 2, 1) := by decide +kernel
theorem dX3_passUntilEnded_4 : decode cX3_passUntilEnded 4 = .ok (.if_icmp .ge 33, 3) := by decide +kernel
theorem dX3_passUntilEnded_7 : decode cX3_passUntilEnded 7 = .ok (.aload_n 0, 1) := by decide +kernel
theorem dX3_passUntilEnded_8 : decode cX3_passUntilEnded 8 = .ok (.getfield 15, 3) := by decide +kernel
theorem dX3_passUntilEnded_11 : decode cX3_passUntilEnded 11 = .ok (.iload_n 1, 1) := by decide +kernel
theorem dX3_passUntilEnded_12 : decode cX3_passUntilEnded 12 = .ok (.iaload, 1) := by decide +kernel
theorem dX3_passUntilEnded_13 : decode cX3_passUntilEnded 13 = .ok (.iconst 3, 1) := by decide +kernel
theorem dX3_passUntilEnded_14 : decode cX3_passUntilEnded 14 = .ok (.if_icmp .eq 23, 3) := by decide +kernel
theorem dX3_passUntilEnded_17 : decode cX3_passUntilEnded 17 = .ok (.aload_n 0, 1) := by decide +kernel
theorem dX3_passUntilEnded_18 : decode cX3_passUntilEnded 18 = .ok (.getfield 15, 3) := by decide +kernel
theorem dX3_passUntilEnded_21 : decode cX3_passUntilEnded 21 = .ok (.iconst 0, 1) := by decide +kernel
theorem dX3_passUntilEnded_22 : decode cX3_passUntilEnded 22 = .ok (.iaload, 1) := by decide +kernel
theorem dX3_passUntilEnded_23 : decode cX3_passUntilEnded 23 = .ok (.iconst 3, 1) := by decide +kernel
theorem dX3_passUntilEnded_24 : decode cX3_passUntilEnded 24 = .ok (.if_icmp .eq 13, 3) := by decide +kernel
theorem dX3_passUntilEnded_27 : decode cX3_passUntilEnded 27 = .ok (.aload_n 0, 1) := by decide +kernel
theorem dX3_passUntilEnded_28 : decode cX3_passUntilEnded 28 = .ok (.invokevirtual 80, 3) := by decide +kernel
theorem dX3_passUntilEnded_31 : decode cX3_passUntilEnded 31 = .ok (.iinc 3 1, 3) := by decide +kernel
theorem dX3_passUntilEnded_34 : decode cX3_passUntilEnded 34 = .ok (.goto (-32), 3) := by decide +kernel
theorem dX3_passUntilEnded_37 : decode cX3_passUntilEnded 37 = .ok (.aload_n 0, 1) := by decide +kernel
theorem dX3_passUntilEnded_38 : decode cX3_passUntilEnded 38 = .ok (.getfield 15, 3) := by decide +kernel
theorem dX3_passUntilEnded_41 : decode cX3_passUntilEnded 41 = .ok (.iload_n 1, 1) := by decide +kernel
theorem dX3_passUntilEnded_42 : decode cX3_passUntilEnded 42 = .ok (.iaload, 1) := by decide +kernel
theorem dX3_passUntilEnded_43 : decode cX3_passUntilEnded 43 = .ok (.iconst 3, 1) := by decide +kernel
theorem dX3_passUntilEnded_44 : decode cX3_passUntilEnded 44 = .ok (.if_icmp .ne 7, 3) := by decide +kernel
theorem dX3_passUntilEnded_47 : decode cX3_passUntilEnded 47 = .ok (.iconst 1, 1) := by decide +kernel
theorem dX3_passUntilEnded_48 : decode cX3_passUntilEnded 48 = .ok (.goto 4, 3) := by decide +kernel
theorem dX3_passUntilEnded_51 : decode cX3_passUntilEnded 51 = .ok (.iconst 0, 1) := by decide +kernel
theorem dX3_passUntilEnded_52 : decode cX3_passUntilEnded 52 = .ok (.ireturn, 1) := by decide +kernel
theorem dX3_hadEndedBy_0 : decode cX3_hadEndedBy 0 = .ok (.aload_n 0, 1) := by decide +kernel
theorem dX3_hadEndedBy_1 : decode cX3_hadEndedBy 1 = .ok (.getfield 15, 3) := by decide +kernel
theorem dX3_hadEndedBy_4 : decode cX3_hadEndedBy 4 = .ok (.iload_n 1, 1) := by decide +kernel
theorem dX3_hadEndedBy_5 : decode cX3_hadEndedBy 5 = .ok (.iaload, 1) := by decide +kernel
theorem dX3_hadEndedBy_6 : decode cX3_hadEndedBy 6 = .ok (.iconst 3, 1) := by decide +kernel
theorem dX3_hadEndedBy_7 : decode cX3_hadEndedBy 7 = .ok (.if_icmp .ne 17, 3) := by decide +kernel
theorem dX3_hadEndedBy_10 : decode cX3_hadEndedBy 10 = .ok (.aload_n 0, 1) := by decide +kernel
theorem dX3_hadEndedBy_11 : decode cX3_hadEndedBy 11 = .ok (.getfield 25, 3) := by decide +kernel
theorem dX3_hadEndedBy_14 : decode cX3_hadEndedBy 14 = .ok (.iload_n 1, 1) := by decide +kernel
theorem dX3_hadEndedBy_15 : decode cX3_hadEndedBy 15 = .ok (.iaload, 1) := by decide +kernel
theorem dX3_hadEndedBy_16 : decode cX3_hadEndedBy 16 = .ok (.iload_n 2, 1) := by decide +kernel
theorem dX3_hadEndedBy_17 : decode cX3_hadEndedBy 17 = .ok (.if_icmp .gt 7, 3) := by decide +kernel
theorem dX3_hadEndedBy_20 : decode cX3_hadEndedBy 20 = .ok (.iconst 1, 1) := by decide +kernel
theorem dX3_hadEndedBy_21 : decode cX3_hadEndedBy 21 = .ok (.goto 4, 3) := by decide +kernel
theorem dX3_hadEndedBy_24 : decode cX3_hadEndedBy 24 = .ok (.iconst 0, 1) := by decide +kernel
theorem dX3_hadEndedBy_25 : decode cX3_hadEndedBy 25 = .ok (.ireturn, 1) := by decide +kernel
theorem dX3_countThatAre_0 : decode cX3_countThatAre 0 = .ok (.iconst 0, 1) := by decide +kernel
theorem dX3_countThatAre_1 : decode cX3_countThatAre 1 = .ok (.istore_n 2, 1) := by decide +kernel
theorem dX3_countThatAre_2 : decode cX3_countThatAre 2 = .ok (.iconst 0, 1) := by decide +kernel
theorem dX3_countThatAre_3 : decode cX3_countThatAre 3 = .ok (.istore_n 3, 1) := by decide +kernel
theorem dX3_countThatAre_4 : decode cX3_countThatAre 4 = .ok (.iload_n 3, 1) := by decide +kernel
theorem dX3_countThatAre_5 : decode cX3_countThatAre 5 = .ok (.aload_n 0, 1) := by decide +kernel
theorem dX3_countThatAre_6 : decode cX3_countThatAre 6 = .ok (.getfield 65, 3) := by decide +kernel
theorem dX3_countThatAre_9 : decode cX3_countThatAre 9 = .ok (.getfield 83, 3) := by decide +kernel
theorem dX3_countThatAre_12 : decode cX3_countThatAre 12 = .ok (.if_icmp .ge 22, 3) := by decide +kernel
theorem dX3_countThatAre_15 : decode cX3_countThatAre 15 = .ok (.aload_n 0, 1) := by decide +kernel
theorem dX3_countThatAre_16 : decode cX3_countThatAre 16 = .ok (.getfield 15, 3) := by decide +kernel
theorem dX3_countThatAre_19 : decode cX3_countThatAre 19 = .ok (.iload_n 3, 1) := by decide +kernel
theorem dX3_countThatAre_20 : decode cX3_countThatAre 20 = .ok (.iaload, 1) := by decide +kernel
theorem dX3_countThatAre_21 : decode cX3_countThatAre 21 = .ok (.iload_n 1, 1) := by decide +kernel
theorem dX3_countThatAre_22 : decode cX3_countThatAre 22 = .ok (.if_icmp .ne 6, 3) := by decide +kernel
theorem dX3_countThatAre_25 : decode cX3_countThatAre 25 = .ok (.iinc 2 1, 3) := by decide +kernel
theorem dX3_countThatAre_28 : decode cX3_countThatAre 28 = .ok (.iinc 3 1, 3) := by decide +kernel
theorem dX3_countThatAre_31 : decode cX3_countThatAre 31 = .ok (.goto (-27), 3) := by decide +kernel
theorem dX3_countThatAre_34 : decode cX3_countThatAre 34 = .ok (.iload_n 2, 1) := by decide +kernel
theorem dX3_countThatAre_35 : decode cX3_countThatAre 35 = .ok (.ireturn, 1) := by decide +kernel
theorem dX3_activeChildren_0 : decode cX3_activeChildren 0 = .ok (.iconst 0, 1) := by decide +kernel
theorem dX3_activeChildren_1 : decode cX3_activeChildren 1 = .ok (.istore_n 2, 1) := by decide +kernel
theorem dX3_activeChildren_2 : decode cX3_activeChildren 2 = .ok (.iload_n 1, 1) := by decide +kernel
theorem dX3_activeChildren_3 : decode cX3_activeChildren 3 = .ok (.iconst 1, 1) := by decide +kernel
theorem dX3_activeChildren_4 : decode cX3_activeChildren 4 = .ok (.iadd, 1) := by decide +kernel
theorem dX3_activeChildren_5 : decode cX3_activeChildren 5 = .ok (.istore_n 3, 1) := by decide +kernel
theorem dX3_activeChildren_6 : decode cX3_activeChildren 6 = .ok (.iload_n 3, 1) := by decide +kernel
theorem dX3_activeChildren_7 : decode cX3_activeChildren 7 = .ok (.aload_n 0, 1) := by decide +kernel
theorem dX3_activeChildren_8 : decode cX3_activeChildren 8 = .ok (.getfield 65, 3) := by decide +kernel
theorem dX3_activeChildren_11 : decode cX3_activeChildren 11 = .ok (.getfield 83, 3) := by decide +kernel
theorem dX3_activeChildren_14 : decode cX3_activeChildren 14 = .ok (.if_icmp .ge 48, 3) := by decide +kernel
theorem dX3_activeChildren_17 : decode cX3_activeChildren 17 = .ok (.aload_n 0, 1) := by decide +kernel
theorem dX3_activeChildren_18 : decode cX3_activeChildren 18 = .ok (.getfield 65, 3) := by decide +kernel
theorem dX3_activeChildren_21 : decode cX3_activeChildren 21 = .ok (.getfield 88, 3) := by decide +kernel
theorem dX3_activeChildren_24 : decode cX3_activeChildren 24 = .ok (.iload_n 3, 1) := by decide +kernel
theorem dX3_activeChildren_25 : decode cX3_activeChildren 25 = .ok (.iaload, 1) := by decide +kernel
theorem dX3_activeChildren_26 : decode cX3_activeChildren 26 = .ok (.iload_n 1, 1) := by decide +kernel
theorem dX3_activeChildren_27 : decode cX3_activeChildren 27 = .ok (.if_icmp .ne 29, 3) := by decide +kernel
theorem dX3_activeChildren_30 : decode cX3_activeChildren 30 = .ok (.aload_n 0, 1) := by decide +kernel
theorem dX3_activeChildren_31 : decode cX3_activeChildren 31 = .ok (.getfield 15, 3) := by decide +kernel
theorem dX3_activeChildren_34 : decode cX3_activeChildren 34 = .ok (.iload_n 3, 1) := by decide +kernel
theorem dX3_activeChildren_35 : decode cX3_activeChildren 35 = .ok (.iaload, 1) := by decide +kernel
theorem dX3_activeChildren_36 : decode cX3_activeChildren 36 = .ok (.iconst 1, 1) := by decide +kernel
theorem dX3_activeChildren_37 : decode cX3_activeChildren 37 = .ok (.if_icmp .eq 13, 3) := by decide +kernel
theorem dX3_activeChildren_40 : decode cX3_activeChildren 40 = .ok (.aload_n 0, 1) := by decide +kernel
theorem dX3_activeChildren_41 : decode cX3_activeChildren 41 = .ok (.getfield 15, 3) := by decide +kernel
theorem dX3_activeChildren_44 : decode cX3_activeChildren 44 = .ok (.iload_n 3, 1) := by decide +kernel
theorem dX3_activeChildren_45 : decode cX3_activeChildren 45 = .ok (.iaload, 1) := by decide +kernel
theorem dX3_activeChildren_46 : decode cX3_activeChildren 46 = .ok (.iconst 2, 1) := by decide +kernel
theorem dX3_activeChildren_47 : decode cX3_activeChildren 47 = .ok (.if_icmp .ne 9, 3) := by decide +kernel
theorem dX3_activeChildren_50 : decode cX3_activeChildren 50 = .ok (.iload_n 2, 1) := by decide +kernel
theorem dX3_activeChildren_51 : decode cX3_activeChildren 51 = .ok (.iconst 1, 1) := by decide +kernel
theorem dX3_activeChildren_52 : decode cX3_activeChildren 52 = .ok (.iload_n 3, 1) := by decide +kernel
theorem dX3_activeChildren_53 : decode cX3_activeChildren 53 = .ok (.ishl, 1) := by decide +kernel
theorem dX3_activeChildren_54 : decode cX3_activeChildren 54 = .ok (.ior, 1) := by decide +kernel
theorem dX3_activeChildren_55 : decode cX3_activeChildren 55 = .ok (.istore_n 2, 1) := by decide +kernel
theorem dX3_activeChildren_56 : decode cX3_activeChildren 56 = .ok (.iinc 3 1, 3) := by decide +kernel
theorem dX3_activeChildren_59 : decode cX3_activeChildren 59 = .ok (.goto (-53), 3) := by decide +kernel
theorem dX3_activeChildren_62 : decode cX3_activeChildren 62 = .ok (.iload_n 2, 1) := by decide +kernel
theorem dX3_activeChildren_63 : decode cX3_activeChildren 63 = .ok (.ireturn, 1) := by decide +kernel
theorem dX3_passTick_0 : decode cX3_passTick 0 = .ok (.aload_n 0, 1) := by decide +kernel
theorem dX3_passTick_1 : decode cX3_passTick 1 = .ok (.dup, 1) := by decide +kernel
theorem dX3_passTick_2 : decode cX3_passTick 2 = .ok (.getfield 9, 3) := by decide +kernel
theorem dX3_passTick_5 : decode cX3_passTick 5 = .ok (.iconst 1, 1) := by decide +kernel
theorem dX3_passTick_6 : decode cX3_passTick 6 = .ok (.iadd, 1) := by decide +kernel
theorem dX3_passTick_7 : decode cX3_passTick 7 = .ok (.putfield 9, 3) := by decide +kernel
theorem dX3_passTick_10 : decode cX3_passTick 10 = .ok (.iconst 0, 1) := by decide +kernel
theorem dX3_passTick_11 : decode cX3_passTick 11 = .ok (.istore_n 1, 1) := by decide +kernel
theorem dX3_passTick_12 : decode cX3_passTick 12 = .ok (.iload_n 1, 1) := by decide +kernel
theorem dX3_passTick_13 : decode cX3_passTick 13 = .ok (.aload_n 0, 1) := by decide +kernel
theorem dX3_passTick_14 : decode cX3_passTick 14 = .ok (.getfield 65, 3) := by decide +kernel
theorem dX3_passTick_17 : decode cX3_passTick 17 = .ok (.getfield 83, 3) := by decide +kernel
theorem dX3_passTick_20 : decode cX3_passTick 20 = .ok (.if_icmp .ge 45, 3) := by decide +kernel
theorem dX3_passTick_23 : decode cX3_passTick 23 = .ok (.aload_n 0, 1) := by decide +kernel
theorem dX3_passTick_24 : decode cX3_passTick 24 = .ok (.getfield 15, 3) := by decide +kernel
theorem dX3_passTick_27 : decode cX3_passTick 27 = .ok (.iload_n 1, 1) := by decide +kernel
theorem dX3_passTick_28 : decode cX3_passTick 28 = .ok (.iaload, 1) := by decide +kernel
theorem dX3_passTick_29 : decode cX3_passTick 29 = .ok (.iconst 1, 1) := by decide +kernel
theorem dX3_passTick_30 : decode cX3_passTick 30 = .ok (.if_icmp .ne 29, 3) := by decide +kernel
theorem dX3_passTick_33 : decode cX3_passTick 33 = .ok (.aload_n 0, 1) := by decide +kernel
theorem dX3_passTick_34 : decode cX3_passTick 34 = .ok (.getfield 9, 3) := by decide +kernel
theorem dX3_passTick_37 : decode cX3_passTick 37 = .ok (.aload_n 0, 1) := by decide +kernel
theorem dX3_passTick_38 : decode cX3_passTick 38 = .ok (.getfield 28, 3) := by decide +kernel
theorem dX3_passTick_41 : decode cX3_passTick 41 = .ok (.iload_n 1, 1) := by decide +kernel
theorem dX3_passTick_42 : decode cX3_passTick 42 = .ok (.iaload, 1) := by decide +kernel
theorem dX3_passTick_43 : decode cX3_passTick 43 = .ok (.if_icmp .le 16, 3) := by decide +kernel
theorem dX3_passTick_46 : decode cX3_passTick 46 = .ok (.aload_n 0, 1) := by decide +kernel
theorem dX3_passTick_47 : decode cX3_passTick 47 = .ok (.iload_n 1, 1) := by decide +kernel
theorem dX3_passTick_48 : decode cX3_passTick 48 = .ok (.bipush 10, 2) := by decide +kernel
theorem dX3_passTick_50 : decode cX3_passTick 50 = .ok (.invokevirtual 91, 3) := by decide +kernel
theorem dX3_passTick_53 : decode cX3_passTick 53 = .ok (.aload_n 0, 1) := by decide +kernel
theorem dX3_passTick_54 : decode cX3_passTick 54 = .ok (.iload_n 1, 1) := by decide +kernel
theorem dX3_passTick_55 : decode cX3_passTick 55 = .ok (.iconst 3, 1) := by decide +kernel
theorem dX3_passTick_56 : decode cX3_passTick 56 = .ok (.invokevirtual 94, 3) := by decide +kernel
theorem dX3_passTick_59 : decode cX3_passTick 59 = .ok (.iinc 1 1, 3) := by decide +kernel
theorem dX3_passTick_62 : decode cX3_passTick 62 = .ok (.goto (-50), 3) := by decide +kernel
theorem dX3_passTick_65 : decode cX3_passTick 65 = .ok (.iconst 0, 1) := by decide +kernel
theorem dX3_passTick_66 : decode cX3_passTick 66 = .ok (.istore_n 1, 1) := by decide +kernel
theorem dX3_passTick_67 : decode cX3_passTick 67 = .ok (.iload_n 1, 1) := by decide +kernel
theorem dX3_passTick_68 : decode cX3_passTick 68 = .ok (.aload_n 0, 1) := by decide +kernel
theorem dX3_passTick_69 : decode cX3_passTick 69 = .ok (.getfield 65, 3) := by decide +kernel
theorem dX3_passTick_72 : decode cX3_passTick 72 = .ok (.getfield 83, 3) := by decide +kernel
theorem dX3_passTick_75 : decode cX3_passTick 75 = .ok (.if_icmp .ge 37, 3) := by decide +kernel
theorem dX3_passTick_78 : decode cX3_passTick 78 = .ok (.aload_n 0, 1) := by decide +kernel
theorem dX3_passTick_79 : decode cX3_passTick 79 = .ok (.getfield 15, 3) := by decide +kernel
theorem dX3_passTick_82 : decode cX3_passTick 82 = .ok (.iload_n 1, 1) := by decide +kernel
theorem dX3_passTick_83 : decode cX3_passTick 83 = .ok (.iaload, 1) := by decide +kernel
theorem dX3_passTick_84 : decode cX3_passTick 84 = .ok (.iconst 1, 1) := by decide +kernel
theorem dX3_passTick_85 : decode cX3_passTick 85 = .ok (.if_icmp .ne 21, 3) := by decide +kernel
theorem dX3_passTick_88 : decode cX3_passTick 88 = .ok (.aload_n 0, 1) := by decide +kernel
theorem dX3_passTick_89 : decode cX3_passTick 89 = .ok (.getfield 22, 3) := by decide +kernel
theorem dX3_passTick_92 : decode cX3_passTick 92 = .ok (.iload_n 1, 1) := by decide +kernel
theorem dX3_passTick_93 : decode cX3_passTick 93 = .ok (.iaload, 1) := by decide +kernel
theorem dX3_passTick_94 : decode cX3_passTick 94 = .ok (.aload_n 0, 1) := by decide +kernel
theorem dX3_passTick_95 : decode cX3_passTick 95 = .ok (.getfield 9, 3) := by decide +kernel
theorem dX3_passTick_98 : decode cX3_passTick 98 = .ok (.if_icmp .ge 8, 3) := by decide +kernel
theorem dX3_passTick_101 : decode cX3_passTick 101 = .ok (.aload_n 0, 1) := by decide +kernel
theorem dX3_passTick_102 : decode cX3_passTick 102 = .ok (.iload_n 1, 1) := by decide +kernel
theorem dX3_passTick_103 : decode cX3_passTick 103 = .ok (.invokevirtual 97, 3) := by decide +kernel
theorem dX3_passTick_106 : decode cX3_passTick 106 = .ok (.iinc 1 1, 3) := by decide +kernel
theorem dX3_passTick_109 : decode cX3_passTick 109 = .ok (.goto (-42), 3) := by decide +kernel
theorem dX3_passTick_112 : decode cX3_passTick 112 = .ok (.aload_n 0, 1) := by decide +kernel
theorem dX3_passTick_113 : decode cX3_passTick 113 = .ok (.getfield 65, 3) := by decide +kernel
theorem dX3_passTick_116 : decode cX3_passTick 116 = .ok (.getfield 83, 3) := by decide +kernel
theorem dX3_passTick_119 : decode cX3_passTick 119 = .ok (.iconst 1, 1) := by decide +kernel
theorem dX3_passTick_120 : decode cX3_passTick 120 = .ok (.isub, 1) := by decide +kernel
theorem dX3_passTick_121 : decode cX3_passTick 121 = .ok (.istore_n 1, 1) := by decide +kernel
theorem dX3_passTick_122 : decode cX3_passTick 122 = .ok (.iload_n 1, 1) := by decide +kernel
theorem dX3_passTick_123 : decode cX3_passTick 123 = .ok (.ifCond .lt 40, 3) := by decide +kernel
theorem dX3_passTick_126 : decode cX3_passTick 126 = .ok (.aload_n 0, 1) := by decide +kernel
theorem dX3_passTick_127 : decode cX3_passTick 127 = .ok (.getfield 15, 3) := by decide +kernel
theorem dX3_passTick_130 : decode cX3_passTick 130 = .ok (.iload_n 1, 1) := by decide +kernel
theorem dX3_passTick_131 : decode cX3_passTick 131 = .ok (.iaload, 1) := by decide +kernel
theorem dX3_passTick_132 : decode cX3_passTick 132 = .ok (.iconst 2, 1) := by decide +kernel
theorem dX3_passTick_133 : decode cX3_passTick 133 = .ok (.if_icmp .ne 24, 3) := by decide +kernel
theorem dX3_passTick_136 : decode cX3_passTick 136 = .ok (.aload_n 0, 1) := by decide +kernel
theorem dX3_passTick_137 : decode cX3_passTick 137 = .ok (.iload_n 1, 1) := by decide +kernel
theorem dX3_passTick_138 : decode cX3_passTick 138 = .ok (.invokevirtual 101, 3) := by decide +kernel
theorem dX3_passTick_141 : decode cX3_passTick 141 = .ok (.ifCond .ne 16, 3) := by decide +kernel
theorem dX3_passTick_144 : decode cX3_passTick 144 = .ok (.aload_n 0, 1) := by decide +kernel
theorem dX3_passTick_145 : decode cX3_passTick 145 = .ok (.iload_n 1, 1) := by decide +kernel
theorem dX3_passTick_146 : decode cX3_passTick 146 = .ok (.invokevirtual 105, 3) := by decide +kernel
theorem dX3_passTick_149 : decode cX3_passTick 149 = .ok (.ifCond .eq 8, 3) := by decide +kernel
theorem dX3_passTick_152 : decode cX3_passTick 152 = .ok (.aload_n 0, 1) := by decide +kernel
theorem dX3_passTick_153 : decode cX3_passTick 153 = .ok (.iload_n 1, 1) := by decide +kernel
theorem dX3_passTick_154 : decode cX3_passTick 154 = .ok (.invokevirtual 109, 3) := by decide +kernel
theorem dX3_passTick_157 : decode cX3_passTick 157 = .ok (.iinc 1 (-1), 3) := by decide +kernel
theorem dX3_passTick_160 : decode cX3_passTick 160 = .ok (.goto (-38), 3) := by decide +kernel
theorem dX3_passTick_163 : decode cX3_passTick 163 = .ok (.return_, 1) := by decide +kernel
theorem dX3_goOn_0 : decode cX3_goOn 0 = .ok (.aload_n 0, 1) := by decide +kernel
theorem dX3_goOn_1 : decode cX3_goOn 1 = .ok (.getfield 40, 3) := by decide +kernel
theorem dX3_goOn_4 : decode cX3_goOn 4 = .ok (.iload_n 1, 1) := by decide +kernel
theorem dX3_goOn_5 : decode cX3_goOn 5 = .ok (.iaload, 1) := by decide +kernel
theorem dX3_goOn_6 : decode cX3_goOn 6 = .ok (.iconst 1, 1) := by decide +kernel
theorem dX3_goOn_7 : decode cX3_goOn 7 = .ok (.if_icmp .ne 30, 3) := by decide +kernel
theorem dX3_goOn_10 : decode cX3_goOn 10 = .ok (.aload_n 0, 1) := by decide +kernel
theorem dX3_goOn_11 : decode cX3_goOn 11 = .ok (.getfield 31, 3) := by decide +kernel
theorem dX3_goOn_14 : decode cX3_goOn 14 = .ok (.iload_n 1, 1) := by decide +kernel
theorem dX3_goOn_15 : decode cX3_goOn 15 = .ok (.iaload, 1) := by decide +kernel
theorem dX3_goOn_16 : decode cX3_goOn 16 = .ok (.aload_n 0, 1) := by decide +kernel
theorem dX3_goOn_17 : decode cX3_goOn 17 = .ok (.getfield 65, 3) := by decide +kernel
theorem dX3_goOn_20 : decode cX3_goOn 20 = .ok (.getfield 112, 3) := by decide +kernel
theorem dX3_goOn_23 : decode cX3_goOn 23 = .ok (.iload_n 1, 1) := by decide +kernel
theorem dX3_goOn_24 : decode cX3_goOn 24 = .ok (.iaload, 1) := by decide +kernel
theorem dX3_goOn_25 : decode cX3_goOn 25 = .ok (.if_icmp .lt 12, 3) := by decide +kernel
theorem dX3_goOn_28 : decode cX3_goOn 28 = .ok (.aload_n 0, 1) := by decide +kernel
theorem dX3_goOn_29 : decode cX3_goOn 29 = .ok (.iload_n 1, 1) := by decide +kernel
theorem dX3_goOn_30 : decode cX3_goOn 30 = .ok (.iconst 2, 1) := by decide +kernel
theorem dX3_goOn_31 : decode cX3_goOn 31 = .ok (.invokevirtual 94, 3) := by decide +kernel
theorem dX3_goOn_34 : decode cX3_goOn 34 = .ok (.goto 76, 3) := by decide +kernel
theorem dX3_goOn_37 : decode cX3_goOn 37 = .ok (.aload_n 0, 1) := by decide +kernel
theorem dX3_goOn_38 : decode cX3_goOn 38 = .ok (.getfield 31, 3) := by decide +kernel
theorem dX3_goOn_41 : decode cX3_goOn 41 = .ok (.iload_n 1, 1) := by decide +kernel
theorem dX3_goOn_42 : decode cX3_goOn 42 = .ok (.iaload, 1) := by decide +kernel
theorem dX3_goOn_43 : decode cX3_goOn 43 = .ok (.aload_n 0, 1) := by decide +kernel
theorem dX3_goOn_44 : decode cX3_goOn 44 = .ok (.getfield 65, 3) := by decide +kernel
theorem dX3_goOn_47 : decode cX3_goOn 47 = .ok (.getfield 115, 3) := by decide +kernel
theorem dX3_goOn_50 : decode cX3_goOn 50 = .ok (.iload_n 1, 1) := by decide +kernel
theorem dX3_goOn_51 : decode cX3_goOn 51 = .ok (.iaload, 1) := by decide +kernel
theorem dX3_goOn_52 : decode cX3_goOn 52 = .ok (.if_icmp .ge 14, 3) := by decide +kernel
theorem dX3_goOn_55 : decode cX3_goOn 55 = .ok (.aload_n 0, 1) := by decide +kernel
theorem dX3_goOn_56 : decode cX3_goOn 56 = .ok (.getfield 31, 3) := by decide +kernel
theorem dX3_goOn_59 : decode cX3_goOn 59 = .ok (.iload_n 1, 1) := by decide +kernel
theorem dX3_goOn_60 : decode cX3_goOn 60 = .ok (.iaload, 1) := by decide +kernel
theorem dX3_goOn_61 : decode cX3_goOn 61 = .ok (.bipush 6, 2) := by decide +kernel
theorem dX3_goOn_63 : decode cX3_goOn 63 = .ok (.if_icmp .lt 12, 3) := by decide +kernel
theorem dX3_goOn_66 : decode cX3_goOn 66 = .ok (.aload_n 0, 1) := by decide +kernel
theorem dX3_goOn_67 : decode cX3_goOn 67 = .ok (.iload_n 1, 1) := by decide +kernel
theorem dX3_goOn_68 : decode cX3_goOn 68 = .ok (.iconst 0, 1) := by decide +kernel
theorem dX3_goOn_69 : decode cX3_goOn 69 = .ok (.invokevirtual 94, 3) := by decide +kernel
theorem dX3_goOn_72 : decode cX3_goOn 72 = .ok (.goto 38, 3) := by decide +kernel
theorem dX3_goOn_75 : decode cX3_goOn 75 = .ok (.iload_n 1, 1) := by decide +kernel
theorem dX3_goOn_76 : decode cX3_goOn 76 = .ok (.bipush 6, 2) := by decide +kernel
theorem dX3_goOn_78 : decode cX3_goOn 78 = .ok (.imul, 1) := by decide +kernel
theorem dX3_goOn_79 : decode cX3_goOn 79 = .ok (.aload_n 0, 1) := by decide +kernel
theorem dX3_goOn_80 : decode cX3_goOn 80 = .ok (.getfield 31, 3) := by decide +kernel
theorem dX3_goOn_83 : decode cX3_goOn 83 = .ok (.iload_n 1, 1) := by decide +kernel
theorem dX3_goOn_84 : decode cX3_goOn 84 = .ok (.iaload, 1) := by decide +kernel
theorem dX3_goOn_85 : decode cX3_goOn 85 = .ok (.iadd, 1) := by decide +kernel
theorem dX3_goOn_86 : decode cX3_goOn 86 = .ok (.istore_n 2, 1) := by decide +kernel
theorem dX3_goOn_87 : decode cX3_goOn 87 = .ok (.aload_n 0, 1) := by decide +kernel
theorem dX3_goOn_88 : decode cX3_goOn 88 = .ok (.iload_n 1, 1) := by decide +kernel
theorem dX3_goOn_89 : decode cX3_goOn 89 = .ok (.aload_n 0, 1) := by decide +kernel
theorem dX3_goOn_90 : decode cX3_goOn 90 = .ok (.getfield 65, 3) := by decide +kernel
theorem dX3_goOn_93 : decode cX3_goOn 93 = .ok (.getfield 118, 3) := by decide +kernel
theorem dX3_goOn_96 : decode cX3_goOn 96 = .ok (.iload_n 2, 1) := by decide +kernel
theorem dX3_goOn_97 : decode cX3_goOn 97 = .ok (.iaload, 1) := by decide +kernel
theorem dX3_goOn_98 : decode cX3_goOn 98 = .ok (.aload_n 0, 1) := by decide +kernel
theorem dX3_goOn_99 : decode cX3_goOn 99 = .ok (.getfield 65, 3) := by decide +kernel
theorem dX3_goOn_102 : decode cX3_goOn 102 = .ok (.getfield 121, 3) := by decide +kernel
theorem dX3_goOn_105 : decode cX3_goOn 105 = .ok (.iload_n 2, 1) := by decide +kernel
theorem dX3_goOn_106 : decode cX3_goOn 106 = .ok (.iaload, 1) := by decide +kernel
theorem dX3_goOn_107 : decode cX3_goOn 107 = .ok (.invokevirtual 124, 3) := by decide +kernel
theorem dX3_goOn_110 : decode cX3_goOn 110 = .ok (.return_, 1) := by decide +kernel
theorem dX3_operate_0 : decode cX3_operate 0 = .ok (.iload_n 2, 1) := by decide +kernel
theorem dX3_operate_1 : decode cX3_operate 1 = .ok (.lookupswitch 109 #[(98, 52), (106, 70), (119, 43), (120, 91)], 43) := by decide +kernel
theorem dX3_operate_44 : decode cX3_operate 44 = .ok (.aload_n 0, 1) := by decide +kernel
theorem dX3_operate_45 : decode cX3_operate 45 = .ok (.iload_n 1, 1) := by decide +kernel
theorem dX3_operate_46 : decode cX3_operate 46 = .ok (.iload_n 3, 1) := by decide +kernel
theorem dX3_operate_47 : decode cX3_operate 47 = .ok (.invokevirtual 128, 3) := by decide +kernel
theorem dX3_operate_50 : decode cX3_operate 50 = .ok (.goto 72, 3) := by decide +kernel
theorem dX3_operate_53 : decode cX3_operate 53 = .ok (.aload_n 0, 1) := by decide +kernel
theorem dX3_operate_54 : decode cX3_operate 54 = .ok (.iload_n 1, 1) := by decide +kernel
theorem dX3_operate_55 : decode cX3_operate 55 = .ok (.invokevirtual 131, 3) := by decide +kernel
theorem dX3_operate_58 : decode cX3_operate 58 = .ok (.aload_n 0, 1) := by decide +kernel
theorem dX3_operate_59 : decode cX3_operate 59 = .ok (.getfield 31, 3) := by decide +kernel
theorem dX3_operate_62 : decode cX3_operate 62 = .ok (.iload_n 1, 1) := by decide +kernel
theorem dX3_operate_63 : decode cX3_operate 63 = .ok (.dup2, 1) := by decide +kernel
theorem dX3_operate_64 : decode cX3_operate 64 = .ok (.iaload, 1) := by decide +kernel
theorem dX3_operate_65 : decode cX3_operate 65 = .ok (.iconst 1, 1) := by decide +kernel
theorem dX3_operate_66 : decode cX3_operate 66 = .ok (.iadd, 1) := by decide +kernel
theorem dX3_operate_67 : decode cX3_operate 67 = .ok (.iastore, 1) := by decide +kernel
theorem dX3_operate_68 : decode cX3_operate 68 = .ok (.goto 54, 3) := by decide +kernel
theorem dX3_operate_71 : decode cX3_operate 71 = .ok (.aload_n 0, 1) := by decide +kernel
theorem dX3_operate_72 : decode cX3_operate 72 = .ok (.iload_n 1, 1) := by decide +kernel
theorem dX3_operate_73 : decode cX3_operate 73 = .ok (.invokevirtual 101, 3) := by decide +kernel
theorem dX3_operate_76 : decode cX3_operate 76 = .ok (.ifCond .ne 46, 3) := by decide +kernel
theorem dX3_operate_79 : decode cX3_operate 79 = .ok (.aload_n 0, 1) := by decide +kernel
theorem dX3_operate_80 : decode cX3_operate 80 = .ok (.getfield 31, 3) := by decide +kernel
theorem dX3_operate_83 : decode cX3_operate 83 = .ok (.iload_n 1, 1) := by decide +kernel
theorem dX3_operate_84 : decode cX3_operate 84 = .ok (.dup2, 1) := by decide +kernel
theorem dX3_operate_85 : decode cX3_operate 85 = .ok (.iaload, 1) := by decide +kernel
theorem dX3_operate_86 : decode cX3_operate 86 = .ok (.iconst 1, 1) := by decide +kernel
theorem dX3_operate_87 : decode cX3_operate 87 = .ok (.iadd, 1) := by decide +kernel
theorem dX3_operate_88 : decode cX3_operate 88 = .ok (.iastore, 1) := by decide +kernel
theorem dX3_operate_89 : decode cX3_operate 89 = .ok (.goto 33, 3) := by decide +kernel
theorem dX3_operate_92 : decode cX3_operate 92 = .ok (.aload_n 0, 1) := by decide +kernel
theorem dX3_operate_93 : decode cX3_operate 93 = .ok (.iload_n 1, 1) := by decide +kernel
theorem dX3_operate_94 : decode cX3_operate 94 = .ok (.invokevirtual 134, 3) := by decide +kernel
theorem dX3_operate_97 : decode cX3_operate 97 = .ok (.aload_n 0, 1) := by decide +kernel
theorem dX3_operate_98 : decode cX3_operate 98 = .ok (.getfield 31, 3) := by decide +kernel
theorem dX3_operate_101 : decode cX3_operate 101 = .ok (.iload_n 1, 1) := by decide +kernel
theorem dX3_operate_102 : decode cX3_operate 102 = .ok (.dup2, 1) := by decide +kernel
theorem dX3_operate_103 : decode cX3_operate 103 = .ok (.iaload, 1) := by decide +kernel
theorem dX3_operate_104 : decode cX3_operate 104 = .ok (.iconst 1, 1) := by decide +kernel
theorem dX3_operate_105 : decode cX3_operate 105 = .ok (.iadd, 1) := by decide +kernel
theorem dX3_operate_106 : decode cX3_operate 106 = .ok (.iastore, 1) := by decide +kernel
theorem dX3_operate_107 : decode cX3_operate 107 = .ok (.goto 15, 3) := by decide +kernel
theorem dX3_operate_110 : decode cX3_operate 110 = .ok (.aload_n 0, 1) := by decide +kernel
theorem dX3_operate_111 : decode cX3_operate 111 = .ok (.iload_n 1, 1) := by decide +kernel
theorem dX3_operate_112 : decode cX3_operate 112 = .ok (.iload_n 3, 1) := by decide +kernel
theorem dX3_operate_113 : decode cX3_operate 113 = .ok (.invokevirtual 91, 3) := by decide +kernel
theorem dX3_operate_116 : decode cX3_operate 116 = .ok (.aload_n 0, 1) := by decide +kernel
theorem dX3_operate_117 : decode cX3_operate 117 = .ok (.iload_n 1, 1) := by decide +kernel
theorem dX3_operate_118 : decode cX3_operate 118 = .ok (.iconst 1, 1) := by decide +kernel
theorem dX3_operate_119 : decode cX3_operate 119 = .ok (.invokevirtual 94, 3) := by decide +kernel
theorem dX3_operate_122 : decode cX3_operate 122 = .ok (.return_, 1) := by decide +kernel
theorem dX3_work_0 : decode cX3_work 0 = .ok (.aload_n 0, 1) := by decide +kernel
theorem dX3_work_1 : decode cX3_work 1 = .ok (.getfield 34, 3) := by decide +kernel
theorem dX3_work_4 : decode cX3_work 4 = .ok (.iload_n 1, 1) := by decide +kernel
theorem dX3_work_5 : decode cX3_work 5 = .ok (.dup2, 1) := by decide +kernel
theorem dX3_work_6 : decode cX3_work 6 = .ok (.iaload, 1) := by decide +kernel
theorem dX3_work_7 : decode cX3_work 7 = .ok (.iconst 1, 1) := by decide +kernel
theorem dX3_work_8 : decode cX3_work 8 = .ok (.iadd, 1) := by decide +kernel
theorem dX3_work_9 : decode cX3_work 9 = .ok (.iastore, 1) := by decide +kernel
theorem dX3_work_10 : decode cX3_work 10 = .ok (.aload_n 0, 1) := by decide +kernel
theorem dX3_work_11 : decode cX3_work 11 = .ok (.getfield 34, 3) := by decide +kernel
theorem dX3_work_14 : decode cX3_work 14 = .ok (.iload_n 1, 1) := by decide +kernel
theorem dX3_work_15 : decode cX3_work 15 = .ok (.iaload, 1) := by decide +kernel
theorem dX3_work_16 : decode cX3_work 16 = .ok (.iload_n 2, 1) := by decide +kernel
theorem dX3_work_17 : decode cX3_work 17 = .ok (.if_icmp .lt 20, 3) := by decide +kernel
theorem dX3_work_20 : decode cX3_work 20 = .ok (.aload_n 0, 1) := by decide +kernel
theorem dX3_work_21 : decode cX3_work 21 = .ok (.getfield 34, 3) := by decide +kernel
theorem dX3_work_24 : decode cX3_work 24 = .ok (.iload_n 1, 1) := by decide +kernel
theorem dX3_work_25 : decode cX3_work 25 = .ok (.iconst 0, 1) := by decide +kernel
theorem dX3_work_26 : decode cX3_work 26 = .ok (.iastore, 1) := by decide +kernel
theorem dX3_work_27 : decode cX3_work 27 = .ok (.aload_n 0, 1) := by decide +kernel
theorem dX3_work_28 : decode cX3_work 28 = .ok (.getfield 31, 3) := by decide +kernel
theorem dX3_work_31 : decode cX3_work 31 = .ok (.iload_n 1, 1) := by decide +kernel
theorem dX3_work_32 : decode cX3_work 32 = .ok (.dup2, 1) := by decide +kernel
theorem dX3_work_33 : decode cX3_work 33 = .ok (.iaload, 1) := by decide +kernel
theorem dX3_work_34 : decode cX3_work 34 = .ok (.iconst 1, 1) := by decide +kernel
theorem dX3_work_35 : decode cX3_work 35 = .ok (.iadd, 1) := by decide +kernel
theorem dX3_work_36 : decode cX3_work 36 = .ok (.iastore, 1) := by decide +kernel
theorem dX3_work_37 : decode cX3_work 37 = .ok (.return_, 1) := by decide +kernel
theorem dX3_beginChild_0 : decode cX3_beginChild 0 = .ok (.iload_n 1, 1) := by decide +kernel
theorem dX3_beginChild_1 : decode cX3_beginChild 1 = .ok (.iconst 1, 1) := by decide +kernel
theorem dX3_beginChild_2 : decode cX3_beginChild 2 = .ok (.iadd, 1) := by decide +kernel
theorem dX3_beginChild_3 : decode cX3_beginChild 3 = .ok (.istore_n 2, 1) := by decide +kernel
theorem dX3_beginChild_4 : decode cX3_beginChild 4 = .ok (.iload_n 2, 1) := by decide +kernel
theorem dX3_beginChild_5 : decode cX3_beginChild 5 = .ok (.aload_n 0, 1) := by decide +kernel
theorem dX3_beginChild_6 : decode cX3_beginChild 6 = .ok (.getfield 65, 3) := by decide +kernel
theorem dX3_beginChild_9 : decode cX3_beginChild 9 = .ok (.getfield 83, 3) := by decide +kernel
theorem dX3_beginChild_12 : decode cX3_beginChild 12 = .ok (.if_icmp .ge 49, 3) := by decide +kernel
theorem dX3_beginChild_15 : decode cX3_beginChild 15 = .ok (.aload_n 0, 1) := by decide +kernel
theorem dX3_beginChild_16 : decode cX3_beginChild 16 = .ok (.getfield 65, 3) := by decide +kernel
theorem dX3_beginChild_19 : decode cX3_beginChild 19 = .ok (.getfield 88, 3) := by decide +kernel
theorem dX3_beginChild_22 : decode cX3_beginChild 22 = .ok (.iload_n 2, 1) := by decide +kernel
theorem dX3_beginChild_23 : decode cX3_beginChild 23 = .ok (.iaload, 1) := by decide +kernel
theorem dX3_beginChild_24 : decode cX3_beginChild 24 = .ok (.iload_n 1, 1) := by decide +kernel
theorem dX3_beginChild_25 : decode cX3_beginChild 25 = .ok (.if_icmp .ne 30, 3) := by decide +kernel
theorem dX3_beginChild_28 : decode cX3_beginChild 28 = .ok (.aload_n 0, 1) := by decide +kernel
theorem dX3_beginChild_29 : decode cX3_beginChild 29 = .ok (.getfield 15, 3) := by decide +kernel
theorem dX3_beginChild_32 : decode cX3_beginChild 32 = .ok (.iload_n 2, 1) := by decide +kernel
theorem dX3_beginChild_33 : decode cX3_beginChild 33 = .ok (.iaload, 1) := by decide +kernel
theorem dX3_beginChild_34 : decode cX3_beginChild 34 = .ok (.ifCond .ne 21, 3) := by decide +kernel
theorem dX3_beginChild_37 : decode cX3_beginChild 37 = .ok (.aload_n 0, 1) := by decide +kernel
theorem dX3_beginChild_38 : decode cX3_beginChild 38 = .ok (.iload_n 2, 1) := by decide +kernel
theorem dX3_beginChild_39 : decode cX3_beginChild 39 = .ok (.aload_n 0, 1) := by decide +kernel
theorem dX3_beginChild_40 : decode cX3_beginChild 40 = .ok (.getfield 28, 3) := by decide +kernel
theorem dX3_beginChild_43 : decode cX3_beginChild 43 = .ok (.iload_n 1, 1) := by decide +kernel
theorem dX3_beginChild_44 : decode cX3_beginChild 44 = .ok (.iaload, 1) := by decide +kernel
theorem dX3_beginChild_45 : decode cX3_beginChild 45 = .ok (.invokevirtual 70, 3) := by decide +kernel
theorem dX3_beginChild_48 : decode cX3_beginChild 48 = .ok (.aload_n 0, 1) := by decide +kernel
theorem dX3_beginChild_49 : decode cX3_beginChild 49 = .ok (.iload_n 2, 1) := by decide +kernel
theorem dX3_beginChild_50 : decode cX3_beginChild 50 = .ok (.iconst 0, 1) := by decide +kernel
theorem dX3_beginChild_51 : decode cX3_beginChild 51 = .ok (.invokevirtual 137, 3) := by decide +kernel
theorem dX3_beginChild_54 : decode cX3_beginChild 54 = .ok (.return_, 1) := by decide +kernel
theorem dX3_beginChild_55 : decode cX3_beginChild 55 = .ok (.iinc 2 1, 3) := by decide +kernel
theorem dX3_beginChild_58 : decode cX3_beginChild 58 = .ok (.goto (-54), 3) := by decide +kernel
theorem dX3_beginChild_61 : decode cX3_beginChild 61 = .ok (.return_, 1) := by decide +kernel
theorem dX3_start_0 : decode cX3_start 0 = .ok (.aload_n 0, 1) := by decide +kernel
theorem dX3_start_1 : decode cX3_start 1 = .ok (.getfield 15, 3) := by decide +kernel
theorem dX3_start_4 : decode cX3_start 4 = .ok (.iload_n 1, 1) := by decide +kernel
theorem dX3_start_5 : decode cX3_start 5 = .ok (.iconst 1, 1) := by decide +kernel
theorem dX3_start_6 : decode cX3_start 6 = .ok (.iastore, 1) := by decide +kernel
theorem dX3_start_7 : decode cX3_start 7 = .ok (.aload_n 0, 1) := by decide +kernel
theorem dX3_start_8 : decode cX3_start 8 = .ok (.getfield 22, 3) := by decide +kernel
theorem dX3_start_11 : decode cX3_start 11 = .ok (.iload_n 1, 1) := by decide +kernel
theorem dX3_start_12 : decode cX3_start 12 = .ok (.aload_n 0, 1) := by decide +kernel
theorem dX3_start_13 : decode cX3_start 13 = .ok (.getfield 9, 3) := by decide +kernel
theorem dX3_start_16 : decode cX3_start 16 = .ok (.iastore, 1) := by decide +kernel
theorem dX3_start_17 : decode cX3_start 17 = .ok (.aload_n 0, 1) := by decide +kernel
theorem dX3_start_18 : decode cX3_start 18 = .ok (.getfield 28, 3) := by decide +kernel
theorem dX3_start_21 : decode cX3_start 21 = .ok (.iload_n 1, 1) := by decide +kernel
theorem dX3_start_22 : decode cX3_start 22 = .ok (.iload_n 2, 1) := by decide +kernel
theorem dX3_start_23 : decode cX3_start 23 = .ok (.iastore, 1) := by decide +kernel
theorem dX3_start_24 : decode cX3_start 24 = .ok (.aload_n 0, 1) := by decide +kernel
theorem dX3_start_25 : decode cX3_start 25 = .ok (.getfield 65, 3) := by decide +kernel
theorem dX3_start_28 : decode cX3_start 28 = .ok (.getfield 140, 3) := by decide +kernel
theorem dX3_start_31 : decode cX3_start 31 = .ok (.iload_n 1, 1) := by decide +kernel
theorem dX3_start_32 : decode cX3_start 32 = .ok (.iaload, 1) := by decide +kernel
theorem dX3_start_33 : decode cX3_start 33 = .ok (.bipush 99, 2) := by decide +kernel
theorem dX3_start_35 : decode cX3_start 35 = .ok (.if_icmp .eq 27, 3) := by decide +kernel
theorem dX3_start_38 : decode cX3_start 38 = .ok (.aload_n 0, 1) := by decide +kernel
theorem dX3_start_39 : decode cX3_start 39 = .ok (.getfield 28, 3) := by decide +kernel
theorem dX3_start_42 : decode cX3_start 42 = .ok (.iload_n 1, 1) := by decide +kernel
theorem dX3_start_43 : decode cX3_start 43 = .ok (.iload_n 2, 1) := by decide +kernel
theorem dX3_start_44 : decode cX3_start 44 = .ok (.aload_n 0, 1) := by decide +kernel
theorem dX3_start_45 : decode cX3_start 45 = .ok (.getfield 9, 3) := by decide +kernel
theorem dX3_start_48 : decode cX3_start 48 = .ok (.aload_n 0, 1) := by decide +kernel
theorem dX3_start_49 : decode cX3_start 49 = .ok (.getfield 65, 3) := by decide +kernel
theorem dX3_start_52 : decode cX3_start 52 = .ok (.getfield 140, 3) := by decide +kernel
theorem dX3_start_55 : decode cX3_start 55 = .ok (.iload_n 1, 1) := by decide +kernel
theorem dX3_start_56 : decode cX3_start 56 = .ok (.iaload, 1) := by decide +kernel
theorem dX3_start_57 : decode cX3_start 57 = .ok (.iadd, 1) := by decide +kernel
theorem dX3_start_58 : decode cX3_start 58 = .ok (.invokestatic 143, 3) := by decide +kernel
theorem dX3_start_61 : decode cX3_start 61 = .ok (.iastore, 1) := by decide +kernel
theorem dX3_start_62 : decode cX3_start 62 = .ok (.return_, 1) := by decide +kernel
theorem dX3_askChildren_0 : decode cX3_askChildren 0 = .ok (.iload_n 1, 1) := by decide +kernel
theorem dX3_askChildren_1 : decode cX3_askChildren 1 = .ok (.iconst 1, 1) := by decide +kernel
theorem dX3_askChildren_2 : decode cX3_askChildren 2 = .ok (.iadd, 1) := by decide +kernel
theorem dX3_askChildren_3 : decode cX3_askChildren 3 = .ok (.istore_n 2, 1) := by decide +kernel
theorem dX3_askChildren_4 : decode cX3_askChildren 4 = .ok (.iload_n 2, 1) := by decide +kernel
theorem dX3_askChildren_5 : decode cX3_askChildren 5 = .ok (.aload_n 0, 1) := by decide +kernel
theorem dX3_askChildren_6 : decode cX3_askChildren 6 = .ok (.getfield 65, 3) := by decide +kernel
theorem dX3_askChildren_9 : decode cX3_askChildren 9 = .ok (.getfield 83, 3) := by decide +kernel
theorem dX3_askChildren_12 : decode cX3_askChildren 12 = .ok (.if_icmp .ge 39, 3) := by decide +kernel
theorem dX3_askChildren_15 : decode cX3_askChildren 15 = .ok (.aload_n 0, 1) := by decide +kernel
theorem dX3_askChildren_16 : decode cX3_askChildren 16 = .ok (.getfield 65, 3) := by decide +kernel
theorem dX3_askChildren_19 : decode cX3_askChildren 19 = .ok (.getfield 88, 3) := by decide +kernel
theorem dX3_askChildren_22 : decode cX3_askChildren 22 = .ok (.iload_n 2, 1) := by decide +kernel
theorem dX3_askChildren_23 : decode cX3_askChildren 23 = .ok (.iaload, 1) := by decide +kernel
theorem dX3_askChildren_24 : decode cX3_askChildren 24 = .ok (.iload_n 1, 1) := by decide +kernel
theorem dX3_askChildren_25 : decode cX3_askChildren 25 = .ok (.if_icmp .ne 20, 3) := by decide +kernel
theorem dX3_askChildren_28 : decode cX3_askChildren 28 = .ok (.aload_n 0, 1) := by decide +kernel
theorem dX3_askChildren_29 : decode cX3_askChildren 29 = .ok (.getfield 15, 3) := by decide +kernel
theorem dX3_askChildren_32 : decode cX3_askChildren 32 = .ok (.iload_n 2, 1) := by decide +kernel
theorem dX3_askChildren_33 : decode cX3_askChildren 33 = .ok (.iaload, 1) := by decide +kernel
theorem dX3_askChildren_34 : decode cX3_askChildren 34 = .ok (.iconst 1, 1) := by decide +kernel
theorem dX3_askChildren_35 : decode cX3_askChildren 35 = .ok (.if_icmp .ne 10, 3) := by decide +kernel
theorem dX3_askChildren_38 : decode cX3_askChildren 38 = .ok (.aload_n 0, 1) := by decide +kernel
theorem dX3_askChildren_39 : decode cX3_askChildren 39 = .ok (.getfield 40, 3) := by decide +kernel
theorem dX3_askChildren_42 : decode cX3_askChildren 42 = .ok (.iload_n 2, 1) := by decide +kernel
theorem dX3_askChildren_43 : decode cX3_askChildren 43 = .ok (.iconst 1, 1) := by decide +kernel
theorem dX3_askChildren_44 : decode cX3_askChildren 44 = .ok (.iastore, 1) := by decide +kernel
theorem dX3_askChildren_45 : decode cX3_askChildren 45 = .ok (.iinc 2 1, 3) := by decide +kernel
theorem dX3_askChildren_48 : decode cX3_askChildren 48 = .ok (.goto (-44), 3) := by decide +kernel
theorem dX3_askChildren_51 : decode cX3_askChildren 51 = .ok (.return_, 1) := by decide +kernel
theorem dX3_close_0 : decode cX3_close 0 = .ok (.aload_n 0, 1) := by decide +kernel
theorem dX3_close_1 : decode cX3_close 1 = .ok (.getfield 15, 3) := by decide +kernel
theorem dX3_close_4 : decode cX3_close 4 = .ok (.iload_n 1, 1) := by decide +kernel
theorem dX3_close_5 : decode cX3_close 5 = .ok (.iconst 2, 1) := by decide +kernel
theorem dX3_close_6 : decode cX3_close 6 = .ok (.iastore, 1) := by decide +kernel
theorem dX3_close_7 : decode cX3_close 7 = .ok (.aload_n 0, 1) := by decide +kernel
theorem dX3_close_8 : decode cX3_close 8 = .ok (.getfield 19, 3) := by decide +kernel
theorem dX3_close_11 : decode cX3_close 11 = .ok (.iload_n 1, 1) := by decide +kernel
theorem dX3_close_12 : decode cX3_close 12 = .ok (.iload_n 2, 1) := by decide +kernel
theorem dX3_close_13 : decode cX3_close 13 = .ok (.ifCond .ne 16, 3) := by decide +kernel
theorem dX3_close_16 : decode cX3_close 16 = .ok (.aload_n 0, 1) := by decide +kernel
theorem dX3_close_17 : decode cX3_close 17 = .ok (.getfield 43, 3) := by decide +kernel
theorem dX3_close_20 : decode cX3_close 20 = .ok (.iload_n 1, 1) := by decide +kernel
theorem dX3_close_21 : decode cX3_close 21 = .ok (.iaload, 1) := by decide +kernel
theorem dX3_close_22 : decode cX3_close 22 = .ok (.ifCond .le 7, 3) := by decide +kernel
theorem dX3_close_25 : decode cX3_close 25 = .ok (.iconst 1, 1) := by decide +kernel
theorem dX3_close_26 : decode cX3_close 26 = .ok (.goto 4, 3) := by decide +kernel
theorem dX3_close_29 : decode cX3_close 29 = .ok (.iload_n 2, 1) := by decide +kernel
theorem dX3_close_30 : decode cX3_close 30 = .ok (.iastore, 1) := by decide +kernel
theorem dX3_close_31 : decode cX3_close 31 = .ok (.aload_n 0, 1) := by decide +kernel
theorem dX3_close_32 : decode cX3_close 32 = .ok (.iload_n 1, 1) := by decide +kernel
theorem dX3_close_33 : decode cX3_close 33 = .ok (.iconst 1, 1) := by decide +kernel
theorem dX3_close_34 : decode cX3_close 34 = .ok (.invokevirtual 137, 3) := by decide +kernel
theorem dX3_close_37 : decode cX3_close 37 = .ok (.aload_n 0, 1) := by decide +kernel
theorem dX3_close_38 : decode cX3_close 38 = .ok (.getfield 19, 3) := by decide +kernel
theorem dX3_close_41 : decode cX3_close 41 = .ok (.iload_n 1, 1) := by decide +kernel
theorem dX3_close_42 : decode cX3_close 42 = .ok (.iaload, 1) := by decide +kernel
theorem dX3_close_43 : decode cX3_close 43 = .ok (.ifCond .eq 8, 3) := by decide +kernel
theorem dX3_close_46 : decode cX3_close 46 = .ok (.aload_n 0, 1) := by decide +kernel
theorem dX3_close_47 : decode cX3_close 47 = .ok (.iload_n 1, 1) := by decide +kernel
theorem dX3_close_48 : decode cX3_close 48 = .ok (.invokevirtual 134, 3) := by decide +kernel
theorem dX3_close_51 : decode cX3_close 51 = .ok (.return_, 1) := by decide +kernel
theorem dX3_cleansUp_0 : decode cX3_cleansUp 0 = .ok (.aload_n 0, 1) := by decide +kernel
theorem dX3_cleansUp_1 : decode cX3_cleansUp 1 = .ok (.getfield 37, 3) := by decide +kernel
theorem dX3_cleansUp_4 : decode cX3_cleansUp 4 = .ok (.iload_n 1, 1) := by decide +kernel
theorem dX3_cleansUp_5 : decode cX3_cleansUp 5 = .ok (.iaload, 1) := by decide +kernel
theorem dX3_cleansUp_6 : decode cX3_cleansUp 6 = .ok (.aload_n 0, 1) := by decide +kernel
theorem dX3_cleansUp_7 : decode cX3_cleansUp 7 = .ok (.getfield 65, 3) := by decide +kernel
theorem dX3_cleansUp_10 : decode cX3_cleansUp 10 = .ok (.getfield 149, 3) := by decide +kernel
theorem dX3_cleansUp_13 : decode cX3_cleansUp 13 = .ok (.iload_n 1, 1) := by decide +kernel
theorem dX3_cleansUp_14 : decode cX3_cleansUp 14 = .ok (.iaload, 1) := by decide +kernel
theorem dX3_cleansUp_15 : decode cX3_cleansUp 15 = .ok (.if_icmp .ge 13, 3) := by decide +kernel
theorem dX3_cleansUp_18 : decode cX3_cleansUp 18 = .ok (.aload_n 0, 1) := by decide +kernel
theorem dX3_cleansUp_19 : decode cX3_cleansUp 19 = .ok (.getfield 37, 3) := by decide +kernel
theorem dX3_cleansUp_22 : decode cX3_cleansUp 22 = .ok (.iload_n 1, 1) := by decide +kernel
theorem dX3_cleansUp_23 : decode cX3_cleansUp 23 = .ok (.dup2, 1) := by decide +kernel
theorem dX3_cleansUp_24 : decode cX3_cleansUp 24 = .ok (.iaload, 1) := by decide +kernel
theorem dX3_cleansUp_25 : decode cX3_cleansUp 25 = .ok (.iconst 1, 1) := by decide +kernel
theorem dX3_cleansUp_26 : decode cX3_cleansUp 26 = .ok (.iadd, 1) := by decide +kernel
theorem dX3_cleansUp_27 : decode cX3_cleansUp 27 = .ok (.iastore, 1) := by decide +kernel
theorem dX3_cleansUp_28 : decode cX3_cleansUp 28 = .ok (.aload_n 0, 1) := by decide +kernel
theorem dX3_cleansUp_29 : decode cX3_cleansUp 29 = .ok (.getfield 37, 3) := by decide +kernel
theorem dX3_cleansUp_32 : decode cX3_cleansUp 32 = .ok (.iload_n 1, 1) := by decide +kernel
theorem dX3_cleansUp_33 : decode cX3_cleansUp 33 = .ok (.iaload, 1) := by decide +kernel
theorem dX3_cleansUp_34 : decode cX3_cleansUp 34 = .ok (.aload_n 0, 1) := by decide +kernel
theorem dX3_cleansUp_35 : decode cX3_cleansUp 35 = .ok (.getfield 65, 3) := by decide +kernel
theorem dX3_cleansUp_38 : decode cX3_cleansUp 38 = .ok (.getfield 149, 3) := by decide +kernel
theorem dX3_cleansUp_41 : decode cX3_cleansUp 41 = .ok (.iload_n 1, 1) := by decide +kernel
theorem dX3_cleansUp_42 : decode cX3_cleansUp 42 = .ok (.iaload, 1) := by decide +kernel
theorem dX3_cleansUp_43 : decode cX3_cleansUp 43 = .ok (.if_icmp .lt 7, 3) := by decide +kernel
theorem dX3_cleansUp_46 : decode cX3_cleansUp 46 = .ok (.iconst 1, 1) := by decide +kernel
theorem dX3_cleansUp_47 : decode cX3_cleansUp 47 = .ok (.goto 4, 3) := by decide +kernel
theorem dX3_cleansUp_50 : decode cX3_cleansUp 50 = .ok (.iconst 0, 1) := by decide +kernel
theorem dX3_cleansUp_51 : decode cX3_cleansUp 51 = .ok (.ireturn, 1) := by decide +kernel
theorem dX3_end_0 : decode cX3_end 0 = .ok (.aload_n 0, 1) := by decide +kernel
theorem dX3_end_1 : decode cX3_end 1 = .ok (.getfield 15, 3) := by decide +kernel
theorem dX3_end_4 : decode cX3_end 4 = .ok (.iload_n 1, 1) := by decide +kernel
theorem dX3_end_5 : decode cX3_end 5 = .ok (.iconst 3, 1) := by decide +kernel
theorem dX3_end_6 : decode cX3_end 6 = .ok (.iastore, 1) := by decide +kernel
theorem dX3_end_7 : decode cX3_end 7 = .ok (.aload_n 0, 1) := by decide +kernel
theorem dX3_end_8 : decode cX3_end 8 = .ok (.getfield 25, 3) := by decide +kernel
theorem dX3_end_11 : decode cX3_end 11 = .ok (.iload_n 1, 1) := by decide +kernel
theorem dX3_end_12 : decode cX3_end 12 = .ok (.aload_n 0, 1) := by decide +kernel
theorem dX3_end_13 : decode cX3_end 13 = .ok (.getfield 9, 3) := by decide +kernel
theorem dX3_end_16 : decode cX3_end 16 = .ok (.iastore, 1) := by decide +kernel
theorem dX3_end_17 : decode cX3_end 17 = .ok (.aload_n 0, 1) := by decide +kernel
theorem dX3_end_18 : decode cX3_end 18 = .ok (.iload_n 1, 1) := by decide +kernel
theorem dX3_end_19 : decode cX3_end 19 = .ok (.iconst 2, 1) := by decide +kernel
theorem dX3_end_20 : decode cX3_end 20 = .ok (.invokevirtual 137, 3) := by decide +kernel
theorem dX3_end_23 : decode cX3_end 23 = .ok (.aload_n 0, 1) := by decide +kernel
theorem dX3_end_24 : decode cX3_end 24 = .ok (.getfield 65, 3) := by decide +kernel
theorem dX3_end_27 : decode cX3_end 27 = .ok (.getfield 88, 3) := by decide +kernel
theorem dX3_end_30 : decode cX3_end 30 = .ok (.iload_n 1, 1) := by decide +kernel
theorem dX3_end_31 : decode cX3_end 31 = .ok (.iaload, 1) := by decide +kernel
theorem dX3_end_32 : decode cX3_end 32 = .ok (.istore_n 2, 1) := by decide +kernel
theorem dX3_end_33 : decode cX3_end 33 = .ok (.iload_n 2, 1) := by decide +kernel
theorem dX3_end_34 : decode cX3_end 34 = .ok (.ifCond .lt 34, 3) := by decide +kernel
theorem dX3_end_37 : decode cX3_end 37 = .ok (.aload_n 0, 1) := by decide +kernel
theorem dX3_end_38 : decode cX3_end 38 = .ok (.getfield 19, 3) := by decide +kernel
theorem dX3_end_41 : decode cX3_end 41 = .ok (.iload_n 1, 1) := by decide +kernel
theorem dX3_end_42 : decode cX3_end 42 = .ok (.iaload, 1) := by decide +kernel
theorem dX3_end_43 : decode cX3_end 43 = .ok (.iconst 1, 1) := by decide +kernel
theorem dX3_end_44 : decode cX3_end 44 = .ok (.if_icmp .eq 13, 3) := by decide +kernel
theorem dX3_end_47 : decode cX3_end 47 = .ok (.aload_n 0, 1) := by decide +kernel
theorem dX3_end_48 : decode cX3_end 48 = .ok (.getfield 19, 3) := by decide +kernel
theorem dX3_end_51 : decode cX3_end 51 = .ok (.iload_n 1, 1) := by decide +kernel
theorem dX3_end_52 : decode cX3_end 52 = .ok (.iaload, 1) := by decide +kernel
theorem dX3_end_53 : decode cX3_end 53 = .ok (.iconst 3, 1) := by decide +kernel
theorem dX3_end_54 : decode cX3_end 54 = .ok (.if_icmp .ne 14, 3) := by decide +kernel
theorem dX3_end_57 : decode cX3_end 57 = .ok (.aload_n 0, 1) := by decide +kernel
theorem dX3_end_58 : decode cX3_end 58 = .ok (.iload_n 1, 1) := by decide +kernel
theorem dX3_end_59 : decode cX3_end 59 = .ok (.iload_n 2, 1) := by decide +kernel
theorem dX3_end_60 : decode cX3_end 60 = .ok (.invokevirtual 152, 3) := by decide +kernel
theorem dX3_end_63 : decode cX3_end 63 = .ok (.aload_n 0, 1) := by decide +kernel
theorem dX3_end_64 : decode cX3_end 64 = .ok (.iload_n 2, 1) := by decide +kernel
theorem dX3_end_65 : decode cX3_end 65 = .ok (.invokevirtual 155, 3) := by decide +kernel
theorem dX3_end_68 : decode cX3_end 68 = .ok (.return_, 1) := by decide +kernel
theorem dX3_giveList_0 : decode cX3_giveList 0 = .ok (.iconst 0, 1) := by decide +kernel
theorem dX3_giveList_1 : decode cX3_giveList 1 = .ok (.istore_n 3, 1) := by decide +kernel
theorem dX3_giveList_2 : decode cX3_giveList 2 = .ok (.iload_n 3, 1) := by decide +kernel
theorem dX3_giveList_3 : decode cX3_giveList 3 = .ok (.aload_n 0, 1) := by decide +kernel
theorem dX3_giveList_4 : decode cX3_giveList 4 = .ok (.getfield 43, 3) := by decide +kernel
theorem dX3_giveList_7 : decode cX3_giveList 7 = .ok (.iload_n 1, 1) := by decide +kernel
theorem dX3_giveList_8 : decode cX3_giveList 8 = .ok (.iaload, 1) := by decide +kernel
theorem dX3_giveList_9 : decode cX3_giveList 9 = .ok (.if_icmp .ge 31, 3) := by decide +kernel
theorem dX3_giveList_12 : decode cX3_giveList 12 = .ok (.iload_n 3, 1) := by decide +kernel
theorem dX3_giveList_13 : decode cX3_giveList 13 = .ok (.bipush 8, 2) := by decide +kernel
theorem dX3_giveList_15 : decode cX3_giveList 15 = .ok (.if_icmp .ge 25, 3) := by decide +kernel
theorem dX3_giveList_18 : decode cX3_giveList 18 = .ok (.aload_n 0, 1) := by decide +kernel
theorem dX3_giveList_19 : decode cX3_giveList 19 = .ok (.iload_n 2, 1) := by decide +kernel
theorem dX3_giveList_20 : decode cX3_giveList 20 = .ok (.aload_n 0, 1) := by decide +kernel
theorem dX3_giveList_21 : decode cX3_giveList 21 = .ok (.getfield 46, 3) := by decide +kernel
theorem dX3_giveList_24 : decode cX3_giveList 24 = .ok (.iload_n 1, 1) := by decide +kernel
theorem dX3_giveList_25 : decode cX3_giveList 25 = .ok (.bipush 8, 2) := by decide +kernel
theorem dX3_giveList_27 : decode cX3_giveList 27 = .ok (.imul, 1) := by decide +kernel
theorem dX3_giveList_28 : decode cX3_giveList 28 = .ok (.iload_n 3, 1) := by decide +kernel
theorem dX3_giveList_29 : decode cX3_giveList 29 = .ok (.iadd, 1) := by decide +kernel
theorem dX3_giveList_30 : decode cX3_giveList 30 = .ok (.iaload, 1) := by decide +kernel
theorem dX3_giveList_31 : decode cX3_giveList 31 = .ok (.invokevirtual 91, 3) := by decide +kernel
theorem dX3_giveList_34 : decode cX3_giveList 34 = .ok (.iinc 3 1, 3) := by decide +kernel
theorem dX3_giveList_37 : decode cX3_giveList 37 = .ok (.goto (-35), 3) := by decide +kernel
theorem dX3_giveList_40 : decode cX3_giveList 40 = .ok (.return_, 1) := by decide +kernel
theorem dX3_takeFailure_0 : decode cX3_takeFailure 0 = .ok (.aload_n 0, 1) := by decide +kernel
theorem dX3_takeFailure_1 : decode cX3_takeFailure 1 = .ok (.getfield 15, 3) := by decide +kernel
theorem dX3_takeFailure_4 : decode cX3_takeFailure 4 = .ok (.iload_n 1, 1) := by decide +kernel
theorem dX3_takeFailure_5 : decode cX3_takeFailure 5 = .ok (.iaload, 1) := by decide +kernel
theorem dX3_takeFailure_6 : decode cX3_takeFailure 6 = .ok (.iconst 1, 1) := by decide +kernel
theorem dX3_takeFailure_7 : decode cX3_takeFailure 7 = .ok (.if_icmp .ne 24, 3) := by decide +kernel
theorem dX3_takeFailure_10 : decode cX3_takeFailure 10 = .ok (.aload_n 0, 1) := by decide +kernel
theorem dX3_takeFailure_11 : decode cX3_takeFailure 11 = .ok (.getfield 65, 3) := by decide +kernel
theorem dX3_takeFailure_14 : decode cX3_takeFailure 14 = .ok (.getfield 158, 3) := by decide +kernel
theorem dX3_takeFailure_17 : decode cX3_takeFailure 17 = .ok (.iload_n 1, 1) := by decide +kernel
theorem dX3_takeFailure_18 : decode cX3_takeFailure 18 = .ok (.iaload, 1) := by decide +kernel
theorem dX3_takeFailure_19 : decode cX3_takeFailure 19 = .ok (.ifCond .ne 12, 3) := by decide +kernel
theorem dX3_takeFailure_22 : decode cX3_takeFailure 22 = .ok (.aload_n 0, 1) := by decide +kernel
theorem dX3_takeFailure_23 : decode cX3_takeFailure 23 = .ok (.iload_n 1, 1) := by decide +kernel
theorem dX3_takeFailure_24 : decode cX3_takeFailure 24 = .ok (.iconst 1, 1) := by decide +kernel
theorem dX3_takeFailure_25 : decode cX3_takeFailure 25 = .ok (.invokevirtual 94, 3) := by decide +kernel
theorem dX3_takeFailure_28 : decode cX3_takeFailure 28 = .ok (.goto 34, 3) := by decide +kernel
theorem dX3_takeFailure_31 : decode cX3_takeFailure 31 = .ok (.aload_n 0, 1) := by decide +kernel
theorem dX3_takeFailure_32 : decode cX3_takeFailure 32 = .ok (.getfield 15, 3) := by decide +kernel
theorem dX3_takeFailure_35 : decode cX3_takeFailure 35 = .ok (.iload_n 1, 1) := by decide +kernel
theorem dX3_takeFailure_36 : decode cX3_takeFailure 36 = .ok (.iaload, 1) := by decide +kernel
theorem dX3_takeFailure_37 : decode cX3_takeFailure 37 = .ok (.iconst 2, 1) := by decide +kernel
theorem dX3_takeFailure_38 : decode cX3_takeFailure 38 = .ok (.if_icmp .ne 24, 3) := by decide +kernel
theorem dX3_takeFailure_41 : decode cX3_takeFailure 41 = .ok (.aload_n 0, 1) := by decide +kernel
theorem dX3_takeFailure_42 : decode cX3_takeFailure 42 = .ok (.getfield 19, 3) := by decide +kernel
theorem dX3_takeFailure_45 : decode cX3_takeFailure 45 = .ok (.iload_n 1, 1) := by decide +kernel
theorem dX3_takeFailure_46 : decode cX3_takeFailure 46 = .ok (.iaload, 1) := by decide +kernel
theorem dX3_takeFailure_47 : decode cX3_takeFailure 47 = .ok (.ifCond .ne 15, 3) := by decide +kernel
theorem dX3_takeFailure_50 : decode cX3_takeFailure 50 = .ok (.aload_n 0, 1) := by decide +kernel
theorem dX3_takeFailure_51 : decode cX3_takeFailure 51 = .ok (.getfield 19, 3) := by decide +kernel
theorem dX3_takeFailure_54 : decode cX3_takeFailure 54 = .ok (.iload_n 1, 1) := by decide +kernel
theorem dX3_takeFailure_55 : decode cX3_takeFailure 55 = .ok (.iconst 1, 1) := by decide +kernel
theorem dX3_takeFailure_56 : decode cX3_takeFailure 56 = .ok (.iastore, 1) := by decide +kernel
theorem dX3_takeFailure_57 : decode cX3_takeFailure 57 = .ok (.aload_n 0, 1) := by decide +kernel
theorem dX3_takeFailure_58 : decode cX3_takeFailure 58 = .ok (.iload_n 1, 1) := by decide +kernel
theorem dX3_takeFailure_59 : decode cX3_takeFailure 59 = .ok (.invokevirtual 134, 3) := by decide +kernel
theorem dX3_takeFailure_62 : decode cX3_takeFailure 62 = .ok (.return_, 1) := by decide +kernel
theorem dX3_addCode_0 : decode cX3_addCode 0 = .ok (.aload_n 0, 1) := by decide +kernel
theorem dX3_addCode_1 : decode cX3_addCode 1 = .ok (.getfield 43, 3) := by decide +kernel
theorem dX3_addCode_4 : decode cX3_addCode 4 = .ok (.iload_n 1, 1) := by decide +kernel
theorem dX3_addCode_5 : decode cX3_addCode 5 = .ok (.iaload, 1) := by decide +kernel
theorem dX3_addCode_6 : decode cX3_addCode 6 = .ok (.bipush 8, 2) := by decide +kernel
theorem dX3_addCode_8 : decode cX3_addCode 8 = .ok (.if_icmp .ge 30, 3) := by decide +kernel
theorem dX3_addCode_11 : decode cX3_addCode 11 = .ok (.aload_n 0, 1) := by decide +kernel
theorem dX3_addCode_12 : decode cX3_addCode 12 = .ok (.getfield 46, 3) := by decide +kernel
theorem dX3_addCode_15 : decode cX3_addCode 15 = .ok (.iload_n 1, 1) := by decide +kernel
theorem dX3_addCode_16 : decode cX3_addCode 16 = .ok (.bipush 8, 2) := by decide +kernel
theorem dX3_addCode_18 : decode cX3_addCode 18 = .ok (.imul, 1) := by decide +kernel
theorem dX3_addCode_19 : decode cX3_addCode 19 = .ok (.aload_n 0, 1) := by decide +kernel
theorem dX3_addCode_20 : decode cX3_addCode 20 = .ok (.getfield 43, 3) := by decide +kernel
theorem dX3_addCode_23 : decode cX3_addCode 23 = .ok (.iload_n 1, 1) := by decide +kernel
theorem dX3_addCode_24 : decode cX3_addCode 24 = .ok (.iaload, 1) := by decide +kernel
theorem dX3_addCode_25 : decode cX3_addCode 25 = .ok (.iadd, 1) := by decide +kernel
theorem dX3_addCode_26 : decode cX3_addCode 26 = .ok (.iload_n 2, 1) := by decide +kernel
theorem dX3_addCode_27 : decode cX3_addCode 27 = .ok (.iastore, 1) := by decide +kernel
theorem dX3_addCode_28 : decode cX3_addCode 28 = .ok (.aload_n 0, 1) := by decide +kernel
theorem dX3_addCode_29 : decode cX3_addCode 29 = .ok (.getfield 43, 3) := by decide +kernel
theorem dX3_addCode_32 : decode cX3_addCode 32 = .ok (.iload_n 1, 1) := by decide +kernel
theorem dX3_addCode_33 : decode cX3_addCode 33 = .ok (.dup2, 1) := by decide +kernel
theorem dX3_addCode_34 : decode cX3_addCode 34 = .ok (.iaload, 1) := by decide +kernel
theorem dX3_addCode_35 : decode cX3_addCode 35 = .ok (.iconst 1, 1) := by decide +kernel
theorem dX3_addCode_36 : decode cX3_addCode 36 = .ok (.iadd, 1) := by decide +kernel
theorem dX3_addCode_37 : decode cX3_addCode 37 = .ok (.iastore, 1) := by decide +kernel
theorem dX3_addCode_38 : decode cX3_addCode 38 = .ok (.return_, 1) := by decide +kernel
theorem dX3_note_0 : decode cX3_note 0 = .ok (.aload_n 0, 1) := by decide +kernel
theorem dX3_note_1 : decode cX3_note 1 = .ok (.getfield 49, 3) := by decide +kernel
theorem dX3_note_4 : decode cX3_note 4 = .ok (.bipush 60, 2) := by decide +kernel
theorem dX3_note_6 : decode cX3_note 6 = .ok (.if_icmp .ge 46, 3) := by decide +kernel
theorem dX3_note_9 : decode cX3_note 9 = .ok (.aload_n 0, 1) := by decide +kernel
theorem dX3_note_10 : decode cX3_note 10 = .ok (.getfield 52, 3) := by decide +kernel
theorem dX3_note_13 : decode cX3_note 13 = .ok (.aload_n 0, 1) := by decide +kernel
theorem dX3_note_14 : decode cX3_note 14 = .ok (.getfield 49, 3) := by decide +kernel
theorem dX3_note_17 : decode cX3_note 17 = .ok (.aload_n 0, 1) := by decide +kernel
theorem dX3_note_18 : decode cX3_note 18 = .ok (.getfield 9, 3) := by decide +kernel
theorem dX3_note_21 : decode cX3_note 21 = .ok (.iastore, 1) := by decide +kernel
theorem dX3_note_22 : decode cX3_note 22 = .ok (.aload_n 0, 1) := by decide +kernel
theorem dX3_note_23 : decode cX3_note 23 = .ok (.getfield 55, 3) := by decide +kernel
theorem dX3_note_26 : decode cX3_note 26 = .ok (.aload_n 0, 1) := by decide +kernel
theorem dX3_note_27 : decode cX3_note 27 = .ok (.getfield 49, 3) := by decide +kernel
theorem dX3_note_30 : decode cX3_note 30 = .ok (.iload_n 1, 1) := by decide +kernel
theorem dX3_note_31 : decode cX3_note 31 = .ok (.iastore, 1) := by decide +kernel
theorem dX3_note_32 : decode cX3_note 32 = .ok (.aload_n 0, 1) := by decide +kernel
theorem dX3_note_33 : decode cX3_note 33 = .ok (.getfield 58, 3) := by decide +kernel
theorem dX3_note_36 : decode cX3_note 36 = .ok (.aload_n 0, 1) := by decide +kernel
theorem dX3_note_37 : decode cX3_note 37 = .ok (.getfield 49, 3) := by decide +kernel
theorem dX3_note_40 : decode cX3_note 40 = .ok (.iload_n 2, 1) := by decide +kernel
theorem dX3_note_41 : decode cX3_note 41 = .ok (.iastore, 1) := by decide +kernel
theorem dX3_note_42 : decode cX3_note 42 = .ok (.aload_n 0, 1) := by decide +kernel
theorem dX3_note_43 : decode cX3_note 43 = .ok (.dup, 1) := by decide +kernel
theorem dX3_note_44 : decode cX3_note 44 = .ok (.getfield 49, 3) := by decide +kernel
theorem dX3_note_47 : decode cX3_note 47 = .ok (.iconst 1, 1) := by decide +kernel
theorem dX3_note_48 : decode cX3_note 48 = .ok (.iadd, 1) := by decide +kernel
theorem dX3_note_49 : decode cX3_note 49 = .ok (.putfield 49, 3) := by decide +kernel
theorem dX3_note_52 : decode cX3_note 52 = .ok (.return_, 1) := by decide +kernel
theorem dX4_init_0 : decode cX4_init 0 = .ok (.aload_n 0, 1) := by decide +kernel
theorem dX4_init_1 : decode cX4_init 1 = .ok (.invokespecial 3, 3) := by decide +kernel
theorem dX4_init_4 : decode cX4_init 4 = .ok (.aload_n 0, 1) := by decide +kernel
theorem dX4_init_5 : decode cX4_init 5 = .ok (.bipush 120, 2) := by decide +kernel
theorem dX4_init_7 : decode cX4_init 7 = .ok (.newarray .int, 2) := by decide +kernel
theorem dX4_init_9 : decode cX4_init 9 = .ok (.putfield 9, 3) := by decide +kernel
theorem dX4_init_12 : decode cX4_init 12 = .ok (.aload_n 0, 1) := by decide +kernel
theorem dX4_init_13 : decode cX4_init 13 = .ok (.iconst 0, 1) := by decide +kernel
theorem dX4_init_14 : decode cX4_init 14 = .ok (.putfield 15, 3) := by decide +kernel
theorem dX4_init_17 : decode cX4_init 17 = .ok (.aload_n 0, 1) := by decide +kernel
theorem dX4_init_18 : decode cX4_init 18 = .ok (.iconst (-1), 1) := by decide +kernel
theorem dX4_init_19 : decode cX4_init 19 = .ok (.putfield 19, 3) := by decide +kernel
theorem dX4_init_22 : decode cX4_init 22 = .ok (.aload_n 0, 1) := by decide +kernel
theorem dX4_init_23 : decode cX4_init 23 = .ok (.iconst 0, 1) := by decide +kernel
theorem dX4_init_24 : decode cX4_init 24 = .ok (.putfield 22, 3) := by decide +kernel
theorem dX4_init_27 : decode cX4_init 27 = .ok (.aload_n 0, 1) := by decide +kernel
theorem dX4_init_28 : decode cX4_init 28 = .ok (.iconst 0, 1) := by decide +kernel
theorem dX4_init_29 : decode cX4_init 29 = .ok (.putfield 25, 3) := by decide +kernel
theorem dX4_init_32 : decode cX4_init 32 = .ok (.aload_n 0, 1) := by decide +kernel
theorem dX4_init_33 : decode cX4_init 33 = .ok (.iconst 0, 1) := by decide +kernel
theorem dX4_init_34 : decode cX4_init 34 = .ok (.putfield 28, 3) := by decide +kernel
theorem dX4_init_37 : decode cX4_init 37 = .ok (.return_, 1) := by decide +kernel
theorem dX4_append_0 : decode cX4_append 0 = .ok (.aload_n 0, 1) := by decide +kernel
theorem dX4_append_1 : decode cX4_append 1 = .ok (.getfield 15, 3) := by decide +kernel
theorem dX4_append_4 : decode cX4_append 4 = .ok (.bipush 120, 2) := by decide +kernel
theorem dX4_append_6 : decode cX4_append 6 = .ok (.if_icmp .lt 5, 3) := by decide +kernel
theorem dX4_append_9 : decode cX4_append 9 = .ok (.iconst 0, 1) := by decide +kernel
theorem dX4_append_10 : decode cX4_append 10 = .ok (.ireturn, 1) := by decide +kernel
theorem dX4_append_11 : decode cX4_append 11 = .ok (.aload_n 0, 1) := by decide +kernel
theorem dX4_append_12 : decode cX4_append 12 = .ok (.getfield 9, 3) := by decide +kernel
theorem dX4_append_15 : decode cX4_append 15 = .ok (.aload_n 0, 1) := by decide +kernel
theorem dX4_append_16 : decode cX4_append 16 = .ok (.getfield 15, 3) := by decide +kernel
theorem dX4_append_19 : decode cX4_append 19 = .ok (.iload_n 1, 1) := by decide +kernel
theorem dX4_append_20 : decode cX4_append 20 = .ok (.iastore, 1) := by decide +kernel
theorem dX4_append_21 : decode cX4_append 21 = .ok (.aload_n 0, 1) := by decide +kernel
theorem dX4_append_22 : decode cX4_append 22 = .ok (.dup, 1) := by decide +kernel
theorem dX4_append_23 : decode cX4_append 23 = .ok (.getfield 15, 3) := by decide +kernel
theorem dX4_append_26 : decode cX4_append 26 = .ok (.iconst 1, 1) := by decide +kernel
theorem dX4_append_27 : decode cX4_append 27 = .ok (.iadd, 1) := by decide +kernel
theorem dX4_append_28 : decode cX4_append 28 = .ok (.putfield 15, 3) := by decide +kernel
theorem dX4_append_31 : decode cX4_append 31 = .ok (.iconst 1, 1) := by decide +kernel
theorem dX4_append_32 : decode cX4_append 32 = .ok (.ireturn, 1) := by decide +kernel
theorem dX4_goToFirst_0 : decode cX4_goToFirst 0 = .ok (.aload_n 0, 1) := by decide +kernel
theorem dX4_goToFirst_1 : decode cX4_goToFirst 1 = .ok (.iconst 0, 1) := by decide +kernel
theorem dX4_goToFirst_2 : decode cX4_goToFirst 2 = .ok (.putfield 28, 3) := by decide +kernel
theorem dX4_goToFirst_5 : decode cX4_goToFirst 5 = .ok (.aload_n 0, 1) := by decide +kernel
theorem dX4_goToFirst_6 : decode cX4_goToFirst 6 = .ok (.invokevirtual 31, 3) := by decide +kernel
theorem dX4_goToFirst_9 : decode cX4_goToFirst 9 = .ok (.return_, 1) := by decide +kernel
theorem dX4_advance_0 : decode cX4_advance 0 = .ok (.aload_n 0, 1) := by decide +kernel
theorem dX4_advance_1 : decode cX4_advance 1 = .ok (.getfield 28, 3) := by decide +kernel
theorem dX4_advance_4 : decode cX4_advance 4 = .ok (.aload_n 0, 1) := by decide +kernel
theorem dX4_advance_5 : decode cX4_advance 5 = .ok (.getfield 15, 3) := by decide +kernel
theorem dX4_advance_8 : decode cX4_advance 8 = .ok (.if_icmp .ge 30, 3) := by decide +kernel
theorem dX4_advance_11 : decode cX4_advance 11 = .ok (.aload_n 0, 1) := by decide +kernel
theorem dX4_advance_12 : decode cX4_advance 12 = .ok (.getfield 9, 3) := by decide +kernel
theorem dX4_advance_15 : decode cX4_advance 15 = .ok (.aload_n 0, 1) := by decide +kernel
theorem dX4_advance_16 : decode cX4_advance 16 = .ok (.getfield 28, 3) := by decide +kernel
theorem dX4_advance_19 : decode cX4_advance 19 = .ok (.iaload, 1) := by decide +kernel
theorem dX4_advance_20 : decode cX4_advance 20 = .ok (.bipush 32, 2) := by decide +kernel
theorem dX4_advance_22 : decode cX4_advance 22 = .ok (.if_icmp .ne 16, 3) := by decide +kernel
theorem dX4_advance_25 : decode cX4_advance 25 = .ok (.aload_n 0, 1) := by decide +kernel
theorem dX4_advance_26 : decode cX4_advance 26 = .ok (.dup, 1) := by decide +kernel
theorem dX4_advance_27 : decode cX4_advance 27 = .ok (.getfield 28, 3) := by decide +kernel
theorem dX4_advance_30 : decode cX4_advance 30 = .ok (.iconst 1, 1) := by decide +kernel
theorem dX4_advance_31 : decode cX4_advance 31 = .ok (.iadd, 1) := by decide +kernel
theorem dX4_advance_32 : decode cX4_advance 32 = .ok (.putfield 28, 3) := by decide +kernel
theorem dX4_advance_35 : decode cX4_advance 35 = .ok (.goto (-35), 3) := by decide +kernel
theorem dX4_advance_38 : decode cX4_advance 38 = .ok (.aload_n 0, 1) := by decide +kernel
theorem dX4_advance_39 : decode cX4_advance 39 = .ok (.aload_n 0, 1) := by decide +kernel
theorem dX4_advance_40 : decode cX4_advance 40 = .ok (.getfield 28, 3) := by decide +kernel
theorem dX4_advance_43 : decode cX4_advance 43 = .ok (.putfield 25, 3) := by decide +kernel
theorem dX4_advance_46 : decode cX4_advance 46 = .ok (.aload_n 0, 1) := by decide +kernel
theorem dX4_advance_47 : decode cX4_advance 47 = .ok (.iconst 0, 1) := by decide +kernel
theorem dX4_advance_48 : decode cX4_advance 48 = .ok (.putfield 22, 3) := by decide +kernel
theorem dX4_advance_51 : decode cX4_advance 51 = .ok (.aload_n 0, 1) := by decide +kernel
theorem dX4_advance_52 : decode cX4_advance 52 = .ok (.getfield 28, 3) := by decide +kernel
theorem dX4_advance_55 : decode cX4_advance 55 = .ok (.aload_n 0, 1) := by decide +kernel
theorem dX4_advance_56 : decode cX4_advance 56 = .ok (.getfield 15, 3) := by decide +kernel
theorem dX4_advance_59 : decode cX4_advance 59 = .ok (.if_icmp .ge 73, 3) := by decide +kernel
theorem dX4_advance_62 : decode cX4_advance 62 = .ok (.aload_n 0, 1) := by decide +kernel
theorem dX4_advance_63 : decode cX4_advance 63 = .ok (.getfield 9, 3) := by decide +kernel
theorem dX4_advance_66 : decode cX4_advance 66 = .ok (.aload_n 0, 1) := by decide +kernel
theorem dX4_advance_67 : decode cX4_advance 67 = .ok (.getfield 28, 3) := by decide +kernel
theorem dX4_advance_70 : decode cX4_advance 70 = .ok (.iaload, 1) := by decide +kernel
theorem dX4_advance_71 : decode cX4_advance 71 = .ok (.bipush 48, 2) := by decide +kernel
theorem dX4_advance_73 : decode cX4_advance 73 = .ok (.if_icmp .lt 59, 3) := by decide +kernel
theorem dX4_advance_76 : decode cX4_advance 76 = .ok (.aload_n 0, 1) := by decide +kernel
theorem dX4_advance_77 : decode cX4_advance 77 = .ok (.getfield 9, 3) := by decide +kernel
theorem dX4_advance_80 : decode cX4_advance 80 = .ok (.aload_n 0, 1) := by decide +kernel
theorem dX4_advance_81 : decode cX4_advance 81 = .ok (.getfield 28, 3) := by decide +kernel
theorem dX4_advance_84 : decode cX4_advance 84 = .ok (.iaload, 1) := by decide +kernel
theorem dX4_advance_85 : decode cX4_advance 85 = .ok (.bipush 57, 2) := by decide +kernel
theorem dX4_advance_87 : decode cX4_advance 87 = .ok (.if_icmp .gt 45, 3) := by decide +kernel
theorem dX4_advance_90 : decode cX4_advance 90 = .ok (.aload_n 0, 1) := by decide +kernel
theorem dX4_advance_91 : decode cX4_advance 91 = .ok (.aload_n 0, 1) := by decide +kernel
theorem dX4_advance_92 : decode cX4_advance 92 = .ok (.getfield 22, 3) := by decide +kernel
theorem dX4_advance_95 : decode cX4_advance 95 = .ok (.bipush 10, 2) := by decide +kernel
theorem dX4_advance_97 : decode cX4_advance 97 = .ok (.imul, 1) := by decide +kernel
theorem dX4_advance_98 : decode cX4_advance 98 = .ok (.aload_n 0, 1) := by decide +kernel
theorem dX4_advance_99 : decode cX4_advance 99 = .ok (.getfield 9, 3) := by decide +kernel
theorem dX4_advance_102 : decode cX4_advance 102 = .ok (.aload_n 0, 1) := by decide +kernel
theorem dX4_advance_103 : decode cX4_advance 103 = .ok (.getfield 28, 3) := by decide +kernel
theorem dX4_advance_106 : decode cX4_advance 106 = .ok (.iaload, 1) := by decide +kernel
theorem dX4_advance_107 : decode cX4_advance 107 = .ok (.iadd, 1) := by decide +kernel
theorem dX4_advance_108 : decode cX4_advance 108 = .ok (.bipush 48, 2) := by decide +kernel
theorem dX4_advance_110 : decode cX4_advance 110 = .ok (.isub, 1) := by decide +kernel
theorem dX4_advance_111 : decode cX4_advance 111 = .ok (.bipush 100, 2) := by decide +kernel
theorem dX4_advance_113 : decode cX4_advance 113 = .ok (.invokestatic 34, 3) := by decide +kernel
theorem dX4_advance_116 : decode cX4_advance 116 = .ok (.putfield 22, 3) := by decide +kernel
theorem dX4_advance_119 : decode cX4_advance 119 = .ok (.aload_n 0, 1) := by decide +kernel
theorem dX4_advance_120 : decode cX4_advance 120 = .ok (.dup, 1) := by decide +kernel
theorem dX4_advance_121 : decode cX4_advance 121 = .ok (.getfield 28, 3) := by decide +kernel
theorem dX4_advance_124 : decode cX4_advance 124 = .ok (.iconst 1, 1) := by decide +kernel
theorem dX4_advance_125 : decode cX4_advance 125 = .ok (.iadd, 1) := by decide +kernel
theorem dX4_advance_126 : decode cX4_advance 126 = .ok (.putfield 28, 3) := by decide +kernel
theorem dX4_advance_129 : decode cX4_advance 129 = .ok (.goto (-78), 3) := by decide +kernel
theorem dX4_advance_132 : decode cX4_advance 132 = .ok (.aload_n 0, 1) := by decide +kernel
theorem dX4_advance_133 : decode cX4_advance 133 = .ok (.getfield 28, 3) := by decide +kernel
theorem dX4_advance_136 : decode cX4_advance 136 = .ok (.aload_n 0, 1) := by decide +kernel
theorem dX4_advance_137 : decode cX4_advance 137 = .ok (.getfield 25, 3) := by decide +kernel
theorem dX4_advance_140 : decode cX4_advance 140 = .ok (.if_icmp .le 63, 3) := by decide +kernel
theorem dX4_advance_143 : decode cX4_advance 143 = .ok (.aload_n 0, 1) := by decide +kernel
theorem dX4_advance_144 : decode cX4_advance 144 = .ok (.getfield 9, 3) := by decide +kernel
theorem dX4_advance_147 : decode cX4_advance 147 = .ok (.aload_n 0, 1) := by decide +kernel
theorem dX4_advance_148 : decode cX4_advance 148 = .ok (.getfield 25, 3) := by decide +kernel
theorem dX4_advance_151 : decode cX4_advance 151 = .ok (.iaload, 1) := by decide +kernel
theorem dX4_advance_152 : decode cX4_advance 152 = .ok (.bipush 48, 2) := by decide +kernel
theorem dX4_advance_154 : decode cX4_advance 154 = .ok (.if_icmp .ne 20, 3) := by decide +kernel
theorem dX4_advance_157 : decode cX4_advance 157 = .ok (.aload_n 0, 1) := by decide +kernel
theorem dX4_advance_158 : decode cX4_advance 158 = .ok (.getfield 28, 3) := by decide +kernel
theorem dX4_advance_161 : decode cX4_advance 161 = .ok (.aload_n 0, 1) := by decide +kernel
theorem dX4_advance_162 : decode cX4_advance 162 = .ok (.getfield 25, 3) := by decide +kernel
theorem dX4_advance_165 : decode cX4_advance 165 = .ok (.isub, 1) := by decide +kernel
theorem dX4_advance_166 : decode cX4_advance 166 = .ok (.iconst 1, 1) := by decide +kernel
theorem dX4_advance_167 : decode cX4_advance 167 = .ok (.if_icmp .le 7, 3) := by decide +kernel
theorem dX4_advance_170 : decode cX4_advance 170 = .ok (.iconst 1, 1) := by decide +kernel
theorem dX4_advance_171 : decode cX4_advance 171 = .ok (.goto 4, 3) := by decide +kernel
theorem dX4_advance_174 : decode cX4_advance 174 = .ok (.iconst 0, 1) := by decide +kernel
theorem dX4_advance_175 : decode cX4_advance 175 = .ok (.istore_n 1, 1) := by decide +kernel
theorem dX4_advance_176 : decode cX4_advance 176 = .ok (.aload_n 0, 1) := by decide +kernel
theorem dX4_advance_177 : decode cX4_advance 177 = .ok (.iload_n 1, 1) := by decide +kernel
theorem dX4_advance_178 : decode cX4_advance 178 = .ok (.ifCond .ne 12, 3) := by decide +kernel
theorem dX4_advance_181 : decode cX4_advance 181 = .ok (.aload_n 0, 1) := by decide +kernel
theorem dX4_advance_182 : decode cX4_advance 182 = .ok (.getfield 22, 3) := by decide +kernel
theorem dX4_advance_185 : decode cX4_advance 185 = .ok (.bipush 100, 2) := by decide +kernel
theorem dX4_advance_187 : decode cX4_advance 187 = .ok (.if_icmp .lt 8, 3) := by decide +kernel
theorem dX4_advance_190 : decode cX4_advance 190 = .ok (.bipush (-3), 2) := by decide +kernel
theorem dX4_advance_192 : decode cX4_advance 192 = .ok (.goto 5, 3) := by decide +kernel
theorem dX4_advance_195 : decode cX4_advance 195 = .ok (.bipush (-2), 2) := by decide +kernel
theorem dX4_advance_197 : decode cX4_advance 197 = .ok (.putfield 19, 3) := by decide +kernel
theorem dX4_advance_200 : decode cX4_advance 200 = .ok (.goto 45, 3) := by decide +kernel
theorem dX4_advance_203 : decode cX4_advance 203 = .ok (.aload_n 0, 1) := by decide +kernel
theorem dX4_advance_204 : decode cX4_advance 204 = .ok (.getfield 28, 3) := by decide +kernel
theorem dX4_advance_207 : decode cX4_advance 207 = .ok (.aload_n 0, 1) := by decide +kernel
theorem dX4_advance_208 : decode cX4_advance 208 = .ok (.getfield 15, 3) := by decide +kernel
theorem dX4_advance_211 : decode cX4_advance 211 = .ok (.if_icmp .lt 11, 3) := by decide +kernel
theorem dX4_advance_214 : decode cX4_advance 214 = .ok (.aload_n 0, 1) := by decide +kernel
theorem dX4_advance_215 : decode cX4_advance 215 = .ok (.iconst (-1), 1) := by decide +kernel
theorem dX4_advance_216 : decode cX4_advance 216 = .ok (.putfield 19, 3) := by decide +kernel
theorem dX4_advance_219 : decode cX4_advance 219 = .ok (.goto 26, 3) := by decide +kernel
theorem dX4_advance_222 : decode cX4_advance 222 = .ok (.aload_n 0, 1) := by decide +kernel
theorem dX4_advance_223 : decode cX4_advance 223 = .ok (.aload_n 0, 1) := by decide +kernel
theorem dX4_advance_224 : decode cX4_advance 224 = .ok (.getfield 9, 3) := by decide +kernel
theorem dX4_advance_227 : decode cX4_advance 227 = .ok (.aload_n 0, 1) := by decide +kernel
theorem dX4_advance_228 : decode cX4_advance 228 = .ok (.getfield 28, 3) := by decide +kernel
theorem dX4_advance_231 : decode cX4_advance 231 = .ok (.iaload, 1) := by decide +kernel
theorem dX4_advance_232 : decode cX4_advance 232 = .ok (.putfield 19, 3) := by decide +kernel
theorem dX4_advance_235 : decode cX4_advance 235 = .ok (.aload_n 0, 1) := by decide +kernel
theorem dX4_advance_236 : decode cX4_advance 236 = .ok (.dup, 1) := by decide +kernel
theorem dX4_advance_237 : decode cX4_advance 237 = .ok (.getfield 28, 3) := by decide +kernel
theorem dX4_advance_240 : decode cX4_advance 240 = .ok (.iconst 1, 1) := by decide +kernel
theorem dX4_advance_241 : decode cX4_advance 241 = .ok (.iadd, 1) := by decide +kernel
theorem dX4_advance_242 : decode cX4_advance 242 = .ok (.putfield 28, 3) := by decide +kernel
theorem dX4_advance_245 : decode cX4_advance 245 = .ok (.return_, 1) := by decide +kernel
theorem dX4_isNumberWithin_0 : decode cX4_isNumberWithin 0 = .ok (.aload_n 0, 1) := by decide +kernel
theorem dX4_isNumberWithin_1 : decode cX4_isNumberWithin 1 = .ok (.getfield 19, 3) := by decide +kernel
theorem dX4_isNumberWithin_4 : decode cX4_isNumberWithin 4 = .ok (.bipush (-2), 2) := by decide +kernel
theorem dX4_isNumberWithin_6 : decode cX4_isNumberWithin 6 = .ok (.if_icmp .ne 23, 3) := by decide +kernel
theorem dX4_isNumberWithin_9 : decode cX4_isNumberWithin 9 = .ok (.aload_n 0, 1) := by decide +kernel
theorem dX4_isNumberWithin_10 : decode cX4_isNumberWithin 10 = .ok (.getfield 22, 3) := by decide +kernel
theorem dX4_isNumberWithin_13 : decode cX4_isNumberWithin 13 = .ok (.iload_n 1, 1) := by decide +kernel
theorem dX4_isNumberWithin_14 : decode cX4_isNumberWithin 14 = .ok (.if_icmp .lt 15, 3) := by decide +kernel
theorem dX4_isNumberWithin_17 : decode cX4_isNumberWithin 17 = .ok (.aload_n 0, 1) := by decide +kernel
theorem dX4_isNumberWithin_18 : decode cX4_isNumberWithin 18 = .ok (.getfield 22, 3) := by decide +kernel
theorem dX4_isNumberWithin_21 : decode cX4_isNumberWithin 21 = .ok (.iload_n 2, 1) := by decide +kernel
theorem dX4_isNumberWithin_22 : decode cX4_isNumberWithin 22 = .ok (.if_icmp .gt 7, 3) := by decide +kernel
theorem dX4_isNumberWithin_25 : decode cX4_isNumberWithin 25 = .ok (.iconst 1, 1) := by decide +kernel
theorem dX4_isNumberWithin_26 : decode cX4_isNumberWithin 26 = .ok (.goto 4, 3) := by decide +kernel
theorem dX4_isNumberWithin_29 : decode cX4_isNumberWithin 29 = .ok (.iconst 0, 1) := by decide +kernel
theorem dX4_isNumberWithin_30 : decode cX4_isNumberWithin 30 = .ok (.ireturn, 1) := by decide +kernel
theorem dX5_init_0 : decode cX5_init 0 = .ok (.aload_n 0, 1) := by decide +kernel
theorem dX5_init_1 : decode cX5_init 1 = .ok (.invokespecial 1, 3) := by decide +kernel
theorem dX5_init_4 : decode cX5_init 4 = .ok (.aload_n 0, 1) := by decide +kernel
theorem dX5_init_5 : decode cX5_init 5 = .ok (.new 7, 3) := by decide +kernel
theorem dX5_init_8 : decode cX5_init 8 = .ok (.dup, 1) := by decide +kernel
theorem dX5_init_9 : decode cX5_init 9 = .ok (.invokespecial 9, 3) := by decide +kernel
theorem dX5_init_12 : decode cX5_init 12 = .ok (.putfield 10, 3) := by decide +kernel
theorem dX5_init_15 : decode cX5_init 15 = .ok (.aload_n 0, 1) := by decide +kernel
theorem dX5_init_16 : decode cX5_init 16 = .ok (.new 16, 3) := by decide +kernel
theorem dX5_init_19 : decode cX5_init 19 = .ok (.dup, 1) := by decide +kernel
theorem dX5_init_20 : decode cX5_init 20 = .ok (.invokespecial 18, 3) := by decide +kernel
theorem dX5_init_23 : decode cX5_init 23 = .ok (.putfield 19, 3) := by decide +kernel
theorem dX5_init_26 : decode cX5_init 26 = .ok (.aload_n 0, 1) := by decide +kernel
theorem dX5_init_27 : decode cX5_init 27 = .ok (.new 16, 3) := by decide +kernel
theorem dX5_init_30 : decode cX5_init 30 = .ok (.dup, 1) := by decide +kernel
theorem dX5_init_31 : decode cX5_init 31 = .ok (.invokespecial 18, 3) := by decide +kernel
theorem dX5_init_34 : decode cX5_init 34 = .ok (.putfield 23, 3) := by decide +kernel
theorem dX5_init_37 : decode cX5_init 37 = .ok (.aload_n 0, 1) := by decide +kernel
theorem dX5_init_38 : decode cX5_init 38 = .ok (.new 16, 3) := by decide +kernel
theorem dX5_init_41 : decode cX5_init 41 = .ok (.dup, 1) := by decide +kernel
theorem dX5_init_42 : decode cX5_init 42 = .ok (.invokespecial 18, 3) := by decide +kernel
theorem dX5_init_45 : decode cX5_init 45 = .ok (.putfield 26, 3) := by decide +kernel
theorem dX5_init_48 : decode cX5_init 48 = .ok (.aload_n 0, 1) := by decide +kernel
theorem dX5_init_49 : decode cX5_init 49 = .ok (.new 29, 3) := by decide +kernel
theorem dX5_init_52 : decode cX5_init 52 = .ok (.dup, 1) := by decide +kernel
theorem dX5_init_53 : decode cX5_init 53 = .ok (.aload_n 0, 1) := by decide +kernel
theorem dX5_init_54 : decode cX5_init 54 = .ok (.getfield 10, 3) := by decide +kernel
theorem dX5_init_57 : decode cX5_init 57 = .ok (.aload_n 0, 1) := by decide +kernel
theorem dX5_init_58 : decode cX5_init 58 = .ok (.getfield 23, 3) := by decide +kernel
theorem dX5_init_61 : decode cX5_init 61 = .ok (.invokespecial 31, 3) := by decide +kernel
theorem dX5_init_64 : decode cX5_init 64 = .ok (.putfield 34, 3) := by decide +kernel
theorem dX5_init_67 : decode cX5_init 67 = .ok (.aload_n 0, 1) := by decide +kernel
theorem dX5_init_68 : decode cX5_init 68 = .ok (.new 38, 3) := by decide +kernel
theorem dX5_init_71 : decode cX5_init 71 = .ok (.dup, 1) := by decide +kernel
theorem dX5_init_72 : decode cX5_init 72 = .ok (.aload_n 0, 1) := by decide +kernel
theorem dX5_init_73 : decode cX5_init 73 = .ok (.getfield 19, 3) := by decide +kernel
theorem dX5_init_76 : decode cX5_init 76 = .ok (.invokespecial 40, 3) := by decide +kernel
theorem dX5_init_79 : decode cX5_init 79 = .ok (.putfield 43, 3) := by decide +kernel
theorem dX5_init_82 : decode cX5_init 82 = .ok (.aload_n 0, 1) := by decide +kernel
theorem dX5_init_83 : decode cX5_init 83 = .ok (.new 38, 3) := by decide +kernel
theorem dX5_init_86 : decode cX5_init 86 = .ok (.dup, 1) := by decide +kernel
theorem dX5_init_87 : decode cX5_init 87 = .ok (.aload_n 0, 1) := by decide +kernel
theorem dX5_init_88 : decode cX5_init 88 = .ok (.getfield 19, 3) := by decide +kernel
theorem dX5_init_91 : decode cX5_init 91 = .ok (.invokespecial 40, 3) := by decide +kernel
theorem dX5_init_94 : decode cX5_init 94 = .ok (.putfield 47, 3) := by decide +kernel
theorem dX5_init_97 : decode cX5_init 97 = .ok (.aload_n 0, 1) := by decide +kernel
theorem dX5_init_98 : decode cX5_init 98 = .ok (.new 50, 3) := by decide +kernel
theorem dX5_init_101 : decode cX5_init 101 = .ok (.dup, 1) := by decide +kernel
theorem dX5_init_102 : decode cX5_init 102 = .ok (.aload_n 0, 1) := by decide +kernel
theorem dX5_init_103 : decode cX5_init 103 = .ok (.getfield 19, 3) := by decide +kernel
theorem dX5_init_106 : decode cX5_init 106 = .ok (.invokespecial 52, 3) := by decide +kernel
theorem dX5_init_109 : decode cX5_init 109 = .ok (.putfield 53, 3) := by decide +kernel
theorem dX5_init_112 : decode cX5_init 112 = .ok (.aload_n 0, 1) := by decide +kernel
theorem dX5_init_113 : decode cX5_init 113 = .ok (.iconst 2, 1) := by decide +kernel
theorem dX5_init_114 : decode cX5_init 114 = .ok (.anewarray 38, 3) := by decide +kernel
theorem dX5_init_117 : decode cX5_init 117 = .ok (.putfield 57, 3) := by decide +kernel
theorem dX5_init_120 : decode cX5_init 120 = .ok (.aload_n 0, 1) := by decide +kernel
theorem dX5_init_121 : decode cX5_init 121 = .ok (.iconst 2, 1) := by decide +kernel
theorem dX5_init_122 : decode cX5_init 122 = .ok (.newarray .boolean, 2) := by decide +kernel
theorem dX5_init_124 : decode cX5_init 124 = .ok (.putfield 61, 3) := by decide +kernel
theorem dX5_init_127 : decode cX5_init 127 = .ok (.aload_n 0, 1) := by decide +kernel
theorem dX5_init_128 : decode cX5_init 128 = .ok (.bipush 6, 2) := by decide +kernel
theorem dX5_init_130 : decode cX5_init 130 = .ok (.newarray .int, 2) := by decide +kernel
theorem dX5_init_132 : decode cX5_init 132 = .ok (.putfield 65, 3) := by decide +kernel
theorem dX5_init_135 : decode cX5_init 135 = .ok (.aload_n 0, 1) := by decide +kernel
theorem dX5_init_136 : decode cX5_init 136 = .ok (.bipush 6, 2) := by decide +kernel
theorem dX5_init_138 : decode cX5_init 138 = .ok (.newarray .int, 2) := by decide +kernel
theorem dX5_init_140 : decode cX5_init 140 = .ok (.putfield 69, 3) := by decide +kernel
theorem dX5_init_143 : decode cX5_init 143 = .ok (.aload_n 0, 1) := by decide +kernel
theorem dX5_init_144 : decode cX5_init 144 = .ok (.bipush 6, 2) := by decide +kernel
theorem dX5_init_146 : decode cX5_init 146 = .ok (.newarray .int, 2) := by decide +kernel
theorem dX5_init_148 : decode cX5_init 148 = .ok (.putfield 72, 3) := by decide +kernel
theorem dX5_init_151 : decode cX5_init 151 = .ok (.aload_n 0, 1) := by decide +kernel
theorem dX5_init_152 : decode cX5_init 152 = .ok (.iconst 0, 1) := by decide +kernel
theorem dX5_init_153 : decode cX5_init 153 = .ok (.putfield 75, 3) := by decide +kernel
theorem dX5_init_156 : decode cX5_init 156 = .ok (.iconst 0, 1) := by decide +kernel
theorem dX5_init_157 : decode cX5_init 157 = .ok (.istore_n 1, 1) := by decide +kernel
theorem dX5_init_158 : decode cX5_init 158 = .ok (.iload_n 1, 1) := by decide +kernel
theorem dX5_init_159 : decode cX5_init 159 = .ok (.iconst 2, 1) := by decide +kernel
theorem dX5_init_160 : decode cX5_init 160 = .ok (.if_icmp .ge 26, 3) := by decide +kernel
theorem dX5_init_163 : decode cX5_init 163 = .ok (.aload_n 0, 1) := by decide +kernel
theorem dX5_init_164 : decode cX5_init 164 = .ok (.getfield 57, 3) := by decide +kernel
theorem dX5_init_167 : decode cX5_init 167 = .ok (.iload_n 1, 1) := by decide +kernel
theorem dX5_init_168 : decode cX5_init 168 = .ok (.new 38, 3) := by decide +kernel
theorem dX5_init_171 : decode cX5_init 171 = .ok (.dup, 1) := by decide +kernel
theorem dX5_init_172 : decode cX5_init 172 = .ok (.aload_n 0, 1) := by decide +kernel
theorem dX5_init_173 : decode cX5_init 173 = .ok (.getfield 19, 3) := by decide +kernel
theorem dX5_init_176 : decode cX5_init 176 = .ok (.invokespecial 40, 3) := by decide +kernel
theorem dX5_init_179 : decode cX5_init 179 = .ok (.aastore, 1) := by decide +kernel
theorem dX5_init_180 : decode cX5_init 180 = .ok (.iinc 1 1, 3) := by decide +kernel
theorem dX5_init_183 : decode cX5_init 183 = .ok (.goto (-25), 3) := by decide +kernel
theorem dX5_init_186 : decode cX5_init 186 = .ok (.return_, 1) := by decide +kernel
theorem dX5_type_0 : decode cX5_type 0 = .ok (.iload_n 1, 1) := by decide +kernel
theorem dX5_type_1 : decode cX5_type 1 = .ok (.ifCond .lt 10, 3) := by decide +kernel
theorem dX5_type_4 : decode cX5_type 4 = .ok (.iload_n 1, 1) := by decide +kernel
theorem dX5_type_5 : decode cX5_type 5 = .ok (.sipush 255, 3) := by decide +kernel
theorem dX5_type_8 : decode cX5_type 8 = .ok (.if_icmp .le 5, 3) := by decide +kernel
theorem dX5_type_11 : decode cX5_type 11 = .ok (.iconst (-1), 1) := by decide +kernel
theorem dX5_type_12 : decode cX5_type 12 = .ok (.ireturn, 1) := by decide +kernel
theorem dX5_type_13 : decode cX5_type 13 = .ok (.aload_n 0, 1) := by decide +kernel
theorem dX5_type_14 : decode cX5_type 14 = .ok (.getfield 10, 3) := by decide +kernel
theorem dX5_type_17 : decode cX5_type 17 = .ok (.iload_n 1, 1) := by decide +kernel
theorem dX5_type_18 : decode cX5_type 18 = .ok (.invokevirtual 79, 3) := by decide +kernel
theorem dX5_type_21 : decode cX5_type 21 = .ok (.ifCond .eq 13, 3) := by decide +kernel
theorem dX5_type_24 : decode cX5_type 24 = .ok (.aload_n 0, 1) := by decide +kernel
theorem dX5_type_25 : decode cX5_type 25 = .ok (.getfield 10, 3) := by decide +kernel
theorem dX5_type_28 : decode cX5_type 28 = .ok (.getfield 83, 3) := by decide +kernel
theorem dX5_type_31 : decode cX5_type 31 = .ok (.goto 5, 3) := by decide +kernel
theorem dX5_type_34 : decode cX5_type 34 = .ok (.bipush (-3), 2) := by decide +kernel
theorem dX5_type_36 : decode cX5_type 36 = .ok (.ireturn, 1) := by decide +kernel
theorem dX5_clear_0 : decode cX5_clear 0 = .ok (.aload_n 0, 1) := by decide +kernel
theorem dX5_clear_1 : decode cX5_clear 1 = .ok (.getfield 10, 3) := by decide +kernel
theorem dX5_clear_4 : decode cX5_clear 4 = .ok (.getfield 83, 3) := by decide +kernel
theorem dX5_clear_7 : decode cX5_clear 7 = .ok (.istore_n 1, 1) := by decide +kernel
theorem dX5_clear_8 : decode cX5_clear 8 = .ok (.aload_n 0, 1) := by decide +kernel
theorem dX5_clear_9 : decode cX5_clear 9 = .ok (.getfield 10, 3) := by decide +kernel
theorem dX5_clear_12 : decode cX5_clear 12 = .ok (.iconst 0, 1) := by decide +kernel
theorem dX5_clear_13 : decode cX5_clear 13 = .ok (.putfield 83, 3) := by decide +kernel
theorem dX5_clear_16 : decode cX5_clear 16 = .ok (.iload_n 1, 1) := by decide +kernel
theorem dX5_clear_17 : decode cX5_clear 17 = .ok (.ireturn, 1) := by decide +kernel
theorem dX5_tree_0 : decode cX5_tree 0 = .ok (.aload_n 0, 1) := by decide +kernel
theorem dX5_tree_1 : decode cX5_tree 1 = .ok (.getfield 34, 3) := by decide +kernel
theorem dX5_tree_4 : decode cX5_tree 4 = .ok (.invokevirtual 86, 3) := by decide +kernel
theorem dX5_tree_7 : decode cX5_tree 7 = .ok (.ifCond .ne 14, 3) := by decide +kernel
theorem dX5_tree_10 : decode cX5_tree 10 = .ok (.bipush (-10), 2) := by decide +kernel
theorem dX5_tree_12 : decode cX5_tree 12 = .ok (.aload_n 0, 1) := by decide +kernel
theorem dX5_tree_13 : decode cX5_tree 13 = .ok (.getfield 10, 3) := by decide +kernel
theorem dX5_tree_16 : decode cX5_tree 16 = .ok (.getfield 90, 3) := by decide +kernel
theorem dX5_tree_19 : decode cX5_tree 19 = .ok (.isub, 1) := by decide +kernel
theorem dX5_tree_20 : decode cX5_tree 20 = .ok (.ireturn, 1) := by decide +kernel
theorem dX5_tree_21 : decode cX5_tree 21 = .ok (.aload_n 0, 1) := by decide +kernel
theorem dX5_tree_22 : decode cX5_tree 22 = .ok (.getfield 19, 3) := by decide +kernel
theorem dX5_tree_25 : decode cX5_tree 25 = .ok (.aload_n 0, 1) := by decide +kernel
theorem dX5_tree_26 : decode cX5_tree 26 = .ok (.getfield 23, 3) := by decide +kernel
theorem dX5_tree_29 : decode cX5_tree 29 = .ok (.invokevirtual 93, 3) := by decide +kernel
theorem dX5_tree_32 : decode cX5_tree 32 = .ok (.aload_n 0, 1) := by decide +kernel
theorem dX5_tree_33 : decode cX5_tree 33 = .ok (.getfield 10, 3) := by decide +kernel
theorem dX5_tree_36 : decode cX5_tree 36 = .ok (.iconst 0, 1) := by decide +kernel
theorem dX5_tree_37 : decode cX5_tree 37 = .ok (.putfield 83, 3) := by decide +kernel
theorem dX5_tree_40 : decode cX5_tree 40 = .ok (.aload_n 0, 1) := by decide +kernel
theorem dX5_tree_41 : decode cX5_tree 41 = .ok (.getfield 43, 3) := by decide +kernel
theorem dX5_tree_44 : decode cX5_tree 44 = .ok (.aload_n 0, 1) := by decide +kernel
theorem dX5_tree_45 : decode cX5_tree 45 = .ok (.getfield 19, 3) := by decide +kernel
theorem dX5_tree_48 : decode cX5_tree 48 = .ok (.invokevirtual 96, 3) := by decide +kernel
theorem dX5_tree_51 : decode cX5_tree 51 = .ok (.aload_n 0, 1) := by decide +kernel
theorem dX5_tree_52 : decode cX5_tree 52 = .ok (.getfield 53, 3) := by decide +kernel
theorem dX5_tree_55 : decode cX5_tree 55 = .ok (.iconst 0, 1) := by decide +kernel
theorem dX5_tree_56 : decode cX5_tree 56 = .ok (.putfield 99, 3) := by decide +kernel
theorem dX5_tree_59 : decode cX5_tree 59 = .ok (.aload_n 0, 1) := by decide +kernel
theorem dX5_tree_60 : decode cX5_tree 60 = .ok (.iconst 0, 1) := by decide +kernel
theorem dX5_tree_61 : decode cX5_tree 61 = .ok (.putfield 75, 3) := by decide +kernel
theorem dX5_tree_64 : decode cX5_tree 64 = .ok (.iconst 0, 1) := by decide +kernel
theorem dX5_tree_65 : decode cX5_tree 65 = .ok (.istore_n 1, 1) := by decide +kernel
theorem dX5_tree_66 : decode cX5_tree 66 = .ok (.iload_n 1, 1) := by decide +kernel
theorem dX5_tree_67 : decode cX5_tree 67 = .ok (.iconst 2, 1) := by decide +kernel
theorem dX5_tree_68 : decode cX5_tree 68 = .ok (.if_icmp .ge 16, 3) := by decide +kernel
theorem dX5_tree_71 : decode cX5_tree 71 = .ok (.aload_n 0, 1) := by decide +kernel
theorem dX5_tree_72 : decode cX5_tree 72 = .ok (.getfield 61, 3) := by decide +kernel
theorem dX5_tree_75 : decode cX5_tree 75 = .ok (.iload_n 1, 1) := by decide +kernel
theorem dX5_tree_76 : decode cX5_tree 76 = .ok (.iconst 0, 1) := by decide +kernel
theorem dX5_tree_77 : decode cX5_tree 77 = .ok (.bastore, 1) := by decide +kernel
theorem dX5_tree_78 : decode cX5_tree 78 = .ok (.iinc 1 1, 3) := by decide +kernel
theorem dX5_tree_81 : decode cX5_tree 81 = .ok (.goto (-15), 3) := by decide +kernel
theorem dX5_tree_84 : decode cX5_tree 84 = .ok (.aload_n 0, 1) := by decide +kernel
theorem dX5_tree_85 : decode cX5_tree 85 = .ok (.getfield 34, 3) := by decide +kernel
theorem dX5_tree_88 : decode cX5_tree 88 = .ok (.getfield 102, 3) := by decide +kernel
theorem dX5_tree_91 : decode cX5_tree 91 = .ok (.ireturn, 1) := by decide +kernel
theorem dX5_ticks_0 : decode cX5_ticks 0 = .ok (.iload_n 1, 1) := by decide +kernel
theorem dX5_ticks_1 : decode cX5_ticks 1 = .ok (.iconst 1, 1) := by decide +kernel
theorem dX5_ticks_2 : decode cX5_ticks 2 = .ok (.if_icmp .lt 9, 3) := by decide +kernel
theorem dX5_ticks_5 : decode cX5_ticks 5 = .ok (.iload_n 1, 1) := by decide +kernel
theorem dX5_ticks_6 : decode cX5_ticks 6 = .ok (.bipush 12, 2) := by decide +kernel
theorem dX5_ticks_8 : decode cX5_ticks 8 = .ok (.if_icmp .le 5, 3) := by decide +kernel
theorem dX5_ticks_11 : decode cX5_ticks 11 = .ok (.iconst (-1), 1) := by decide +kernel
theorem dX5_ticks_12 : decode cX5_ticks 12 = .ok (.ireturn, 1) := by decide +kernel
theorem dX5_ticks_13 : decode cX5_ticks 13 = .ok (.aload_n 0, 1) := by decide +kernel
theorem dX5_ticks_14 : decode cX5_ticks 14 = .ok (.getfield 43, 3) := by decide +kernel
theorem dX5_ticks_17 : decode cX5_ticks 17 = .ok (.getfield 105, 3) := by decide +kernel
theorem dX5_ticks_20 : decode cX5_ticks 20 = .ok (.iconst 0, 1) := by decide +kernel
theorem dX5_ticks_21 : decode cX5_ticks 21 = .ok (.iaload, 1) := by decide +kernel
theorem dX5_ticks_22 : decode cX5_ticks 22 = .ok (.iconst 3, 1) := by decide +kernel
theorem dX5_ticks_23 : decode cX5_ticks 23 = .ok (.if_icmp .ne 6, 3) := by decide +kernel
theorem dX5_ticks_26 : decode cX5_ticks 26 = .ok (.bipush (-2), 2) := by decide +kernel
theorem dX5_ticks_28 : decode cX5_ticks 28 = .ok (.ireturn, 1) := by decide +kernel
theorem dX5_ticks_29 : decode cX5_ticks 29 = .ok (.aload_n 0, 1) := by decide +kernel
theorem dX5_ticks_30 : decode cX5_ticks 30 = .ok (.getfield 43, 3) := by decide +kernel
theorem dX5_ticks_33 : decode cX5_ticks 33 = .ok (.getfield 108, 3) := by decide +kernel
theorem dX5_ticks_36 : decode cX5_ticks 36 = .ok (.iload_n 1, 1) := by decide +kernel
theorem dX5_ticks_37 : decode cX5_ticks 37 = .ok (.iadd, 1) := by decide +kernel
theorem dX5_ticks_38 : decode cX5_ticks 38 = .ok (.sipush 999, 3) := by decide +kernel
theorem dX5_ticks_41 : decode cX5_ticks 41 = .ok (.if_icmp .le 6, 3) := by decide +kernel
theorem dX5_ticks_44 : decode cX5_ticks 44 = .ok (.bipush (-3), 2) := by decide +kernel
theorem dX5_ticks_46 : decode cX5_ticks 46 = .ok (.ireturn, 1) := by decide +kernel
theorem dX5_ticks_47 : decode cX5_ticks 47 = .ok (.iconst 0, 1) := by decide +kernel
theorem dX5_ticks_48 : decode cX5_ticks 48 = .ok (.istore_n 2, 1) := by decide +kernel
theorem dX5_ticks_49 : decode cX5_ticks 49 = .ok (.iload_n 2, 1) := by decide +kernel
theorem dX5_ticks_50 : decode cX5_ticks 50 = .ok (.iload_n 1, 1) := by decide +kernel
theorem dX5_ticks_51 : decode cX5_ticks 51 = .ok (.if_icmp .ge 40, 3) := by decide +kernel
theorem dX5_ticks_54 : decode cX5_ticks 54 = .ok (.aload_n 0, 1) := by decide +kernel
theorem dX5_ticks_55 : decode cX5_ticks 55 = .ok (.getfield 43, 3) := by decide +kernel
theorem dX5_ticks_58 : decode cX5_ticks 58 = .ok (.getfield 105, 3) := by decide +kernel
theorem dX5_ticks_61 : decode cX5_ticks 61 = .ok (.iconst 0, 1) := by decide +kernel
theorem dX5_ticks_62 : decode cX5_ticks 62 = .ok (.iaload, 1) := by decide +kernel
theorem dX5_ticks_63 : decode cX5_ticks 63 = .ok (.iconst 3, 1) := by decide +kernel
theorem dX5_ticks_64 : decode cX5_ticks 64 = .ok (.if_icmp .eq 27, 3) := by decide +kernel
theorem dX5_ticks_67 : decode cX5_ticks 67 = .ok (.aload_n 0, 1) := by decide +kernel
theorem dX5_ticks_68 : decode cX5_ticks 68 = .ok (.getfield 53, 3) := by decide +kernel
theorem dX5_ticks_71 : decode cX5_ticks 71 = .ok (.aload_n 0, 1) := by decide +kernel
theorem dX5_ticks_72 : decode cX5_ticks 72 = .ok (.getfield 43, 3) := by decide +kernel
theorem dX5_ticks_75 : decode cX5_ticks 75 = .ok (.invokevirtual 111, 3) := by decide +kernel
theorem dX5_ticks_78 : decode cX5_ticks 78 = .ok (.aload_n 0, 1) := by decide +kernel
theorem dX5_ticks_79 : decode cX5_ticks 79 = .ok (.getfield 43, 3) := by decide +kernel
theorem dX5_ticks_82 : decode cX5_ticks 82 = .ok (.invokevirtual 115, 3) := by decide +kernel
theorem dX5_ticks_85 : decode cX5_ticks 85 = .ok (.iinc 2 1, 3) := by decide +kernel
theorem dX5_ticks_88 : decode cX5_ticks 88 = .ok (.goto (-39), 3) := by decide +kernel
theorem dX5_ticks_91 : decode cX5_ticks 91 = .ok (.aload_n 0, 1) := by decide +kernel
theorem dX5_ticks_92 : decode cX5_ticks 92 = .ok (.getfield 43, 3) := by decide +kernel
theorem dX5_ticks_95 : decode cX5_ticks 95 = .ok (.getfield 108, 3) := by decide +kernel
theorem dX5_ticks_98 : decode cX5_ticks 98 = .ok (.ireturn, 1) := by decide +kernel
theorem dX5_asks_0 : decode cX5_asks 0 = .ok (.aload_n 0, 1) := by decide +kernel
theorem dX5_asks_1 : decode cX5_asks 1 = .ok (.iload_n 1, 1) := by decide +kernel
theorem dX5_asks_2 : decode cX5_asks 2 = .ok (.invokevirtual 118, 3) := by decide +kernel
theorem dX5_asks_5 : decode cX5_asks 5 = .ok (.ifCond .ne 5, 3) := by decide +kernel
theorem dX5_asks_8 : decode cX5_asks 8 = .ok (.iconst (-1), 1) := by decide +kernel
theorem dX5_asks_9 : decode cX5_asks 9 = .ok (.ireturn, 1) := by decide +kernel
theorem dX5_asks_10 : decode cX5_asks 10 = .ok (.aload_n 0, 1) := by decide +kernel
theorem dX5_asks_11 : decode cX5_asks 11 = .ok (.getfield 43, 3) := by decide +kernel
theorem dX5_asks_14 : decode cX5_asks 14 = .ok (.getfield 105, 3) := by decide +kernel
theorem dX5_asks_17 : decode cX5_asks 17 = .ok (.iload_n 1, 1) := by decide +kernel
theorem dX5_asks_18 : decode cX5_asks 18 = .ok (.iaload, 1) := by decide +kernel
theorem dX5_asks_19 : decode cX5_asks 19 = .ok (.iconst 1, 1) := by decide +kernel
theorem dX5_asks_20 : decode cX5_asks 20 = .ok (.if_icmp .ne 16, 3) := by decide +kernel
theorem dX5_asks_23 : decode cX5_asks 23 = .ok (.aload_n 0, 1) := by decide +kernel
theorem dX5_asks_24 : decode cX5_asks 24 = .ok (.getfield 43, 3) := by decide +kernel
theorem dX5_asks_27 : decode cX5_asks 27 = .ok (.getfield 121, 3) := by decide +kernel
theorem dX5_asks_30 : decode cX5_asks 30 = .ok (.iload_n 1, 1) := by decide +kernel
theorem dX5_asks_31 : decode cX5_asks 31 = .ok (.iaload, 1) := by decide +kernel
theorem dX5_asks_32 : decode cX5_asks 32 = .ok (.iconst 1, 1) := by decide +kernel
theorem dX5_asks_33 : decode cX5_asks 33 = .ok (.if_icmp .ne 6, 3) := by decide +kernel
theorem dX5_asks_36 : decode cX5_asks 36 = .ok (.bipush (-2), 2) := by decide +kernel
theorem dX5_asks_38 : decode cX5_asks 38 = .ok (.ireturn, 1) := by decide +kernel
theorem dX5_asks_39 : decode cX5_asks 39 = .ok (.aload_n 0, 1) := by decide +kernel
theorem dX5_asks_40 : decode cX5_asks 40 = .ok (.getfield 53, 3) := by decide +kernel
theorem dX5_asks_43 : decode cX5_asks 43 = .ok (.aload_n 0, 1) := by decide +kernel
theorem dX5_asks_44 : decode cX5_asks 44 = .ok (.getfield 43, 3) := by decide +kernel
theorem dX5_asks_47 : decode cX5_asks 47 = .ok (.invokevirtual 111, 3) := by decide +kernel
theorem dX5_asks_50 : decode cX5_asks 50 = .ok (.aload_n 0, 1) := by decide +kernel
theorem dX5_asks_51 : decode cX5_asks 51 = .ok (.getfield 43, 3) := by decide +kernel
theorem dX5_asks_54 : decode cX5_asks 54 = .ok (.getfield 121, 3) := by decide +kernel
theorem dX5_asks_57 : decode cX5_asks 57 = .ok (.iload_n 1, 1) := by decide +kernel
theorem dX5_asks_58 : decode cX5_asks 58 = .ok (.iconst 1, 1) := by decide +kernel
theorem dX5_asks_59 : decode cX5_asks 59 = .ok (.iastore, 1) := by decide +kernel
theorem dX5_asks_60 : decode cX5_asks 60 = .ok (.aload_n 0, 1) := by decide +kernel
theorem dX5_asks_61 : decode cX5_asks 61 = .ok (.getfield 43, 3) := by decide +kernel
theorem dX5_asks_64 : decode cX5_asks 64 = .ok (.getfield 124, 3) := by decide +kernel
theorem dX5_asks_67 : decode cX5_asks 67 = .ok (.iload_n 1, 1) := by decide +kernel
theorem dX5_asks_68 : decode cX5_asks 68 = .ok (.iaload, 1) := by decide +kernel
theorem dX5_asks_69 : decode cX5_asks 69 = .ok (.ireturn, 1) := by decide +kernel
theorem dX5_undo_0 : decode cX5_undo 0 = .ok (.aload_n 0, 1) := by decide +kernel
theorem dX5_undo_1 : decode cX5_undo 1 = .ok (.getfield 53, 3) := by decide +kernel
theorem dX5_undo_4 : decode cX5_undo 4 = .ok (.aload_n 0, 1) := by decide +kernel
theorem dX5_undo_5 : decode cX5_undo 5 = .ok (.getfield 43, 3) := by decide +kernel
theorem dX5_undo_8 : decode cX5_undo 8 = .ok (.invokevirtual 127, 3) := by decide +kernel
theorem dX5_undo_11 : decode cX5_undo 11 = .ok (.ifCond .eq 13, 3) := by decide +kernel
theorem dX5_undo_14 : decode cX5_undo 14 = .ok (.aload_n 0, 1) := by decide +kernel
theorem dX5_undo_15 : decode cX5_undo 15 = .ok (.getfield 53, 3) := by decide +kernel
theorem dX5_undo_18 : decode cX5_undo 18 = .ok (.getfield 99, 3) := by decide +kernel
theorem dX5_undo_21 : decode cX5_undo 21 = .ok (.goto 5, 3) := by decide +kernel
theorem dX5_undo_24 : decode cX5_undo 24 = .ok (.bipush (-2), 2) := by decide +kernel
theorem dX5_undo_26 : decode cX5_undo 26 = .ok (.ireturn, 1) := by decide +kernel
theorem dX5_task_0 : decode cX5_task 0 = .ok (.aload_n 0, 1) := by decide +kernel
theorem dX5_task_1 : decode cX5_task 1 = .ok (.iload_n 1, 1) := by decide +kernel
theorem dX5_task_2 : decode cX5_task 2 = .ok (.invokevirtual 118, 3) := by decide +kernel
theorem dX5_task_5 : decode cX5_task 5 = .ok (.ifCond .ne 5, 3) := by decide +kernel
theorem dX5_task_8 : decode cX5_task 8 = .ok (.iconst (-1), 1) := by decide +kernel
theorem dX5_task_9 : decode cX5_task 9 = .ok (.ireturn, 1) := by decide +kernel
theorem dX5_task_10 : decode cX5_task 10 = .ok (.iload_n 2, 1) := by decide +kernel
theorem dX5_task_11 : decode cX5_task 11 = .ok (.tableswitch 143 0 7 #[45, 55, 65, 75, 85, 114, 124, 134], 45) := by decide +kernel
theorem dX5_task_56 : decode cX5_task 56 = .ok (.aload_n 0, 1) := by decide +kernel
theorem dX5_task_57 : decode cX5_task 57 = .ok (.getfield 19, 3) := by decide +kernel
theorem dX5_task_60 : decode cX5_task 60 = .ok (.getfield 131, 3) := by decide +kernel
theorem dX5_task_63 : decode cX5_task 63 = .ok (.iload_n 1, 1) := by decide +kernel
theorem dX5_task_64 : decode cX5_task 64 = .ok (.iaload, 1) := by decide +kernel
theorem dX5_task_65 : decode cX5_task 65 = .ok (.ireturn, 1) := by decide +kernel
theorem dX5_task_66 : decode cX5_task 66 = .ok (.aload_n 0, 1) := by decide +kernel
theorem dX5_task_67 : decode cX5_task 67 = .ok (.getfield 43, 3) := by decide +kernel
theorem dX5_task_70 : decode cX5_task 70 = .ok (.getfield 105, 3) := by decide +kernel
theorem dX5_task_73 : decode cX5_task 73 = .ok (.iload_n 1, 1) := by decide +kernel
theorem dX5_task_74 : decode cX5_task 74 = .ok (.iaload, 1) := by decide +kernel
theorem dX5_task_75 : decode cX5_task 75 = .ok (.ireturn, 1) := by decide +kernel
theorem dX5_task_76 : decode cX5_task 76 = .ok (.aload_n 0, 1) := by decide +kernel
theorem dX5_task_77 : decode cX5_task 77 = .ok (.getfield 43, 3) := by decide +kernel
theorem dX5_task_80 : decode cX5_task 80 = .ok (.getfield 134, 3) := by decide +kernel
theorem dX5_task_83 : decode cX5_task 83 = .ok (.iload_n 1, 1) := by decide +kernel
theorem dX5_task_84 : decode cX5_task 84 = .ok (.iaload, 1) := by decide +kernel
theorem dX5_task_85 : decode cX5_task 85 = .ok (.ireturn, 1) := by decide +kernel
theorem dX5_task_86 : decode cX5_task 86 = .ok (.aload_n 0, 1) := by decide +kernel
theorem dX5_task_87 : decode cX5_task 87 = .ok (.getfield 43, 3) := by decide +kernel
theorem dX5_task_90 : decode cX5_task 90 = .ok (.getfield 124, 3) := by decide +kernel
theorem dX5_task_93 : decode cX5_task 93 = .ok (.iload_n 1, 1) := by decide +kernel
theorem dX5_task_94 : decode cX5_task 94 = .ok (.iaload, 1) := by decide +kernel
theorem dX5_task_95 : decode cX5_task 95 = .ok (.ireturn, 1) := by decide +kernel
theorem dX5_task_96 : decode cX5_task 96 = .ok (.aload_n 0, 1) := by decide +kernel
theorem dX5_task_97 : decode cX5_task 97 = .ok (.getfield 43, 3) := by decide +kernel
theorem dX5_task_100 : decode cX5_task 100 = .ok (.getfield 137, 3) := by decide +kernel
theorem dX5_task_103 : decode cX5_task 103 = .ok (.iload_n 1, 1) := by decide +kernel
theorem dX5_task_104 : decode cX5_task 104 = .ok (.iaload, 1) := by decide +kernel
theorem dX5_task_105 : decode cX5_task 105 = .ok (.ldc 140, 2) := by decide +kernel
theorem dX5_task_107 : decode cX5_task 107 = .ok (.if_icmp .ne 8, 3) := by decide +kernel
theorem dX5_task_110 : decode cX5_task 110 = .ok (.bipush (-9), 2) := by decide +kernel
theorem dX5_task_112 : decode cX5_task 112 = .ok (.goto 12, 3) := by decide +kernel
theorem dX5_task_115 : decode cX5_task 115 = .ok (.aload_n 0, 1) := by decide +kernel
theorem dX5_task_116 : decode cX5_task 116 = .ok (.getfield 43, 3) := by decide +kernel
theorem dX5_task_119 : decode cX5_task 119 = .ok (.getfield 137, 3) := by decide +kernel
theorem dX5_task_122 : decode cX5_task 122 = .ok (.iload_n 1, 1) := by decide +kernel
theorem dX5_task_123 : decode cX5_task 123 = .ok (.iaload, 1) := by decide +kernel
theorem dX5_task_124 : decode cX5_task 124 = .ok (.ireturn, 1) := by decide +kernel
theorem dX5_task_125 : decode cX5_task 125 = .ok (.aload_n 0, 1) := by decide +kernel
theorem dX5_task_126 : decode cX5_task 126 = .ok (.getfield 43, 3) := by decide +kernel
theorem dX5_task_129 : decode cX5_task 129 = .ok (.getfield 121, 3) := by decide +kernel
theorem dX5_task_132 : decode cX5_task 132 = .ok (.iload_n 1, 1) := by decide +kernel
theorem dX5_task_133 : decode cX5_task 133 = .ok (.iaload, 1) := by decide +kernel
theorem dX5_task_134 : decode cX5_task 134 = .ok (.ireturn, 1) := by decide +kernel
theorem dX5_task_135 : decode cX5_task 135 = .ok (.aload_n 0, 1) := by decide +kernel
theorem dX5_task_136 : decode cX5_task 136 = .ok (.getfield 43, 3) := by decide +kernel
theorem dX5_task_139 : decode cX5_task 139 = .ok (.getfield 141, 3) := by decide +kernel
theorem dX5_task_142 : decode cX5_task 142 = .ok (.iload_n 1, 1) := by decide +kernel
theorem dX5_task_143 : decode cX5_task 143 = .ok (.iaload, 1) := by decide +kernel
theorem dX5_task_144 : decode cX5_task 144 = .ok (.ireturn, 1) := by decide +kernel
theorem dX5_task_145 : decode cX5_task 145 = .ok (.aload_n 0, 1) := by decide +kernel
theorem dX5_task_146 : decode cX5_task 146 = .ok (.getfield 43, 3) := by decide +kernel
theorem dX5_task_149 : decode cX5_task 149 = .ok (.iload_n 1, 1) := by decide +kernel
theorem dX5_task_150 : decode cX5_task 150 = .ok (.invokevirtual 144, 3) := by decide +kernel
theorem dX5_task_153 : decode cX5_task 153 = .ok (.ireturn, 1) := by decide +kernel
theorem dX5_task_154 : decode cX5_task 154 = .ok (.iconst (-1), 1) := by decide +kernel
theorem dX5_task_155 : decode cX5_task 155 = .ok (.ireturn, 1) := by decide +kernel
theorem dX5_failure_0 : decode cX5_failure 0 = .ok (.aload_n 0, 1) := by decide +kernel
theorem dX5_failure_1 : decode cX5_failure 1 = .ok (.iload_n 1, 1) := by decide +kernel
theorem dX5_failure_2 : decode cX5_failure 2 = .ok (.invokevirtual 118, 3) := by decide +kernel
theorem dX5_failure_5 : decode cX5_failure 5 = .ok (.ifCond .eq 7, 3) := by decide +kernel
theorem dX5_failure_8 : decode cX5_failure 8 = .ok (.iload_n 2, 1) := by decide +kernel
theorem dX5_failure_9 : decode cX5_failure 9 = .ok (.ifCond .ge 5, 3) := by decide +kernel
theorem dX5_failure_12 : decode cX5_failure 12 = .ok (.iconst (-1), 1) := by decide +kernel
theorem dX5_failure_13 : decode cX5_failure 13 = .ok (.ireturn, 1) := by decide +kernel
theorem dX5_failure_14 : decode cX5_failure 14 = .ok (.iload_n 2, 1) := by decide +kernel
theorem dX5_failure_15 : decode cX5_failure 15 = .ok (.aload_n 0, 1) := by decide +kernel
theorem dX5_failure_16 : decode cX5_failure 16 = .ok (.getfield 43, 3) := by decide +kernel
theorem dX5_failure_19 : decode cX5_failure 19 = .ok (.getfield 141, 3) := by decide +kernel
theorem dX5_failure_22 : decode cX5_failure 22 = .ok (.iload_n 1, 1) := by decide +kernel
theorem dX5_failure_23 : decode cX5_failure 23 = .ok (.iaload, 1) := by decide +kernel
theorem dX5_failure_24 : decode cX5_failure 24 = .ok (.if_icmp .ge 20, 3) := by decide +kernel
theorem dX5_failure_27 : decode cX5_failure 27 = .ok (.aload_n 0, 1) := by decide +kernel
theorem dX5_failure_28 : decode cX5_failure 28 = .ok (.getfield 43, 3) := by decide +kernel
theorem dX5_failure_31 : decode cX5_failure 31 = .ok (.getfield 148, 3) := by decide +kernel
theorem dX5_failure_34 : decode cX5_failure 34 = .ok (.iload_n 1, 1) := by decide +kernel
theorem dX5_failure_35 : decode cX5_failure 35 = .ok (.bipush 8, 2) := by decide +kernel
theorem dX5_failure_37 : decode cX5_failure 37 = .ok (.imul, 1) := by decide +kernel
theorem dX5_failure_38 : decode cX5_failure 38 = .ok (.iload_n 2, 1) := by decide +kernel
theorem dX5_failure_39 : decode cX5_failure 39 = .ok (.iadd, 1) := by decide +kernel
theorem dX5_failure_40 : decode cX5_failure 40 = .ok (.iaload, 1) := by decide +kernel
theorem dX5_failure_41 : decode cX5_failure 41 = .ok (.goto 5, 3) := by decide +kernel
theorem dX5_failure_44 : decode cX5_failure 44 = .ok (.bipush (-9), 2) := by decide +kernel
theorem dX5_failure_46 : decode cX5_failure 46 = .ok (.ireturn, 1) := by decide +kernel
theorem dX5_trace_0 : decode cX5_trace 0 = .ok (.iload_n 1, 1) := by decide +kernel
theorem dX5_trace_1 : decode cX5_trace 1 = .ok (.ifCond .lt 12, 3) := by decide +kernel
theorem dX5_trace_4 : decode cX5_trace 4 = .ok (.iload_n 2, 1) := by decide +kernel
theorem dX5_trace_5 : decode cX5_trace 5 = .ok (.ifCond .lt 8, 3) := by decide +kernel
theorem dX5_trace_8 : decode cX5_trace 8 = .ok (.iload_n 2, 1) := by decide +kernel
theorem dX5_trace_9 : decode cX5_trace 9 = .ok (.iconst 2, 1) := by decide +kernel
theorem dX5_trace_10 : decode cX5_trace 10 = .ok (.if_icmp .le 5, 3) := by decide +kernel
theorem dX5_trace_13 : decode cX5_trace 13 = .ok (.iconst (-1), 1) := by decide +kernel
theorem dX5_trace_14 : decode cX5_trace 14 = .ok (.ireturn, 1) := by decide +kernel
theorem dX5_trace_15 : decode cX5_trace 15 = .ok (.iload_n 1, 1) := by decide +kernel
theorem dX5_trace_16 : decode cX5_trace 16 = .ok (.aload_n 0, 1) := by decide +kernel
theorem dX5_trace_17 : decode cX5_trace 17 = .ok (.getfield 43, 3) := by decide +kernel
theorem dX5_trace_20 : decode cX5_trace 20 = .ok (.getfield 151, 3) := by decide +kernel
theorem dX5_trace_23 : decode cX5_trace 23 = .ok (.if_icmp .lt 6, 3) := by decide +kernel
theorem dX5_trace_26 : decode cX5_trace 26 = .ok (.bipush (-9), 2) := by decide +kernel
theorem dX5_trace_28 : decode cX5_trace 28 = .ok (.ireturn, 1) := by decide +kernel
theorem dX5_trace_29 : decode cX5_trace 29 = .ok (.iload_n 2, 1) := by decide +kernel
theorem dX5_trace_30 : decode cX5_trace 30 = .ok (.ifCond .ne 13, 3) := by decide +kernel
theorem dX5_trace_33 : decode cX5_trace 33 = .ok (.aload_n 0, 1) := by decide +kernel
theorem dX5_trace_34 : decode cX5_trace 34 = .ok (.getfield 43, 3) := by decide +kernel
theorem dX5_trace_37 : decode cX5_trace 37 = .ok (.getfield 154, 3) := by decide +kernel
theorem dX5_trace_40 : decode cX5_trace 40 = .ok (.iload_n 1, 1) := by decide +kernel
theorem dX5_trace_41 : decode cX5_trace 41 = .ok (.iaload, 1) := by decide +kernel
theorem dX5_trace_42 : decode cX5_trace 42 = .ok (.ireturn, 1) := by decide +kernel
theorem dX5_trace_43 : decode cX5_trace 43 = .ok (.iload_n 2, 1) := by decide +kernel
theorem dX5_trace_44 : decode cX5_trace 44 = .ok (.iconst 1, 1) := by decide +kernel
theorem dX5_trace_45 : decode cX5_trace 45 = .ok (.if_icmp .ne 15, 3) := by decide +kernel
theorem dX5_trace_48 : decode cX5_trace 48 = .ok (.aload_n 0, 1) := by decide +kernel
theorem dX5_trace_49 : decode cX5_trace 49 = .ok (.getfield 43, 3) := by decide +kernel
theorem dX5_trace_52 : decode cX5_trace 52 = .ok (.getfield 157, 3) := by decide +kernel
theorem dX5_trace_55 : decode cX5_trace 55 = .ok (.iload_n 1, 1) := by decide +kernel
theorem dX5_trace_56 : decode cX5_trace 56 = .ok (.iaload, 1) := by decide +kernel
theorem dX5_trace_57 : decode cX5_trace 57 = .ok (.goto 12, 3) := by decide +kernel
theorem dX5_trace_60 : decode cX5_trace 60 = .ok (.aload_n 0, 1) := by decide +kernel
theorem dX5_trace_61 : decode cX5_trace 61 = .ok (.getfield 43, 3) := by decide +kernel
theorem dX5_trace_64 : decode cX5_trace 64 = .ok (.getfield 160, 3) := by decide +kernel
theorem dX5_trace_67 : decode cX5_trace 67 = .ok (.iload_n 1, 1) := by decide +kernel
theorem dX5_trace_68 : decode cX5_trace 68 = .ok (.iaload, 1) := by decide +kernel
theorem dX5_trace_69 : decode cX5_trace 69 = .ok (.ireturn, 1) := by decide +kernel
theorem dX5_ends_0 : decode cX5_ends 0 = .ok (.aload_n 0, 1) := by decide +kernel
theorem dX5_ends_1 : decode cX5_ends 1 = .ok (.iload_n 1, 1) := by decide +kernel
theorem dX5_ends_2 : decode cX5_ends 2 = .ok (.invokevirtual 118, 3) := by decide +kernel
theorem dX5_ends_5 : decode cX5_ends 5 = .ok (.ifCond .eq 12, 3) := by decide +kernel
theorem dX5_ends_8 : decode cX5_ends 8 = .ok (.iload_n 2, 1) := by decide +kernel
theorem dX5_ends_9 : decode cX5_ends 9 = .ok (.ifCond .lt 8, 3) := by decide +kernel
theorem dX5_ends_12 : decode cX5_ends 12 = .ok (.iload_n 2, 1) := by decide +kernel
theorem dX5_ends_13 : decode cX5_ends 13 = .ok (.iconst 1, 1) := by decide +kernel
theorem dX5_ends_14 : decode cX5_ends 14 = .ok (.if_icmp .le 5, 3) := by decide +kernel
theorem dX5_ends_17 : decode cX5_ends 17 = .ok (.iconst (-1), 1) := by decide +kernel
theorem dX5_ends_18 : decode cX5_ends 18 = .ok (.ireturn, 1) := by decide +kernel
theorem dX5_ends_19 : decode cX5_ends 19 = .ok (.aload_n 0, 1) := by decide +kernel
theorem dX5_ends_20 : decode cX5_ends 20 = .ok (.getfield 47, 3) := by decide +kernel
theorem dX5_ends_23 : decode cX5_ends 23 = .ok (.aload_n 0, 1) := by decide +kernel
theorem dX5_ends_24 : decode cX5_ends 24 = .ok (.getfield 43, 3) := by decide +kernel
theorem dX5_ends_27 : decode cX5_ends 27 = .ok (.invokevirtual 163, 3) := by decide +kernel
theorem dX5_ends_30 : decode cX5_ends 30 = .ok (.aload_n 0, 1) := by decide +kernel
theorem dX5_ends_31 : decode cX5_ends 31 = .ok (.getfield 47, 3) := by decide +kernel
theorem dX5_ends_34 : decode cX5_ends 34 = .ok (.iload_n 1, 1) := by decide +kernel
theorem dX5_ends_35 : decode cX5_ends 35 = .ok (.sipush 200, 3) := by decide +kernel
theorem dX5_ends_38 : decode cX5_ends 38 = .ok (.invokevirtual 165, 3) := by decide +kernel
theorem dX5_ends_41 : decode cX5_ends 41 = .ok (.ifCond .ne 6, 3) := by decide +kernel
theorem dX5_ends_44 : decode cX5_ends 44 = .ok (.bipush (-9), 2) := by decide +kernel
theorem dX5_ends_46 : decode cX5_ends 46 = .ok (.ireturn, 1) := by decide +kernel
theorem dX5_ends_47 : decode cX5_ends 47 = .ok (.iload_n 2, 1) := by decide +kernel
theorem dX5_ends_48 : decode cX5_ends 48 = .ok (.ifCond .ne 15, 3) := by decide +kernel
theorem dX5_ends_51 : decode cX5_ends 51 = .ok (.aload_n 0, 1) := by decide +kernel
theorem dX5_ends_52 : decode cX5_ends 52 = .ok (.getfield 47, 3) := by decide +kernel
theorem dX5_ends_55 : decode cX5_ends 55 = .ok (.getfield 169, 3) := by decide +kernel
theorem dX5_ends_58 : decode cX5_ends 58 = .ok (.iload_n 1, 1) := by decide +kernel
theorem dX5_ends_59 : decode cX5_ends 59 = .ok (.iaload, 1) := by decide +kernel
theorem dX5_ends_60 : decode cX5_ends 60 = .ok (.goto 12, 3) := by decide +kernel
theorem dX5_ends_63 : decode cX5_ends 63 = .ok (.aload_n 0, 1) := by decide +kernel
theorem dX5_ends_64 : decode cX5_ends 64 = .ok (.getfield 47, 3) := by decide +kernel
theorem dX5_ends_67 : decode cX5_ends 67 = .ok (.getfield 134, 3) := by decide +kernel
theorem dX5_ends_70 : decode cX5_ends 70 = .ok (.iload_n 1, 1) := by decide +kernel
theorem dX5_ends_71 : decode cX5_ends 71 = .ok (.iaload, 1) := by decide +kernel
theorem dX5_ends_72 : decode cX5_ends 72 = .ok (.ireturn, 1) := by decide +kernel
theorem dX5_wellBy_0 : decode cX5_wellBy 0 = .ok (.iconst 1, 1) := by decide +kernel
theorem dX5_wellBy_1 : decode cX5_wellBy 1 = .ok (.istore_n 1, 1) := by decide +kernel
theorem dX5_wellBy_2 : decode cX5_wellBy 2 = .ok (.iload_n 1, 1) := by decide +kernel
theorem dX5_wellBy_3 : decode cX5_wellBy 3 = .ok (.bipush 60, 2) := by decide +kernel
theorem dX5_wellBy_5 : decode cX5_wellBy 5 = .ok (.if_icmp .gt 43, 3) := by decide +kernel
theorem dX5_wellBy_8 : decode cX5_wellBy 8 = .ok (.aload_n 0, 1) := by decide +kernel
theorem dX5_wellBy_9 : decode cX5_wellBy 9 = .ok (.iconst 0, 1) := by decide +kernel
theorem dX5_wellBy_10 : decode cX5_wellBy 10 = .ok (.iload_n 1, 1) := by decide +kernel
theorem dX5_wellBy_11 : decode cX5_wellBy 11 = .ok (.invokevirtual 172, 3) := by decide +kernel
theorem dX5_wellBy_14 : decode cX5_wellBy 14 = .ok (.aload_n 0, 1) := by decide +kernel
theorem dX5_wellBy_15 : decode cX5_wellBy 15 = .ok (.getfield 47, 3) := by decide +kernel
theorem dX5_wellBy_18 : decode cX5_wellBy 18 = .ok (.iconst 0, 1) := by decide +kernel
theorem dX5_wellBy_19 : decode cX5_wellBy 19 = .ok (.sipush 200, 3) := by decide +kernel
theorem dX5_wellBy_22 : decode cX5_wellBy 22 = .ok (.invokevirtual 165, 3) := by decide +kernel
theorem dX5_wellBy_25 : decode cX5_wellBy 25 = .ok (.ifCond .eq 17, 3) := by decide +kernel
theorem dX5_wellBy_28 : decode cX5_wellBy 28 = .ok (.aload_n 0, 1) := by decide +kernel
theorem dX5_wellBy_29 : decode cX5_wellBy 29 = .ok (.getfield 47, 3) := by decide +kernel
theorem dX5_wellBy_32 : decode cX5_wellBy 32 = .ok (.getfield 134, 3) := by decide +kernel
theorem dX5_wellBy_35 : decode cX5_wellBy 35 = .ok (.iconst 0, 1) := by decide +kernel
theorem dX5_wellBy_36 : decode cX5_wellBy 36 = .ok (.iaload, 1) := by decide +kernel
theorem dX5_wellBy_37 : decode cX5_wellBy 37 = .ok (.ifCond .ne 5, 3) := by decide +kernel
theorem dX5_wellBy_40 : decode cX5_wellBy 40 = .ok (.iload_n 1, 1) := by decide +kernel
theorem dX5_wellBy_41 : decode cX5_wellBy 41 = .ok (.ireturn, 1) := by decide +kernel
theorem dX5_wellBy_42 : decode cX5_wellBy 42 = .ok (.iinc 1 1, 3) := by decide +kernel
theorem dX5_wellBy_45 : decode cX5_wellBy 45 = .ok (.goto (-43), 3) := by decide +kernel
theorem dX5_wellBy_48 : decode cX5_wellBy 48 = .ok (.bipush (-9), 2) := by decide +kernel
theorem dX5_wellBy_50 : decode cX5_wellBy 50 = .ok (.ireturn, 1) := by decide +kernel
theorem dX5_spares_0 : decode cX5_spares 0 = .ok (.aload_n 0, 1) := by decide +kernel
theorem dX5_spares_1 : decode cX5_spares 1 = .ok (.iload_n 1, 1) := by decide +kernel
theorem dX5_spares_2 : decode cX5_spares 2 = .ok (.invokevirtual 118, 3) := by decide +kernel
theorem dX5_spares_5 : decode cX5_spares 5 = .ok (.ifCond .eq 16, 3) := by decide +kernel
theorem dX5_spares_8 : decode cX5_spares 8 = .ok (.aload_n 0, 1) := by decide +kernel
theorem dX5_spares_9 : decode cX5_spares 9 = .ok (.getfield 43, 3) := by decide +kernel
theorem dX5_spares_12 : decode cX5_spares 12 = .ok (.getfield 105, 3) := by decide +kernel
theorem dX5_spares_15 : decode cX5_spares 15 = .ok (.iload_n 1, 1) := by decide +kernel
theorem dX5_spares_16 : decode cX5_spares 16 = .ok (.iaload, 1) := by decide +kernel
theorem dX5_spares_17 : decode cX5_spares 17 = .ok (.iconst 1, 1) := by decide +kernel
theorem dX5_spares_18 : decode cX5_spares 18 = .ok (.if_icmp .eq 6, 3) := by decide +kernel
theorem dX5_spares_21 : decode cX5_spares 21 = .ok (.ldc 176, 2) := by decide +kernel
theorem dX5_spares_23 : decode cX5_spares 23 = .ok (.ireturn, 1) := by decide +kernel
theorem dX5_spares_24 : decode cX5_spares 24 = .ok (.aload_n 0, 1) := by decide +kernel
theorem dX5_spares_25 : decode cX5_spares 25 = .ok (.getfield 47, 3) := by decide +kernel
theorem dX5_spares_28 : decode cX5_spares 28 = .ok (.aload_n 0, 1) := by decide +kernel
theorem dX5_spares_29 : decode cX5_spares 29 = .ok (.getfield 43, 3) := by decide +kernel
theorem dX5_spares_32 : decode cX5_spares 32 = .ok (.invokevirtual 163, 3) := by decide +kernel
theorem dX5_spares_35 : decode cX5_spares 35 = .ok (.aload_n 0, 1) := by decide +kernel
theorem dX5_spares_36 : decode cX5_spares 36 = .ok (.getfield 47, 3) := by decide +kernel
theorem dX5_spares_39 : decode cX5_spares 39 = .ok (.iconst 0, 1) := by decide +kernel
theorem dX5_spares_40 : decode cX5_spares 40 = .ok (.sipush 200, 3) := by decide +kernel
theorem dX5_spares_43 : decode cX5_spares 43 = .ok (.invokevirtual 165, 3) := by decide +kernel
theorem dX5_spares_46 : decode cX5_spares 46 = .ok (.ifCond .ne 6, 3) := by decide +kernel
theorem dX5_spares_49 : decode cX5_spares 49 = .ok (.ldc 176, 2) := by decide +kernel
theorem dX5_spares_51 : decode cX5_spares 51 = .ok (.ireturn, 1) := by decide +kernel
theorem dX5_spares_52 : decode cX5_spares 52 = .ok (.aload_n 0, 1) := by decide +kernel
theorem dX5_spares_53 : decode cX5_spares 53 = .ok (.getfield 47, 3) := by decide +kernel
theorem dX5_spares_56 : decode cX5_spares 56 = .ok (.getfield 169, 3) := by decide +kernel
theorem dX5_spares_59 : decode cX5_spares 59 = .ok (.iconst 0, 1) := by decide +kernel
theorem dX5_spares_60 : decode cX5_spares 60 = .ok (.iaload, 1) := by decide +kernel
theorem dX5_spares_61 : decode cX5_spares 61 = .ok (.istore_n 2, 1) := by decide +kernel
theorem dX5_spares_62 : decode cX5_spares 62 = .ok (.aload_n 0, 1) := by decide +kernel
theorem dX5_spares_63 : decode cX5_spares 63 = .ok (.getfield 47, 3) := by decide +kernel
theorem dX5_spares_66 : decode cX5_spares 66 = .ok (.aload_n 0, 1) := by decide +kernel
theorem dX5_spares_67 : decode cX5_spares 67 = .ok (.getfield 43, 3) := by decide +kernel
theorem dX5_spares_70 : decode cX5_spares 70 = .ok (.invokevirtual 163, 3) := by decide +kernel
theorem dX5_spares_73 : decode cX5_spares 73 = .ok (.aload_n 0, 1) := by decide +kernel
theorem dX5_spares_74 : decode cX5_spares 74 = .ok (.getfield 47, 3) := by decide +kernel
theorem dX5_spares_77 : decode cX5_spares 77 = .ok (.getfield 121, 3) := by decide +kernel
theorem dX5_spares_80 : decode cX5_spares 80 = .ok (.iload_n 1, 1) := by decide +kernel
theorem dX5_spares_81 : decode cX5_spares 81 = .ok (.iconst 1, 1) := by decide +kernel
theorem dX5_spares_82 : decode cX5_spares 82 = .ok (.iastore, 1) := by decide +kernel
theorem dX5_spares_83 : decode cX5_spares 83 = .ok (.aload_n 0, 1) := by decide +kernel
theorem dX5_spares_84 : decode cX5_spares 84 = .ok (.getfield 47, 3) := by decide +kernel
theorem dX5_spares_87 : decode cX5_spares 87 = .ok (.iconst 0, 1) := by decide +kernel
theorem dX5_spares_88 : decode cX5_spares 88 = .ok (.sipush 200, 3) := by decide +kernel
theorem dX5_spares_91 : decode cX5_spares 91 = .ok (.invokevirtual 165, 3) := by decide +kernel
theorem dX5_spares_94 : decode cX5_spares 94 = .ok (.ifCond .ne 6, 3) := by decide +kernel
theorem dX5_spares_97 : decode cX5_spares 97 = .ok (.ldc 176, 2) := by decide +kernel
theorem dX5_spares_99 : decode cX5_spares 99 = .ok (.ireturn, 1) := by decide +kernel
theorem dX5_spares_100 : decode cX5_spares 100 = .ok (.iload_n 2, 1) := by decide +kernel
theorem dX5_spares_101 : decode cX5_spares 101 = .ok (.aload_n 0, 1) := by decide +kernel
theorem dX5_spares_102 : decode cX5_spares 102 = .ok (.getfield 47, 3) := by decide +kernel
theorem dX5_spares_105 : decode cX5_spares 105 = .ok (.getfield 169, 3) := by decide +kernel
theorem dX5_spares_108 : decode cX5_spares 108 = .ok (.iconst 0, 1) := by decide +kernel
theorem dX5_spares_109 : decode cX5_spares 109 = .ok (.iaload, 1) := by decide +kernel
theorem dX5_spares_110 : decode cX5_spares 110 = .ok (.isub, 1) := by decide +kernel
theorem dX5_spares_111 : decode cX5_spares 111 = .ok (.ireturn, 1) := by decide +kernel
theorem dX5_sees_0 : decode cX5_sees 0 = .ok (.aload_n 0, 1) := by decide +kernel
theorem dX5_sees_1 : decode cX5_sees 1 = .ok (.iload_n 1, 1) := by decide +kernel
theorem dX5_sees_2 : decode cX5_sees 2 = .ok (.invokevirtual 118, 3) := by decide +kernel
theorem dX5_sees_5 : decode cX5_sees 5 = .ok (.ifCond .eq 23, 3) := by decide +kernel
theorem dX5_sees_8 : decode cX5_sees 8 = .ok (.iload_n 2, 1) := by decide +kernel
theorem dX5_sees_9 : decode cX5_sees 9 = .ok (.iconst 1, 1) := by decide +kernel
theorem dX5_sees_10 : decode cX5_sees 10 = .ok (.if_icmp .lt 18, 3) := by decide +kernel
theorem dX5_sees_13 : decode cX5_sees 13 = .ok (.iload_n 2, 1) := by decide +kernel
theorem dX5_sees_14 : decode cX5_sees 14 = .ok (.bipush 60, 2) := by decide +kernel
theorem dX5_sees_16 : decode cX5_sees 16 = .ok (.if_icmp .gt 12, 3) := by decide +kernel
theorem dX5_sees_19 : decode cX5_sees 19 = .ok (.iload_n 3, 1) := by decide +kernel
theorem dX5_sees_20 : decode cX5_sees 20 = .ok (.ifCond .lt 8, 3) := by decide +kernel
theorem dX5_sees_23 : decode cX5_sees 23 = .ok (.iload_n 3, 1) := by decide +kernel
theorem dX5_sees_24 : decode cX5_sees 24 = .ok (.iconst 1, 1) := by decide +kernel
theorem dX5_sees_25 : decode cX5_sees 25 = .ok (.if_icmp .le 5, 3) := by decide +kernel
theorem dX5_sees_28 : decode cX5_sees 28 = .ok (.iconst (-1), 1) := by decide +kernel
theorem dX5_sees_29 : decode cX5_sees 29 = .ok (.ireturn, 1) := by decide +kernel
theorem dX5_sees_30 : decode cX5_sees 30 = .ok (.aload_n 0, 1) := by decide +kernel
theorem dX5_sees_31 : decode cX5_sees 31 = .ok (.getfield 75, 3) := by decide +kernel
theorem dX5_sees_34 : decode cX5_sees 34 = .ok (.bipush 6, 2) := by decide +kernel
theorem dX5_sees_36 : decode cX5_sees 36 = .ok (.if_icmp .lt 6, 3) := by decide +kernel
theorem dX5_sees_39 : decode cX5_sees 39 = .ok (.bipush (-3), 2) := by decide +kernel
theorem dX5_sees_41 : decode cX5_sees 41 = .ok (.ireturn, 1) := by decide +kernel
theorem dX5_sees_42 : decode cX5_sees 42 = .ok (.aload_n 0, 1) := by decide +kernel
theorem dX5_sees_43 : decode cX5_sees 43 = .ok (.getfield 65, 3) := by decide +kernel
theorem dX5_sees_46 : decode cX5_sees 46 = .ok (.aload_n 0, 1) := by decide +kernel
theorem dX5_sees_47 : decode cX5_sees 47 = .ok (.getfield 75, 3) := by decide +kernel
theorem dX5_sees_50 : decode cX5_sees 50 = .ok (.iload_n 1, 1) := by decide +kernel
theorem dX5_sees_51 : decode cX5_sees 51 = .ok (.iastore, 1) := by decide +kernel
theorem dX5_sees_52 : decode cX5_sees 52 = .ok (.aload_n 0, 1) := by decide +kernel
theorem dX5_sees_53 : decode cX5_sees 53 = .ok (.getfield 69, 3) := by decide +kernel
theorem dX5_sees_56 : decode cX5_sees 56 = .ok (.aload_n 0, 1) := by decide +kernel
theorem dX5_sees_57 : decode cX5_sees 57 = .ok (.getfield 75, 3) := by decide +kernel
theorem dX5_sees_60 : decode cX5_sees 60 = .ok (.iload_n 2, 1) := by decide +kernel
theorem dX5_sees_61 : decode cX5_sees 61 = .ok (.iastore, 1) := by decide +kernel
theorem dX5_sees_62 : decode cX5_sees 62 = .ok (.aload_n 0, 1) := by decide +kernel
theorem dX5_sees_63 : decode cX5_sees 63 = .ok (.getfield 72, 3) := by decide +kernel
theorem dX5_sees_66 : decode cX5_sees 66 = .ok (.aload_n 0, 1) := by decide +kernel
theorem dX5_sees_67 : decode cX5_sees 67 = .ok (.getfield 75, 3) := by decide +kernel
theorem dX5_sees_70 : decode cX5_sees 70 = .ok (.iload_n 3, 1) := by decide +kernel
theorem dX5_sees_71 : decode cX5_sees 71 = .ok (.iastore, 1) := by decide +kernel
theorem dX5_sees_72 : decode cX5_sees 72 = .ok (.aload_n 0, 1) := by decide +kernel
theorem dX5_sees_73 : decode cX5_sees 73 = .ok (.dup, 1) := by decide +kernel
theorem dX5_sees_74 : decode cX5_sees 74 = .ok (.getfield 75, 3) := by decide +kernel
theorem dX5_sees_77 : decode cX5_sees 77 = .ok (.iconst 1, 1) := by decide +kernel
theorem dX5_sees_78 : decode cX5_sees 78 = .ok (.iadd, 1) := by decide +kernel
theorem dX5_sees_79 : decode cX5_sees 79 = .ok (.putfield 75, 3) := by decide +kernel
theorem dX5_sees_82 : decode cX5_sees 82 = .ok (.aload_n 0, 1) := by decide +kernel
theorem dX5_sees_83 : decode cX5_sees 83 = .ok (.getfield 75, 3) := by decide +kernel
theorem dX5_sees_86 : decode cX5_sees 86 = .ok (.ireturn, 1) := by decide +kernel
theorem dX5_forget_0 : decode cX5_forget 0 = .ok (.aload_n 0, 1) := by decide +kernel
theorem dX5_forget_1 : decode cX5_forget 1 = .ok (.getfield 75, 3) := by decide +kernel
theorem dX5_forget_4 : decode cX5_forget 4 = .ok (.istore_n 1, 1) := by decide +kernel
theorem dX5_forget_5 : decode cX5_forget 5 = .ok (.aload_n 0, 1) := by decide +kernel
theorem dX5_forget_6 : decode cX5_forget 6 = .ok (.iconst 0, 1) := by decide +kernel
theorem dX5_forget_7 : decode cX5_forget 7 = .ok (.putfield 75, 3) := by decide +kernel
theorem dX5_forget_10 : decode cX5_forget 10 = .ok (.iload_n 1, 1) := by decide +kernel
theorem dX5_forget_11 : decode cX5_forget 11 = .ok (.ireturn, 1) := by decide +kernel
theorem dX5_fits_0 : decode cX5_fits 0 = .ok (.aload_n 0, 1) := by decide +kernel
theorem dX5_fits_1 : decode cX5_fits 1 = .ok (.iload_n 1, 1) := by decide +kernel
theorem dX5_fits_2 : decode cX5_fits 2 = .ok (.invokevirtual 118, 3) := by decide +kernel
theorem dX5_fits_5 : decode cX5_fits 5 = .ok (.ifCond .ne 5, 3) := by decide +kernel
theorem dX5_fits_8 : decode cX5_fits 8 = .ok (.iconst (-1), 1) := by decide +kernel
theorem dX5_fits_9 : decode cX5_fits 9 = .ok (.ireturn, 1) := by decide +kernel
theorem dX5_fits_10 : decode cX5_fits 10 = .ok (.aload_n 0, 1) := by decide +kernel
theorem dX5_fits_11 : decode cX5_fits 11 = .ok (.invokevirtual 177, 3) := by decide +kernel
theorem dX5_fits_14 : decode cX5_fits 14 = .ok (.istore_n 2, 1) := by decide +kernel
theorem dX5_fits_15 : decode cX5_fits 15 = .ok (.iconst 0, 1) := by decide +kernel
theorem dX5_fits_16 : decode cX5_fits 16 = .ok (.istore_n 3, 1) := by decide +kernel
theorem dX5_fits_17 : decode cX5_fits 17 = .ok (.iconst 1, 1) := by decide +kernel
theorem dX5_fits_18 : decode cX5_fits 18 = .ok (.istore 4, 2) := by decide +kernel
theorem dX5_fits_20 : decode cX5_fits 20 = .ok (.iload 4, 2) := by decide +kernel
theorem dX5_fits_22 : decode cX5_fits 22 = .ok (.bipush 30, 2) := by decide +kernel
theorem dX5_fits_24 : decode cX5_fits 24 = .ok (.if_icmp .gt 40, 3) := by decide +kernel
theorem dX5_fits_27 : decode cX5_fits 27 = .ok (.aload_n 0, 1) := by decide +kernel
theorem dX5_fits_28 : decode cX5_fits 28 = .ok (.iload_n 1, 1) := by decide +kernel
theorem dX5_fits_29 : decode cX5_fits 29 = .ok (.iload 4, 2) := by decide +kernel
theorem dX5_fits_31 : decode cX5_fits 31 = .ok (.invokevirtual 172, 3) := by decide +kernel
theorem dX5_fits_34 : decode cX5_fits 34 = .ok (.aload_n 0, 1) := by decide +kernel
theorem dX5_fits_35 : decode cX5_fits 35 = .ok (.getfield 47, 3) := by decide +kernel
theorem dX5_fits_38 : decode cX5_fits 38 = .ok (.iconst 0, 1) := by decide +kernel
theorem dX5_fits_39 : decode cX5_fits 39 = .ok (.iload_n 2, 1) := by decide +kernel
theorem dX5_fits_40 : decode cX5_fits 40 = .ok (.invokevirtual 165, 3) := by decide +kernel
theorem dX5_fits_43 : decode cX5_fits 43 = .ok (.pop, 1) := by decide +kernel
theorem dX5_fits_44 : decode cX5_fits 44 = .ok (.aload_n 0, 1) := by decide +kernel
theorem dX5_fits_45 : decode cX5_fits 45 = .ok (.invokevirtual 181, 3) := by decide +kernel
theorem dX5_fits_48 : decode cX5_fits 48 = .ok (.ifCond .eq 10, 3) := by decide +kernel
theorem dX5_fits_51 : decode cX5_fits 51 = .ok (.iload_n 3, 1) := by decide +kernel
theorem dX5_fits_52 : decode cX5_fits 52 = .ok (.iconst 1, 1) := by decide +kernel
theorem dX5_fits_53 : decode cX5_fits 53 = .ok (.iload 4, 2) := by decide +kernel
theorem dX5_fits_55 : decode cX5_fits 55 = .ok (.ishl, 1) := by decide +kernel
theorem dX5_fits_56 : decode cX5_fits 56 = .ok (.ior, 1) := by decide +kernel
theorem dX5_fits_57 : decode cX5_fits 57 = .ok (.istore_n 3, 1) := by decide +kernel
theorem dX5_fits_58 : decode cX5_fits 58 = .ok (.iinc 4 1, 3) := by decide +kernel
theorem dX5_fits_61 : decode cX5_fits 61 = .ok (.goto (-41), 3) := by decide +kernel
theorem dX5_fits_64 : decode cX5_fits 64 = .ok (.iload_n 3, 1) := by decide +kernel
theorem dX5_fits_65 : decode cX5_fits 65 = .ok (.ireturn, 1) := by decide +kernel
theorem dX5_keep_0 : decode cX5_keep 0 = .ok (.iload_n 1, 1) := by decide +kernel
theorem dX5_keep_1 : decode cX5_keep 1 = .ok (.ifCond .lt 8, 3) := by decide +kernel
theorem dX5_keep_4 : decode cX5_keep 4 = .ok (.iload_n 1, 1) := by decide +kernel
theorem dX5_keep_5 : decode cX5_keep 5 = .ok (.iconst 2, 1) := by decide +kernel
theorem dX5_keep_6 : decode cX5_keep 6 = .ok (.if_icmp .lt 5, 3) := by decide +kernel
theorem dX5_keep_9 : decode cX5_keep 9 = .ok (.iconst (-1), 1) := by decide +kernel
theorem dX5_keep_10 : decode cX5_keep 10 = .ok (.ireturn, 1) := by decide +kernel
theorem dX5_keep_11 : decode cX5_keep 11 = .ok (.aload_n 0, 1) := by decide +kernel
theorem dX5_keep_12 : decode cX5_keep 12 = .ok (.getfield 57, 3) := by decide +kernel
theorem dX5_keep_15 : decode cX5_keep 15 = .ok (.iload_n 1, 1) := by decide +kernel
theorem dX5_keep_16 : decode cX5_keep 16 = .ok (.aaload, 1) := by decide +kernel
theorem dX5_keep_17 : decode cX5_keep 17 = .ok (.aload_n 0, 1) := by decide +kernel
theorem dX5_keep_18 : decode cX5_keep 18 = .ok (.getfield 43, 3) := by decide +kernel
theorem dX5_keep_21 : decode cX5_keep 21 = .ok (.invokevirtual 163, 3) := by decide +kernel
theorem dX5_keep_24 : decode cX5_keep 24 = .ok (.aload_n 0, 1) := by decide +kernel
theorem dX5_keep_25 : decode cX5_keep 25 = .ok (.getfield 61, 3) := by decide +kernel
theorem dX5_keep_28 : decode cX5_keep 28 = .ok (.iload_n 1, 1) := by decide +kernel
theorem dX5_keep_29 : decode cX5_keep 29 = .ok (.iconst 1, 1) := by decide +kernel
theorem dX5_keep_30 : decode cX5_keep 30 = .ok (.bastore, 1) := by decide +kernel
theorem dX5_keep_31 : decode cX5_keep 31 = .ok (.aload_n 0, 1) := by decide +kernel
theorem dX5_keep_32 : decode cX5_keep 32 = .ok (.getfield 43, 3) := by decide +kernel
theorem dX5_keep_35 : decode cX5_keep 35 = .ok (.getfield 108, 3) := by decide +kernel
theorem dX5_keep_38 : decode cX5_keep 38 = .ok (.ireturn, 1) := by decide +kernel
theorem dX5_back_0 : decode cX5_back 0 = .ok (.iload_n 1, 1) := by decide +kernel
theorem dX5_back_1 : decode cX5_back 1 = .ok (.ifCond .lt 8, 3) := by decide +kernel
theorem dX5_back_4 : decode cX5_back 4 = .ok (.iload_n 1, 1) := by decide +kernel
theorem dX5_back_5 : decode cX5_back 5 = .ok (.iconst 2, 1) := by decide +kernel
theorem dX5_back_6 : decode cX5_back 6 = .ok (.if_icmp .lt 5, 3) := by decide +kernel
theorem dX5_back_9 : decode cX5_back 9 = .ok (.iconst (-1), 1) := by decide +kernel
theorem dX5_back_10 : decode cX5_back 10 = .ok (.ireturn, 1) := by decide +kernel
theorem dX5_back_11 : decode cX5_back 11 = .ok (.aload_n 0, 1) := by decide +kernel
theorem dX5_back_12 : decode cX5_back 12 = .ok (.getfield 61, 3) := by decide +kernel
theorem dX5_back_15 : decode cX5_back 15 = .ok (.iload_n 1, 1) := by decide +kernel
theorem dX5_back_16 : decode cX5_back 16 = .ok (.baload, 1) := by decide +kernel
theorem dX5_back_17 : decode cX5_back 17 = .ok (.ifCond .ne 6, 3) := by decide +kernel
theorem dX5_back_20 : decode cX5_back 20 = .ok (.bipush (-2), 2) := by decide +kernel
theorem dX5_back_22 : decode cX5_back 22 = .ok (.ireturn, 1) := by decide +kernel
theorem dX5_back_23 : decode cX5_back 23 = .ok (.aload_n 0, 1) := by decide +kernel
theorem dX5_back_24 : decode cX5_back 24 = .ok (.getfield 43, 3) := by decide +kernel
theorem dX5_back_27 : decode cX5_back 27 = .ok (.aload_n 0, 1) := by decide +kernel
theorem dX5_back_28 : decode cX5_back 28 = .ok (.getfield 57, 3) := by decide +kernel
theorem dX5_back_31 : decode cX5_back 31 = .ok (.iload_n 1, 1) := by decide +kernel
theorem dX5_back_32 : decode cX5_back 32 = .ok (.aaload, 1) := by decide +kernel
theorem dX5_back_33 : decode cX5_back 33 = .ok (.invokevirtual 163, 3) := by decide +kernel
theorem dX5_back_36 : decode cX5_back 36 = .ok (.aload_n 0, 1) := by decide +kernel
theorem dX5_back_37 : decode cX5_back 37 = .ok (.getfield 53, 3) := by decide +kernel
theorem dX5_back_40 : decode cX5_back 40 = .ok (.iconst 0, 1) := by decide +kernel
theorem dX5_back_41 : decode cX5_back 41 = .ok (.putfield 99, 3) := by decide +kernel
theorem dX5_back_44 : decode cX5_back 44 = .ok (.aload_n 0, 1) := by decide +kernel
theorem dX5_back_45 : decode cX5_back 45 = .ok (.getfield 43, 3) := by decide +kernel
theorem dX5_back_48 : decode cX5_back 48 = .ok (.getfield 108, 3) := by decide +kernel
theorem dX5_back_51 : decode cX5_back 51 = .ok (.ireturn, 1) := by decide +kernel
theorem dX5_count_0 : decode cX5_count 0 = .ok (.iload_n 1, 1) := by decide +kernel
theorem dX5_count_1 : decode cX5_count 1 = .ok (.tableswitch 123 0 8 #[51, 59, 67, 76, 85, 94, 102, 107, 115], 51) := by decide +kernel
theorem dX5_count_52 : decode cX5_count 52 = .ok (.aload_n 0, 1) := by decide +kernel
theorem dX5_count_53 : decode cX5_count 53 = .ok (.getfield 19, 3) := by decide +kernel
theorem dX5_count_56 : decode cX5_count 56 = .ok (.getfield 184, 3) := by decide +kernel
theorem dX5_count_59 : decode cX5_count 59 = .ok (.ireturn, 1) := by decide +kernel
theorem dX5_count_60 : decode cX5_count 60 = .ok (.aload_n 0, 1) := by decide +kernel
theorem dX5_count_61 : decode cX5_count 61 = .ok (.getfield 43, 3) := by decide +kernel
theorem dX5_count_64 : decode cX5_count 64 = .ok (.getfield 108, 3) := by decide +kernel
theorem dX5_count_67 : decode cX5_count 67 = .ok (.ireturn, 1) := by decide +kernel
theorem dX5_count_68 : decode cX5_count 68 = .ok (.aload_n 0, 1) := by decide +kernel
theorem dX5_count_69 : decode cX5_count 69 = .ok (.getfield 43, 3) := by decide +kernel
theorem dX5_count_72 : decode cX5_count 72 = .ok (.iconst 1, 1) := by decide +kernel
theorem dX5_count_73 : decode cX5_count 73 = .ok (.invokevirtual 187, 3) := by decide +kernel
theorem dX5_count_76 : decode cX5_count 76 = .ok (.ireturn, 1) := by decide +kernel
theorem dX5_count_77 : decode cX5_count 77 = .ok (.aload_n 0, 1) := by decide +kernel
theorem dX5_count_78 : decode cX5_count 78 = .ok (.getfield 43, 3) := by decide +kernel
theorem dX5_count_81 : decode cX5_count 81 = .ok (.iconst 2, 1) := by decide +kernel
theorem dX5_count_82 : decode cX5_count 82 = .ok (.invokevirtual 187, 3) := by decide +kernel
theorem dX5_count_85 : decode cX5_count 85 = .ok (.ireturn, 1) := by decide +kernel
theorem dX5_count_86 : decode cX5_count 86 = .ok (.aload_n 0, 1) := by decide +kernel
theorem dX5_count_87 : decode cX5_count 87 = .ok (.getfield 43, 3) := by decide +kernel
theorem dX5_count_90 : decode cX5_count 90 = .ok (.iconst 3, 1) := by decide +kernel
theorem dX5_count_91 : decode cX5_count 91 = .ok (.invokevirtual 187, 3) := by decide +kernel
theorem dX5_count_94 : decode cX5_count 94 = .ok (.ireturn, 1) := by decide +kernel
theorem dX5_count_95 : decode cX5_count 95 = .ok (.aload_n 0, 1) := by decide +kernel
theorem dX5_count_96 : decode cX5_count 96 = .ok (.getfield 43, 3) := by decide +kernel
theorem dX5_count_99 : decode cX5_count 99 = .ok (.getfield 151, 3) := by decide +kernel
theorem dX5_count_102 : decode cX5_count 102 = .ok (.ireturn, 1) := by decide +kernel
theorem dX5_count_103 : decode cX5_count 103 = .ok (.aload_n 0, 1) := by decide +kernel
theorem dX5_count_104 : decode cX5_count 104 = .ok (.getfield 75, 3) := by decide +kernel
theorem dX5_count_107 : decode cX5_count 107 = .ok (.ireturn, 1) := by decide +kernel
theorem dX5_count_108 : decode cX5_count 108 = .ok (.aload_n 0, 1) := by decide +kernel
theorem dX5_count_109 : decode cX5_count 109 = .ok (.getfield 10, 3) := by decide +kernel
theorem dX5_count_112 : decode cX5_count 112 = .ok (.getfield 83, 3) := by decide +kernel
theorem dX5_count_115 : decode cX5_count 115 = .ok (.ireturn, 1) := by decide +kernel
theorem dX5_count_116 : decode cX5_count 116 = .ok (.aload_n 0, 1) := by decide +kernel
theorem dX5_count_117 : decode cX5_count 117 = .ok (.getfield 53, 3) := by decide +kernel
theorem dX5_count_120 : decode cX5_count 120 = .ok (.getfield 99, 3) := by decide +kernel
theorem dX5_count_123 : decode cX5_count 123 = .ok (.ireturn, 1) := by decide +kernel
theorem dX5_count_124 : decode cX5_count 124 = .ok (.iconst (-1), 1) := by decide +kernel
theorem dX5_count_125 : decode cX5_count 125 = .ok (.ireturn, 1) := by decide +kernel
theorem dX5_isTask_0 : decode cX5_isTask 0 = .ok (.iload_n 1, 1) := by decide +kernel
theorem dX5_isTask_1 : decode cX5_isTask 1 = .ok (.ifCond .lt 18, 3) := by decide +kernel
theorem dX5_isTask_4 : decode cX5_isTask 4 = .ok (.iload_n 1, 1) := by decide +kernel
theorem dX5_isTask_5 : decode cX5_isTask 5 = .ok (.aload_n 0, 1) := by decide +kernel
theorem dX5_isTask_6 : decode cX5_isTask 6 = .ok (.getfield 19, 3) := by decide +kernel
theorem dX5_isTask_9 : decode cX5_isTask 9 = .ok (.getfield 184, 3) := by decide +kernel
theorem dX5_isTask_12 : decode cX5_isTask 12 = .ok (.if_icmp .ge 7, 3) := by decide +kernel
theorem dX5_isTask_15 : decode cX5_isTask 15 = .ok (.iconst 1, 1) := by decide +kernel
theorem dX5_isTask_16 : decode cX5_isTask 16 = .ok (.goto 4, 3) := by decide +kernel
theorem dX5_isTask_19 : decode cX5_isTask 19 = .ok (.iconst 0, 1) := by decide +kernel
theorem dX5_isTask_20 : decode cX5_isTask 20 = .ok (.ireturn, 1) := by decide +kernel
theorem dX5_suppose_0 : decode cX5_suppose 0 = .ok (.aload_n 0, 1) := by decide +kernel
theorem dX5_suppose_1 : decode cX5_suppose 1 = .ok (.getfield 26, 3) := by decide +kernel
theorem dX5_suppose_4 : decode cX5_suppose 4 = .ok (.aload_n 0, 1) := by decide +kernel
theorem dX5_suppose_5 : decode cX5_suppose 5 = .ok (.getfield 19, 3) := by decide +kernel
theorem dX5_suppose_8 : decode cX5_suppose 8 = .ok (.invokevirtual 93, 3) := by decide +kernel
theorem dX5_suppose_11 : decode cX5_suppose 11 = .ok (.aload_n 0, 1) := by decide +kernel
theorem dX5_suppose_12 : decode cX5_suppose 12 = .ok (.getfield 26, 3) := by decide +kernel
theorem dX5_suppose_15 : decode cX5_suppose 15 = .ok (.getfield 190, 3) := by decide +kernel
theorem dX5_suppose_18 : decode cX5_suppose 18 = .ok (.iload_n 1, 1) := by decide +kernel
theorem dX5_suppose_19 : decode cX5_suppose 19 = .ok (.iload_n 2, 1) := by decide +kernel
theorem dX5_suppose_20 : decode cX5_suppose 20 = .ok (.iastore, 1) := by decide +kernel
theorem dX5_suppose_21 : decode cX5_suppose 21 = .ok (.aload_n 0, 1) := by decide +kernel
theorem dX5_suppose_22 : decode cX5_suppose 22 = .ok (.getfield 47, 3) := by decide +kernel
theorem dX5_suppose_25 : decode cX5_suppose 25 = .ok (.aload_n 0, 1) := by decide +kernel
theorem dX5_suppose_26 : decode cX5_suppose 26 = .ok (.getfield 26, 3) := by decide +kernel
theorem dX5_suppose_29 : decode cX5_suppose 29 = .ok (.invokevirtual 96, 3) := by decide +kernel
theorem dX5_suppose_32 : decode cX5_suppose 32 = .ok (.return_, 1) := by decide +kernel
theorem dX5_longestSeen_0 : decode cX5_longestSeen 0 = .ok (.iconst 0, 1) := by decide +kernel
theorem dX5_longestSeen_1 : decode cX5_longestSeen 1 = .ok (.istore_n 1, 1) := by decide +kernel
theorem dX5_longestSeen_2 : decode cX5_longestSeen 2 = .ok (.iconst 0, 1) := by decide +kernel
theorem dX5_longestSeen_3 : decode cX5_longestSeen 3 = .ok (.istore_n 2, 1) := by decide +kernel
theorem dX5_longestSeen_4 : decode cX5_longestSeen 4 = .ok (.iload_n 2, 1) := by decide +kernel
theorem dX5_longestSeen_5 : decode cX5_longestSeen 5 = .ok (.aload_n 0, 1) := by decide +kernel
theorem dX5_longestSeen_6 : decode cX5_longestSeen 6 = .ok (.getfield 75, 3) := by decide +kernel
theorem dX5_longestSeen_9 : decode cX5_longestSeen 9 = .ok (.if_icmp .ge 20, 3) := by decide +kernel
theorem dX5_longestSeen_12 : decode cX5_longestSeen 12 = .ok (.iload_n 1, 1) := by decide +kernel
theorem dX5_longestSeen_13 : decode cX5_longestSeen 13 = .ok (.aload_n 0, 1) := by decide +kernel
theorem dX5_longestSeen_14 : decode cX5_longestSeen 14 = .ok (.getfield 69, 3) := by decide +kernel
theorem dX5_longestSeen_17 : decode cX5_longestSeen 17 = .ok (.iload_n 2, 1) := by decide +kernel
theorem dX5_longestSeen_18 : decode cX5_longestSeen 18 = .ok (.iaload, 1) := by decide +kernel
theorem dX5_longestSeen_19 : decode cX5_longestSeen 19 = .ok (.invokestatic 193, 3) := by decide +kernel
theorem dX5_longestSeen_22 : decode cX5_longestSeen 22 = .ok (.istore_n 1, 1) := by decide +kernel
theorem dX5_longestSeen_23 : decode cX5_longestSeen 23 = .ok (.iinc 2 1, 3) := by decide +kernel
theorem dX5_longestSeen_26 : decode cX5_longestSeen 26 = .ok (.goto (-22), 3) := by decide +kernel
theorem dX5_longestSeen_29 : decode cX5_longestSeen 29 = .ok (.iload_n 1, 1) := by decide +kernel
theorem dX5_longestSeen_30 : decode cX5_longestSeen 30 = .ok (.ireturn, 1) := by decide +kernel
theorem dX5_agreesWithSeen_0 : decode cX5_agreesWithSeen 0 = .ok (.iconst 0, 1) := by decide +kernel
theorem dX5_agreesWithSeen_1 : decode cX5_agreesWithSeen 1 = .ok (.istore_n 1, 1) := by decide +kernel
theorem dX5_agreesWithSeen_2 : decode cX5_agreesWithSeen 2 = .ok (.iload_n 1, 1) := by decide +kernel
theorem dX5_agreesWithSeen_3 : decode cX5_agreesWithSeen 3 = .ok (.aload_n 0, 1) := by decide +kernel
theorem dX5_agreesWithSeen_4 : decode cX5_agreesWithSeen 4 = .ok (.getfield 75, 3) := by decide +kernel
theorem dX5_agreesWithSeen_7 : decode cX5_agreesWithSeen 7 = .ok (.if_icmp .ge 49, 3) := by decide +kernel
theorem dX5_agreesWithSeen_10 : decode cX5_agreesWithSeen 10 = .ok (.aload_n 0, 1) := by decide +kernel
theorem dX5_agreesWithSeen_11 : decode cX5_agreesWithSeen 11 = .ok (.getfield 47, 3) := by decide +kernel
theorem dX5_agreesWithSeen_14 : decode cX5_agreesWithSeen 14 = .ok (.aload_n 0, 1) := by decide +kernel
theorem dX5_agreesWithSeen_15 : decode cX5_agreesWithSeen 15 = .ok (.getfield 65, 3) := by decide +kernel
theorem dX5_agreesWithSeen_18 : decode cX5_agreesWithSeen 18 = .ok (.iload_n 1, 1) := by decide +kernel
theorem dX5_agreesWithSeen_19 : decode cX5_agreesWithSeen 19 = .ok (.iaload, 1) := by decide +kernel
theorem dX5_agreesWithSeen_20 : decode cX5_agreesWithSeen 20 = .ok (.aload_n 0, 1) := by decide +kernel
theorem dX5_agreesWithSeen_21 : decode cX5_agreesWithSeen 21 = .ok (.getfield 69, 3) := by decide +kernel
theorem dX5_agreesWithSeen_24 : decode cX5_agreesWithSeen 24 = .ok (.iload_n 1, 1) := by decide +kernel
theorem dX5_agreesWithSeen_25 : decode cX5_agreesWithSeen 25 = .ok (.iaload, 1) := by decide +kernel
theorem dX5_agreesWithSeen_26 : decode cX5_agreesWithSeen 26 = .ok (.invokevirtual 199, 3) := by decide +kernel
theorem dX5_agreesWithSeen_29 : decode cX5_agreesWithSeen 29 = .ok (.ifCond .eq 7, 3) := by decide +kernel
theorem dX5_agreesWithSeen_32 : decode cX5_agreesWithSeen 32 = .ok (.iconst 1, 1) := by decide +kernel
theorem dX5_agreesWithSeen_33 : decode cX5_agreesWithSeen 33 = .ok (.goto 4, 3) := by decide +kernel
theorem dX5_agreesWithSeen_36 : decode cX5_agreesWithSeen 36 = .ok (.iconst 0, 1) := by decide +kernel
theorem dX5_agreesWithSeen_37 : decode cX5_agreesWithSeen 37 = .ok (.istore_n 2, 1) := by decide +kernel
theorem dX5_agreesWithSeen_38 : decode cX5_agreesWithSeen 38 = .ok (.iload_n 2, 1) := by decide +kernel
theorem dX5_agreesWithSeen_39 : decode cX5_agreesWithSeen 39 = .ok (.aload_n 0, 1) := by decide +kernel
theorem dX5_agreesWithSeen_40 : decode cX5_agreesWithSeen 40 = .ok (.getfield 72, 3) := by decide +kernel
theorem dX5_agreesWithSeen_43 : decode cX5_agreesWithSeen 43 = .ok (.iload_n 1, 1) := by decide +kernel
theorem dX5_agreesWithSeen_44 : decode cX5_agreesWithSeen 44 = .ok (.iaload, 1) := by decide +kernel
theorem dX5_agreesWithSeen_45 : decode cX5_agreesWithSeen 45 = .ok (.if_icmp .eq 5, 3) := by decide +kernel
theorem dX5_agreesWithSeen_48 : decode cX5_agreesWithSeen 48 = .ok (.iconst 0, 1) := by decide +kernel
theorem dX5_agreesWithSeen_49 : decode cX5_agreesWithSeen 49 = .ok (.ireturn, 1) := by decide +kernel
theorem dX5_agreesWithSeen_50 : decode cX5_agreesWithSeen 50 = .ok (.iinc 1 1, 3) := by decide +kernel
theorem dX5_agreesWithSeen_53 : decode cX5_agreesWithSeen 53 = .ok (.goto (-51), 3) := by decide +kernel
theorem dX5_agreesWithSeen_56 : decode cX5_agreesWithSeen 56 = .ok (.iconst 1, 1) := by decide +kernel
theorem dX5_agreesWithSeen_57 : decode cX5_agreesWithSeen 57 = .ok (.ireturn, 1) := by decide +kernel
theorem dL_law_0 : decode cL_law 0 = .ok (.new 7, 3) := by decide +kernel
theorem dL_law_3 : decode cL_law 3 = .ok (.dup, 1) := by decide +kernel
theorem dL_law_4 : decode cL_law 4 = .ok (.invokespecial 9, 3) := by decide +kernel
theorem dL_law_7 : decode cL_law 7 = .ok (.astore_n 1, 1) := by decide +kernel
theorem dL_law_8 : decode cL_law 8 = .ok (.new 10, 3) := by decide +kernel
theorem dL_law_11 : decode cL_law 11 = .ok (.dup, 1) := by decide +kernel
theorem dL_law_12 : decode cL_law 12 = .ok (.invokespecial 12, 3) := by decide +kernel
theorem dL_law_15 : decode cL_law 15 = .ok (.astore_n 2, 1) := by decide +kernel
theorem dL_law_16 : decode cL_law 16 = .ok (.iconst 0, 1) := by decide +kernel
theorem dL_law_17 : decode cL_law 17 = .ok (.istore_n 3, 1) := by decide +kernel
theorem dL_law_18 : decode cL_law 18 = .ok (.iload_n 3, 1) := by decide +kernel
theorem dL_law_19 : decode cL_law 19 = .ok (.aload_n 0, 1) := by decide +kernel
theorem dL_law_20 : decode cL_law 20 = .ok (.arraylength, 1) := by decide +kernel
theorem dL_law_21 : decode cL_law 21 = .ok (.iconst 4, 1) := by decide +kernel
theorem dL_law_22 : decode cL_law 22 = .ok (.isub, 1) := by decide +kernel
theorem dL_law_23 : decode cL_law 23 = .ok (.if_icmp .gt 527, 3) := by decide +kernel
theorem dL_law_26 : decode cL_law 26 = .ok (.aload_n 0, 1) := by decide +kernel
theorem dL_law_27 : decode cL_law 27 = .ok (.iload_n 3, 1) := by decide +kernel
theorem dL_law_28 : decode cL_law 28 = .ok (.iaload, 1) := by decide +kernel
theorem dL_law_29 : decode cL_law 29 = .ok (.bipush 31, 2) := by decide +kernel
theorem dL_law_31 : decode cL_law 31 = .ok (.iand, 1) := by decide +kernel
theorem dL_law_32 : decode cL_law 32 = .ok (.tableswitch 512 0 17 #[88, 111, 124, 137, 160, 183, 196, 229, 262, 295, 328, 341, 364, 407, 420, 443, 466, 489], 88) := by decide +kernel
theorem dL_law_120 : decode cL_law 120 = .ok (.aload_n 1, 1) := by decide +kernel
theorem dL_law_121 : decode cL_law 121 = .ok (.aload_n 0, 1) := by decide +kernel
theorem dL_law_122 : decode cL_law 122 = .ok (.iload_n 3, 1) := by decide +kernel
theorem dL_law_123 : decode cL_law 123 = .ok (.iconst 1, 1) := by decide +kernel
theorem dL_law_124 : decode cL_law 124 = .ok (.iadd, 1) := by decide +kernel
theorem dL_law_125 : decode cL_law 125 = .ok (.iaload, 1) := by decide +kernel
theorem dL_law_126 : decode cL_law 126 = .ok (.invokevirtual 13, 3) := by decide +kernel
theorem dL_law_129 : decode cL_law 129 = .ok (.aload_n 2, 1) := by decide +kernel
theorem dL_law_130 : decode cL_law 130 = .ok (.aload_n 0, 1) := by decide +kernel
theorem dL_law_131 : decode cL_law 131 = .ok (.iload_n 3, 1) := by decide +kernel
theorem dL_law_132 : decode cL_law 132 = .ok (.iconst 1, 1) := by decide +kernel
theorem dL_law_133 : decode cL_law 133 = .ok (.iadd, 1) := by decide +kernel
theorem dL_law_134 : decode cL_law 134 = .ok (.iaload, 1) := by decide +kernel
theorem dL_law_135 : decode cL_law 135 = .ok (.invokevirtual 17, 3) := by decide +kernel
theorem dL_law_138 : decode cL_law 138 = .ok (.if_icmp .eq 406, 3) := by decide +kernel
theorem dL_law_141 : decode cL_law 141 = .ok (.iconst 0, 1) := by decide +kernel
theorem dL_law_142 : decode cL_law 142 = .ok (.ireturn, 1) := by decide +kernel
theorem dL_law_143 : decode cL_law 143 = .ok (.aload_n 1, 1) := by decide +kernel
theorem dL_law_144 : decode cL_law 144 = .ok (.invokevirtual 18, 3) := by decide +kernel
theorem dL_law_147 : decode cL_law 147 = .ok (.aload_n 2, 1) := by decide +kernel
theorem dL_law_148 : decode cL_law 148 = .ok (.invokevirtual 22, 3) := by decide +kernel
theorem dL_law_151 : decode cL_law 151 = .ok (.if_icmp .eq 393, 3) := by decide +kernel
theorem dL_law_154 : decode cL_law 154 = .ok (.iconst 0, 1) := by decide +kernel
theorem dL_law_155 : decode cL_law 155 = .ok (.ireturn, 1) := by decide +kernel
theorem dL_law_156 : decode cL_law 156 = .ok (.aload_n 1, 1) := by decide +kernel
theorem dL_law_157 : decode cL_law 157 = .ok (.invokevirtual 23, 3) := by decide +kernel
theorem dL_law_160 : decode cL_law 160 = .ok (.aload_n 2, 1) := by decide +kernel
theorem dL_law_161 : decode cL_law 161 = .ok (.invokevirtual 26, 3) := by decide +kernel
theorem dL_law_164 : decode cL_law 164 = .ok (.if_icmp .eq 380, 3) := by decide +kernel
theorem dL_law_167 : decode cL_law 167 = .ok (.iconst 0, 1) := by decide +kernel
theorem dL_law_168 : decode cL_law 168 = .ok (.ireturn, 1) := by decide +kernel
theorem dL_law_169 : decode cL_law 169 = .ok (.aload_n 1, 1) := by decide +kernel
theorem dL_law_170 : decode cL_law 170 = .ok (.aload_n 0, 1) := by decide +kernel
theorem dL_law_171 : decode cL_law 171 = .ok (.iload_n 3, 1) := by decide +kernel
theorem dL_law_172 : decode cL_law 172 = .ok (.iconst 1, 1) := by decide +kernel
theorem dL_law_173 : decode cL_law 173 = .ok (.iadd, 1) := by decide +kernel
theorem dL_law_174 : decode cL_law 174 = .ok (.iaload, 1) := by decide +kernel
theorem dL_law_175 : decode cL_law 175 = .ok (.invokevirtual 27, 3) := by decide +kernel
theorem dL_law_178 : decode cL_law 178 = .ok (.aload_n 2, 1) := by decide +kernel
theorem dL_law_179 : decode cL_law 179 = .ok (.aload_n 0, 1) := by decide +kernel
theorem dL_law_180 : decode cL_law 180 = .ok (.iload_n 3, 1) := by decide +kernel
theorem dL_law_181 : decode cL_law 181 = .ok (.iconst 1, 1) := by decide +kernel
theorem dL_law_182 : decode cL_law 182 = .ok (.iadd, 1) := by decide +kernel
theorem dL_law_183 : decode cL_law 183 = .ok (.iaload, 1) := by decide +kernel
theorem dL_law_184 : decode cL_law 184 = .ok (.invokevirtual 30, 3) := by decide +kernel
theorem dL_law_187 : decode cL_law 187 = .ok (.if_icmp .eq 357, 3) := by decide +kernel
theorem dL_law_190 : decode cL_law 190 = .ok (.iconst 0, 1) := by decide +kernel
theorem dL_law_191 : decode cL_law 191 = .ok (.ireturn, 1) := by decide +kernel
theorem dL_law_192 : decode cL_law 192 = .ok (.aload_n 1, 1) := by decide +kernel
theorem dL_law_193 : decode cL_law 193 = .ok (.aload_n 0, 1) := by decide +kernel
theorem dL_law_194 : decode cL_law 194 = .ok (.iload_n 3, 1) := by decide +kernel
theorem dL_law_195 : decode cL_law 195 = .ok (.iconst 1, 1) := by decide +kernel
theorem dL_law_196 : decode cL_law 196 = .ok (.iadd, 1) := by decide +kernel
theorem dL_law_197 : decode cL_law 197 = .ok (.iaload, 1) := by decide +kernel
theorem dL_law_198 : decode cL_law 198 = .ok (.invokevirtual 31, 3) := by decide +kernel
theorem dL_law_201 : decode cL_law 201 = .ok (.aload_n 2, 1) := by decide +kernel
theorem dL_law_202 : decode cL_law 202 = .ok (.aload_n 0, 1) := by decide +kernel
theorem dL_law_203 : decode cL_law 203 = .ok (.iload_n 3, 1) := by decide +kernel
theorem dL_law_204 : decode cL_law 204 = .ok (.iconst 1, 1) := by decide +kernel
theorem dL_law_205 : decode cL_law 205 = .ok (.iadd, 1) := by decide +kernel
theorem dL_law_206 : decode cL_law 206 = .ok (.iaload, 1) := by decide +kernel
theorem dL_law_207 : decode cL_law 207 = .ok (.invokevirtual 34, 3) := by decide +kernel
theorem dL_law_210 : decode cL_law 210 = .ok (.if_icmp .eq 334, 3) := by decide +kernel
theorem dL_law_213 : decode cL_law 213 = .ok (.iconst 0, 1) := by decide +kernel
theorem dL_law_214 : decode cL_law 214 = .ok (.ireturn, 1) := by decide +kernel
theorem dL_law_215 : decode cL_law 215 = .ok (.aload_n 1, 1) := by decide +kernel
theorem dL_law_216 : decode cL_law 216 = .ok (.invokevirtual 35, 3) := by decide +kernel
theorem dL_law_219 : decode cL_law 219 = .ok (.aload_n 2, 1) := by decide +kernel
theorem dL_law_220 : decode cL_law 220 = .ok (.invokevirtual 38, 3) := by decide +kernel
theorem dL_law_223 : decode cL_law 223 = .ok (.if_icmp .eq 321, 3) := by decide +kernel
theorem dL_law_226 : decode cL_law 226 = .ok (.iconst 0, 1) := by decide +kernel
theorem dL_law_227 : decode cL_law 227 = .ok (.ireturn, 1) := by decide +kernel
theorem dL_law_228 : decode cL_law 228 = .ok (.aload_n 1, 1) := by decide +kernel
theorem dL_law_229 : decode cL_law 229 = .ok (.aload_n 0, 1) := by decide +kernel
theorem dL_law_230 : decode cL_law 230 = .ok (.iload_n 3, 1) := by decide +kernel
theorem dL_law_231 : decode cL_law 231 = .ok (.iconst 1, 1) := by decide +kernel
theorem dL_law_232 : decode cL_law 232 = .ok (.iadd, 1) := by decide +kernel
theorem dL_law_233 : decode cL_law 233 = .ok (.iaload, 1) := by decide +kernel
theorem dL_law_234 : decode cL_law 234 = .ok (.aload_n 0, 1) := by decide +kernel
theorem dL_law_235 : decode cL_law 235 = .ok (.iload_n 3, 1) := by decide +kernel
theorem dL_law_236 : decode cL_law 236 = .ok (.iconst 2, 1) := by decide +kernel
theorem dL_law_237 : decode cL_law 237 = .ok (.iadd, 1) := by decide +kernel
theorem dL_law_238 : decode cL_law 238 = .ok (.iaload, 1) := by decide +kernel
theorem dL_law_239 : decode cL_law 239 = .ok (.invokevirtual 39, 3) := by decide +kernel
theorem dL_law_242 : decode cL_law 242 = .ok (.aload_n 2, 1) := by decide +kernel
theorem dL_law_243 : decode cL_law 243 = .ok (.aload_n 0, 1) := by decide +kernel
theorem dL_law_244 : decode cL_law 244 = .ok (.iload_n 3, 1) := by decide +kernel
theorem dL_law_245 : decode cL_law 245 = .ok (.iconst 1, 1) := by decide +kernel
theorem dL_law_246 : decode cL_law 246 = .ok (.iadd, 1) := by decide +kernel
theorem dL_law_247 : decode cL_law 247 = .ok (.iaload, 1) := by decide +kernel
theorem dL_law_248 : decode cL_law 248 = .ok (.aload_n 0, 1) := by decide +kernel
theorem dL_law_249 : decode cL_law 249 = .ok (.iload_n 3, 1) := by decide +kernel
theorem dL_law_250 : decode cL_law 250 = .ok (.iconst 2, 1) := by decide +kernel
theorem dL_law_251 : decode cL_law 251 = .ok (.iadd, 1) := by decide +kernel
theorem dL_law_252 : decode cL_law 252 = .ok (.iaload, 1) := by decide +kernel
theorem dL_law_253 : decode cL_law 253 = .ok (.invokevirtual 43, 3) := by decide +kernel
theorem dL_law_256 : decode cL_law 256 = .ok (.if_icmp .eq 288, 3) := by decide +kernel
theorem dL_law_259 : decode cL_law 259 = .ok (.iconst 0, 1) := by decide +kernel
theorem dL_law_260 : decode cL_law 260 = .ok (.ireturn, 1) := by decide +kernel
theorem dL_law_261 : decode cL_law 261 = .ok (.aload_n 1, 1) := by decide +kernel
theorem dL_law_262 : decode cL_law 262 = .ok (.aload_n 0, 1) := by decide +kernel
theorem dL_law_263 : decode cL_law 263 = .ok (.iload_n 3, 1) := by decide +kernel
theorem dL_law_264 : decode cL_law 264 = .ok (.iconst 1, 1) := by decide +kernel
theorem dL_law_265 : decode cL_law 265 = .ok (.iadd, 1) := by decide +kernel
theorem dL_law_266 : decode cL_law 266 = .ok (.iaload, 1) := by decide +kernel
theorem dL_law_267 : decode cL_law 267 = .ok (.aload_n 0, 1) := by decide +kernel
theorem dL_law_268 : decode cL_law 268 = .ok (.iload_n 3, 1) := by decide +kernel
theorem dL_law_269 : decode cL_law 269 = .ok (.iconst 2, 1) := by decide +kernel
theorem dL_law_270 : decode cL_law 270 = .ok (.iadd, 1) := by decide +kernel
theorem dL_law_271 : decode cL_law 271 = .ok (.iaload, 1) := by decide +kernel
theorem dL_law_272 : decode cL_law 272 = .ok (.invokevirtual 44, 3) := by decide +kernel
theorem dL_law_275 : decode cL_law 275 = .ok (.aload_n 2, 1) := by decide +kernel
theorem dL_law_276 : decode cL_law 276 = .ok (.aload_n 0, 1) := by decide +kernel
theorem dL_law_277 : decode cL_law 277 = .ok (.iload_n 3, 1) := by decide +kernel
theorem dL_law_278 : decode cL_law 278 = .ok (.iconst 1, 1) := by decide +kernel
theorem dL_law_279 : decode cL_law 279 = .ok (.iadd, 1) := by decide +kernel
theorem dL_law_280 : decode cL_law 280 = .ok (.iaload, 1) := by decide +kernel
theorem dL_law_281 : decode cL_law 281 = .ok (.aload_n 0, 1) := by decide +kernel
theorem dL_law_282 : decode cL_law 282 = .ok (.iload_n 3, 1) := by decide +kernel
theorem dL_law_283 : decode cL_law 283 = .ok (.iconst 2, 1) := by decide +kernel
theorem dL_law_284 : decode cL_law 284 = .ok (.iadd, 1) := by decide +kernel
theorem dL_law_285 : decode cL_law 285 = .ok (.iaload, 1) := by decide +kernel
theorem dL_law_286 : decode cL_law 286 = .ok (.invokevirtual 47, 3) := by decide +kernel
theorem dL_law_289 : decode cL_law 289 = .ok (.if_icmp .eq 255, 3) := by decide +kernel
theorem dL_law_292 : decode cL_law 292 = .ok (.iconst 0, 1) := by decide +kernel
theorem dL_law_293 : decode cL_law 293 = .ok (.ireturn, 1) := by decide +kernel
theorem dL_law_294 : decode cL_law 294 = .ok (.aload_n 1, 1) := by decide +kernel
theorem dL_law_295 : decode cL_law 295 = .ok (.aload_n 0, 1) := by decide +kernel
theorem dL_law_296 : decode cL_law 296 = .ok (.iload_n 3, 1) := by decide +kernel
theorem dL_law_297 : decode cL_law 297 = .ok (.iconst 1, 1) := by decide +kernel
theorem dL_law_298 : decode cL_law 298 = .ok (.iadd, 1) := by decide +kernel
theorem dL_law_299 : decode cL_law 299 = .ok (.iaload, 1) := by decide +kernel
theorem dL_law_300 : decode cL_law 300 = .ok (.aload_n 0, 1) := by decide +kernel
theorem dL_law_301 : decode cL_law 301 = .ok (.iload_n 3, 1) := by decide +kernel
theorem dL_law_302 : decode cL_law 302 = .ok (.iconst 2, 1) := by decide +kernel
theorem dL_law_303 : decode cL_law 303 = .ok (.iadd, 1) := by decide +kernel
theorem dL_law_304 : decode cL_law 304 = .ok (.iaload, 1) := by decide +kernel
theorem dL_law_305 : decode cL_law 305 = .ok (.invokevirtual 48, 3) := by decide +kernel
theorem dL_law_308 : decode cL_law 308 = .ok (.aload_n 2, 1) := by decide +kernel
theorem dL_law_309 : decode cL_law 309 = .ok (.aload_n 0, 1) := by decide +kernel
theorem dL_law_310 : decode cL_law 310 = .ok (.iload_n 3, 1) := by decide +kernel
theorem dL_law_311 : decode cL_law 311 = .ok (.iconst 1, 1) := by decide +kernel
theorem dL_law_312 : decode cL_law 312 = .ok (.iadd, 1) := by decide +kernel
theorem dL_law_313 : decode cL_law 313 = .ok (.iaload, 1) := by decide +kernel
theorem dL_law_314 : decode cL_law 314 = .ok (.aload_n 0, 1) := by decide +kernel
theorem dL_law_315 : decode cL_law 315 = .ok (.iload_n 3, 1) := by decide +kernel
theorem dL_law_316 : decode cL_law 316 = .ok (.iconst 2, 1) := by decide +kernel
theorem dL_law_317 : decode cL_law 317 = .ok (.iadd, 1) := by decide +kernel
theorem dL_law_318 : decode cL_law 318 = .ok (.iaload, 1) := by decide +kernel
theorem dL_law_319 : decode cL_law 319 = .ok (.invokevirtual 51, 3) := by decide +kernel
theorem dL_law_322 : decode cL_law 322 = .ok (.if_icmp .eq 222, 3) := by decide +kernel
theorem dL_law_325 : decode cL_law 325 = .ok (.iconst 0, 1) := by decide +kernel
theorem dL_law_326 : decode cL_law 326 = .ok (.ireturn, 1) := by decide +kernel
theorem dL_law_327 : decode cL_law 327 = .ok (.aload_n 1, 1) := by decide +kernel
theorem dL_law_328 : decode cL_law 328 = .ok (.aload_n 0, 1) := by decide +kernel
theorem dL_law_329 : decode cL_law 329 = .ok (.iload_n 3, 1) := by decide +kernel
theorem dL_law_330 : decode cL_law 330 = .ok (.iconst 1, 1) := by decide +kernel
theorem dL_law_331 : decode cL_law 331 = .ok (.iadd, 1) := by decide +kernel
theorem dL_law_332 : decode cL_law 332 = .ok (.iaload, 1) := by decide +kernel
theorem dL_law_333 : decode cL_law 333 = .ok (.aload_n 0, 1) := by decide +kernel
theorem dL_law_334 : decode cL_law 334 = .ok (.iload_n 3, 1) := by decide +kernel
theorem dL_law_335 : decode cL_law 335 = .ok (.iconst 2, 1) := by decide +kernel
theorem dL_law_336 : decode cL_law 336 = .ok (.iadd, 1) := by decide +kernel
theorem dL_law_337 : decode cL_law 337 = .ok (.iaload, 1) := by decide +kernel
theorem dL_law_338 : decode cL_law 338 = .ok (.invokevirtual 52, 3) := by decide +kernel
theorem dL_law_341 : decode cL_law 341 = .ok (.aload_n 2, 1) := by decide +kernel
theorem dL_law_342 : decode cL_law 342 = .ok (.aload_n 0, 1) := by decide +kernel
theorem dL_law_343 : decode cL_law 343 = .ok (.iload_n 3, 1) := by decide +kernel
theorem dL_law_344 : decode cL_law 344 = .ok (.iconst 1, 1) := by decide +kernel
theorem dL_law_345 : decode cL_law 345 = .ok (.iadd, 1) := by decide +kernel
theorem dL_law_346 : decode cL_law 346 = .ok (.iaload, 1) := by decide +kernel
theorem dL_law_347 : decode cL_law 347 = .ok (.aload_n 0, 1) := by decide +kernel
theorem dL_law_348 : decode cL_law 348 = .ok (.iload_n 3, 1) := by decide +kernel
theorem dL_law_349 : decode cL_law 349 = .ok (.iconst 2, 1) := by decide +kernel
theorem dL_law_350 : decode cL_law 350 = .ok (.iadd, 1) := by decide +kernel
theorem dL_law_351 : decode cL_law 351 = .ok (.iaload, 1) := by decide +kernel
theorem dL_law_352 : decode cL_law 352 = .ok (.invokevirtual 55, 3) := by decide +kernel
theorem dL_law_355 : decode cL_law 355 = .ok (.if_icmp .eq 189, 3) := by decide +kernel
theorem dL_law_358 : decode cL_law 358 = .ok (.iconst 0, 1) := by decide +kernel
theorem dL_law_359 : decode cL_law 359 = .ok (.ireturn, 1) := by decide +kernel
theorem dL_law_360 : decode cL_law 360 = .ok (.aload_n 1, 1) := by decide +kernel
theorem dL_law_361 : decode cL_law 361 = .ok (.invokevirtual 56, 3) := by decide +kernel
theorem dL_law_364 : decode cL_law 364 = .ok (.aload_n 2, 1) := by decide +kernel
theorem dL_law_365 : decode cL_law 365 = .ok (.invokevirtual 59, 3) := by decide +kernel
theorem dL_law_368 : decode cL_law 368 = .ok (.if_icmp .eq 176, 3) := by decide +kernel
theorem dL_law_371 : decode cL_law 371 = .ok (.iconst 0, 1) := by decide +kernel
theorem dL_law_372 : decode cL_law 372 = .ok (.ireturn, 1) := by decide +kernel
theorem dL_law_373 : decode cL_law 373 = .ok (.aload_n 1, 1) := by decide +kernel
theorem dL_law_374 : decode cL_law 374 = .ok (.aload_n 0, 1) := by decide +kernel
theorem dL_law_375 : decode cL_law 375 = .ok (.iload_n 3, 1) := by decide +kernel
theorem dL_law_376 : decode cL_law 376 = .ok (.iconst 1, 1) := by decide +kernel
theorem dL_law_377 : decode cL_law 377 = .ok (.iadd, 1) := by decide +kernel
theorem dL_law_378 : decode cL_law 378 = .ok (.iaload, 1) := by decide +kernel
theorem dL_law_379 : decode cL_law 379 = .ok (.invokevirtual 60, 3) := by decide +kernel
theorem dL_law_382 : decode cL_law 382 = .ok (.aload_n 2, 1) := by decide +kernel
theorem dL_law_383 : decode cL_law 383 = .ok (.aload_n 0, 1) := by decide +kernel
theorem dL_law_384 : decode cL_law 384 = .ok (.iload_n 3, 1) := by decide +kernel
theorem dL_law_385 : decode cL_law 385 = .ok (.iconst 1, 1) := by decide +kernel
theorem dL_law_386 : decode cL_law 386 = .ok (.iadd, 1) := by decide +kernel
theorem dL_law_387 : decode cL_law 387 = .ok (.iaload, 1) := by decide +kernel
theorem dL_law_388 : decode cL_law 388 = .ok (.invokevirtual 63, 3) := by decide +kernel
theorem dL_law_391 : decode cL_law 391 = .ok (.if_icmp .eq 153, 3) := by decide +kernel
theorem dL_law_394 : decode cL_law 394 = .ok (.iconst 0, 1) := by decide +kernel
theorem dL_law_395 : decode cL_law 395 = .ok (.ireturn, 1) := by decide +kernel
theorem dL_law_396 : decode cL_law 396 = .ok (.aload_n 1, 1) := by decide +kernel
theorem dL_law_397 : decode cL_law 397 = .ok (.aload_n 0, 1) := by decide +kernel
theorem dL_law_398 : decode cL_law 398 = .ok (.iload_n 3, 1) := by decide +kernel
theorem dL_law_399 : decode cL_law 399 = .ok (.iconst 1, 1) := by decide +kernel
theorem dL_law_400 : decode cL_law 400 = .ok (.iadd, 1) := by decide +kernel
theorem dL_law_401 : decode cL_law 401 = .ok (.iaload, 1) := by decide +kernel
theorem dL_law_402 : decode cL_law 402 = .ok (.aload_n 0, 1) := by decide +kernel
theorem dL_law_403 : decode cL_law 403 = .ok (.iload_n 3, 1) := by decide +kernel
theorem dL_law_404 : decode cL_law 404 = .ok (.iconst 2, 1) := by decide +kernel
theorem dL_law_405 : decode cL_law 405 = .ok (.iadd, 1) := by decide +kernel
theorem dL_law_406 : decode cL_law 406 = .ok (.iaload, 1) := by decide +kernel
theorem dL_law_407 : decode cL_law 407 = .ok (.aload_n 0, 1) := by decide +kernel
theorem dL_law_408 : decode cL_law 408 = .ok (.iload_n 3, 1) := by decide +kernel
theorem dL_law_409 : decode cL_law 409 = .ok (.iconst 3, 1) := by decide +kernel
theorem dL_law_410 : decode cL_law 410 = .ok (.iadd, 1) := by decide +kernel
theorem dL_law_411 : decode cL_law 411 = .ok (.iaload, 1) := by decide +kernel
theorem dL_law_412 : decode cL_law 412 = .ok (.invokevirtual 64, 3) := by decide +kernel
theorem dL_law_415 : decode cL_law 415 = .ok (.aload_n 2, 1) := by decide +kernel
theorem dL_law_416 : decode cL_law 416 = .ok (.aload_n 0, 1) := by decide +kernel
theorem dL_law_417 : decode cL_law 417 = .ok (.iload_n 3, 1) := by decide +kernel
theorem dL_law_418 : decode cL_law 418 = .ok (.iconst 1, 1) := by decide +kernel
theorem dL_law_419 : decode cL_law 419 = .ok (.iadd, 1) := by decide +kernel
theorem dL_law_420 : decode cL_law 420 = .ok (.iaload, 1) := by decide +kernel
theorem dL_law_421 : decode cL_law 421 = .ok (.aload_n 0, 1) := by decide +kernel
theorem dL_law_422 : decode cL_law 422 = .ok (.iload_n 3, 1) := by decide +kernel
theorem dL_law_423 : decode cL_law 423 = .ok (.iconst 2, 1) := by decide +kernel
theorem dL_law_424 : decode cL_law 424 = .ok (.iadd, 1) := by decide +kernel
theorem dL_law_425 : decode cL_law 425 = .ok (.iaload, 1) := by decide +kernel
theorem dL_law_426 : decode cL_law 426 = .ok (.aload_n 0, 1) := by decide +kernel
theorem dL_law_427 : decode cL_law 427 = .ok (.iload_n 3, 1) := by decide +kernel
theorem dL_law_428 : decode cL_law 428 = .ok (.iconst 3, 1) := by decide +kernel
theorem dL_law_429 : decode cL_law 429 = .ok (.iadd, 1) := by decide +kernel
theorem dL_law_430 : decode cL_law 430 = .ok (.iaload, 1) := by decide +kernel
theorem dL_law_431 : decode cL_law 431 = .ok (.invokevirtual 68, 3) := by decide +kernel
theorem dL_law_434 : decode cL_law 434 = .ok (.if_icmp .eq 110, 3) := by decide +kernel
theorem dL_law_437 : decode cL_law 437 = .ok (.iconst 0, 1) := by decide +kernel
theorem dL_law_438 : decode cL_law 438 = .ok (.ireturn, 1) := by decide +kernel
theorem dL_law_439 : decode cL_law 439 = .ok (.aload_n 1, 1) := by decide +kernel
theorem dL_law_440 : decode cL_law 440 = .ok (.invokevirtual 69, 3) := by decide +kernel
theorem dL_law_443 : decode cL_law 443 = .ok (.aload_n 2, 1) := by decide +kernel
theorem dL_law_444 : decode cL_law 444 = .ok (.invokevirtual 72, 3) := by decide +kernel
theorem dL_law_447 : decode cL_law 447 = .ok (.if_icmp .eq 97, 3) := by decide +kernel
theorem dL_law_450 : decode cL_law 450 = .ok (.iconst 0, 1) := by decide +kernel
theorem dL_law_451 : decode cL_law 451 = .ok (.ireturn, 1) := by decide +kernel
theorem dL_law_452 : decode cL_law 452 = .ok (.aload_n 1, 1) := by decide +kernel
theorem dL_law_453 : decode cL_law 453 = .ok (.aload_n 0, 1) := by decide +kernel
theorem dL_law_454 : decode cL_law 454 = .ok (.iload_n 3, 1) := by decide +kernel
theorem dL_law_455 : decode cL_law 455 = .ok (.iconst 1, 1) := by decide +kernel
theorem dL_law_456 : decode cL_law 456 = .ok (.iadd, 1) := by decide +kernel
theorem dL_law_457 : decode cL_law 457 = .ok (.iaload, 1) := by decide +kernel
theorem dL_law_458 : decode cL_law 458 = .ok (.invokevirtual 73, 3) := by decide +kernel
theorem dL_law_461 : decode cL_law 461 = .ok (.aload_n 2, 1) := by decide +kernel
theorem dL_law_462 : decode cL_law 462 = .ok (.aload_n 0, 1) := by decide +kernel
theorem dL_law_463 : decode cL_law 463 = .ok (.iload_n 3, 1) := by decide +kernel
theorem dL_law_464 : decode cL_law 464 = .ok (.iconst 1, 1) := by decide +kernel
theorem dL_law_465 : decode cL_law 465 = .ok (.iadd, 1) := by decide +kernel
theorem dL_law_466 : decode cL_law 466 = .ok (.iaload, 1) := by decide +kernel
theorem dL_law_467 : decode cL_law 467 = .ok (.invokevirtual 76, 3) := by decide +kernel
theorem dL_law_470 : decode cL_law 470 = .ok (.if_icmp .eq 74, 3) := by decide +kernel
theorem dL_law_473 : decode cL_law 473 = .ok (.iconst 0, 1) := by decide +kernel
theorem dL_law_474 : decode cL_law 474 = .ok (.ireturn, 1) := by decide +kernel
theorem dL_law_475 : decode cL_law 475 = .ok (.aload_n 1, 1) := by decide +kernel
theorem dL_law_476 : decode cL_law 476 = .ok (.aload_n 0, 1) := by decide +kernel
theorem dL_law_477 : decode cL_law 477 = .ok (.iload_n 3, 1) := by decide +kernel
theorem dL_law_478 : decode cL_law 478 = .ok (.iconst 1, 1) := by decide +kernel
theorem dL_law_479 : decode cL_law 479 = .ok (.iadd, 1) := by decide +kernel
theorem dL_law_480 : decode cL_law 480 = .ok (.iaload, 1) := by decide +kernel
theorem dL_law_481 : decode cL_law 481 = .ok (.invokevirtual 77, 3) := by decide +kernel
theorem dL_law_484 : decode cL_law 484 = .ok (.aload_n 2, 1) := by decide +kernel
theorem dL_law_485 : decode cL_law 485 = .ok (.aload_n 0, 1) := by decide +kernel
theorem dL_law_486 : decode cL_law 486 = .ok (.iload_n 3, 1) := by decide +kernel
theorem dL_law_487 : decode cL_law 487 = .ok (.iconst 1, 1) := by decide +kernel
theorem dL_law_488 : decode cL_law 488 = .ok (.iadd, 1) := by decide +kernel
theorem dL_law_489 : decode cL_law 489 = .ok (.iaload, 1) := by decide +kernel
theorem dL_law_490 : decode cL_law 490 = .ok (.invokevirtual 80, 3) := by decide +kernel
theorem dL_law_493 : decode cL_law 493 = .ok (.if_icmp .eq 51, 3) := by decide +kernel
theorem dL_law_496 : decode cL_law 496 = .ok (.iconst 0, 1) := by decide +kernel
theorem dL_law_497 : decode cL_law 497 = .ok (.ireturn, 1) := by decide +kernel
theorem dL_law_498 : decode cL_law 498 = .ok (.aload_n 1, 1) := by decide +kernel
theorem dL_law_499 : decode cL_law 499 = .ok (.aload_n 0, 1) := by decide +kernel
theorem dL_law_500 : decode cL_law 500 = .ok (.iload_n 3, 1) := by decide +kernel
theorem dL_law_501 : decode cL_law 501 = .ok (.iconst 1, 1) := by decide +kernel
theorem dL_law_502 : decode cL_law 502 = .ok (.iadd, 1) := by decide +kernel
theorem dL_law_503 : decode cL_law 503 = .ok (.iaload, 1) := by decide +kernel
theorem dL_law_504 : decode cL_law 504 = .ok (.invokevirtual 81, 3) := by decide +kernel
theorem dL_law_507 : decode cL_law 507 = .ok (.aload_n 2, 1) := by decide +kernel
theorem dL_law_508 : decode cL_law 508 = .ok (.aload_n 0, 1) := by decide +kernel
theorem dL_law_509 : decode cL_law 509 = .ok (.iload_n 3, 1) := by decide +kernel
theorem dL_law_510 : decode cL_law 510 = .ok (.iconst 1, 1) := by decide +kernel
theorem dL_law_511 : decode cL_law 511 = .ok (.iadd, 1) := by decide +kernel
theorem dL_law_512 : decode cL_law 512 = .ok (.iaload, 1) := by decide +kernel
theorem dL_law_513 : decode cL_law 513 = .ok (.invokevirtual 84, 3) := by decide +kernel
theorem dL_law_516 : decode cL_law 516 = .ok (.if_icmp .eq 28, 3) := by decide +kernel
theorem dL_law_519 : decode cL_law 519 = .ok (.iconst 0, 1) := by decide +kernel
theorem dL_law_520 : decode cL_law 520 = .ok (.ireturn, 1) := by decide +kernel
theorem dL_law_521 : decode cL_law 521 = .ok (.aload_n 1, 1) := by decide +kernel
theorem dL_law_522 : decode cL_law 522 = .ok (.aload_n 0, 1) := by decide +kernel
theorem dL_law_523 : decode cL_law 523 = .ok (.iload_n 3, 1) := by decide +kernel
theorem dL_law_524 : decode cL_law 524 = .ok (.iconst 1, 1) := by decide +kernel
theorem dL_law_525 : decode cL_law 525 = .ok (.iadd, 1) := by decide +kernel
theorem dL_law_526 : decode cL_law 526 = .ok (.iaload, 1) := by decide +kernel
theorem dL_law_527 : decode cL_law 527 = .ok (.invokevirtual 85, 3) := by decide +kernel
theorem dL_law_530 : decode cL_law 530 = .ok (.aload_n 2, 1) := by decide +kernel
theorem dL_law_531 : decode cL_law 531 = .ok (.aload_n 0, 1) := by decide +kernel
theorem dL_law_532 : decode cL_law 532 = .ok (.iload_n 3, 1) := by decide +kernel
theorem dL_law_533 : decode cL_law 533 = .ok (.iconst 1, 1) := by decide +kernel
theorem dL_law_534 : decode cL_law 534 = .ok (.iadd, 1) := by decide +kernel
theorem dL_law_535 : decode cL_law 535 = .ok (.iaload, 1) := by decide +kernel
theorem dL_law_536 : decode cL_law 536 = .ok (.invokevirtual 88, 3) := by decide +kernel
theorem dL_law_539 : decode cL_law 539 = .ok (.if_icmp .eq 5, 3) := by decide +kernel
theorem dL_law_542 : decode cL_law 542 = .ok (.iconst 0, 1) := by decide +kernel
theorem dL_law_543 : decode cL_law 543 = .ok (.ireturn, 1) := by decide +kernel
theorem dL_law_544 : decode cL_law 544 = .ok (.iinc 3 4, 3) := by decide +kernel
theorem dL_law_547 : decode cL_law 547 = .ok (.goto (-529), 3) := by decide +kernel
theorem dL_law_550 : decode cL_law 550 = .ok (.iconst 1, 1) := by decide +kernel
theorem dL_law_551 : decode cL_law 551 = .ok (.ireturn, 1) := by decide +kernel

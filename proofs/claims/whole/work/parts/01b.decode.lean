theorem dX0_init_0 : decode cX0_init 0 = .ok (.aload_n 0, 1) := by decide +kernel
theorem dX0_init_1 : decode cX0_init 1 = .ok (.invokespecial 3, 3) := by decide +kernel
theorem dX0_init_4 : decode cX0_init 4 = .ok (.aload_n 0, 1) := by decide +kernel
theorem dX0_init_5 : decode cX0_init 5 = .ok (.bipush 10, 2) := by decide +kernel
theorem dX0_init_7 : decode cX0_init 7 = .ok (.newarray .int, 2) := by decide +kernel
theorem dX0_init_9 : decode cX0_init 9 = .ok (.putfield 9, 3) := by decide +kernel
theorem dX0_init_12 : decode cX0_init 12 = .ok (.aload_n 0, 1) := by decide +kernel
theorem dX0_init_13 : decode cX0_init 13 = .ok (.bipush 10, 2) := by decide +kernel
theorem dX0_init_15 : decode cX0_init 15 = .ok (.newarray .int, 2) := by decide +kernel
theorem dX0_init_17 : decode cX0_init 17 = .ok (.putfield 15, 3) := by decide +kernel
theorem dX0_init_20 : decode cX0_init 20 = .ok (.aload_n 0, 1) := by decide +kernel
theorem dX0_init_21 : decode cX0_init 21 = .ok (.bipush 10, 2) := by decide +kernel
theorem dX0_init_23 : decode cX0_init 23 = .ok (.newarray .int, 2) := by decide +kernel
theorem dX0_init_25 : decode cX0_init 25 = .ok (.putfield 18, 3) := by decide +kernel
theorem dX0_init_28 : decode cX0_init 28 = .ok (.aload_n 0, 1) := by decide +kernel
theorem dX0_init_29 : decode cX0_init 29 = .ok (.bipush 10, 2) := by decide +kernel
theorem dX0_init_31 : decode cX0_init 31 = .ok (.newarray .int, 2) := by decide +kernel
theorem dX0_init_33 : decode cX0_init 33 = .ok (.putfield 21, 3) := by decide +kernel
theorem dX0_init_36 : decode cX0_init 36 = .ok (.return_, 1) := by decide +kernel
theorem dX0_has_0 : decode cX0_has 0 = .ok (.iload_n 1, 1) := by decide +kernel
theorem dX0_has_1 : decode cX0_has 1 = .ok (.ifCond .lt 15, 3) := by decide +kernel
theorem dX0_has_4 : decode cX0_has 4 = .ok (.iload_n 1, 1) := by decide +kernel
theorem dX0_has_5 : decode cX0_has 5 = .ok (.aload_n 0, 1) := by decide +kernel
theorem dX0_has_6 : decode cX0_has 6 = .ok (.getfield 24, 3) := by decide +kernel
theorem dX0_has_9 : decode cX0_has 9 = .ok (.if_icmp .ge 7, 3) := by decide +kernel
theorem dX0_has_12 : decode cX0_has 12 = .ok (.iconst 1, 1) := by decide +kernel
theorem dX0_has_13 : decode cX0_has 13 = .ok (.goto 4, 3) := by decide +kernel
theorem dX0_has_16 : decode cX0_has 16 = .ok (.iconst 0, 1) := by decide +kernel
theorem dX0_has_17 : decode cX0_has 17 = .ok (.ireturn, 1) := by decide +kernel
theorem dX0_add_0 : decode cX0_add 0 = .ok (.aload_n 0, 1) := by decide +kernel
theorem dX0_add_1 : decode cX0_add 1 = .ok (.getfield 24, 3) := by decide +kernel
theorem dX0_add_4 : decode cX0_add 4 = .ok (.istore 5, 2) := by decide +kernel
theorem dX0_add_6 : decode cX0_add 6 = .ok (.aload_n 0, 1) := by decide +kernel
theorem dX0_add_7 : decode cX0_add 7 = .ok (.getfield 9, 3) := by decide +kernel
theorem dX0_add_10 : decode cX0_add 10 = .ok (.iload 5, 2) := by decide +kernel
theorem dX0_add_12 : decode cX0_add 12 = .ok (.iload_n 1, 1) := by decide +kernel
theorem dX0_add_13 : decode cX0_add 13 = .ok (.iastore, 1) := by decide +kernel
theorem dX0_add_14 : decode cX0_add 14 = .ok (.aload_n 0, 1) := by decide +kernel
theorem dX0_add_15 : decode cX0_add 15 = .ok (.getfield 15, 3) := by decide +kernel
theorem dX0_add_18 : decode cX0_add 18 = .ok (.iload 5, 2) := by decide +kernel
theorem dX0_add_20 : decode cX0_add 20 = .ok (.iload_n 2, 1) := by decide +kernel
theorem dX0_add_21 : decode cX0_add 21 = .ok (.iastore, 1) := by decide +kernel
theorem dX0_add_22 : decode cX0_add 22 = .ok (.aload_n 0, 1) := by decide +kernel
theorem dX0_add_23 : decode cX0_add 23 = .ok (.getfield 18, 3) := by decide +kernel
theorem dX0_add_26 : decode cX0_add 26 = .ok (.iload 5, 2) := by decide +kernel
theorem dX0_add_28 : decode cX0_add 28 = .ok (.iload_n 3, 1) := by decide +kernel
theorem dX0_add_29 : decode cX0_add 29 = .ok (.iastore, 1) := by decide +kernel
theorem dX0_add_30 : decode cX0_add 30 = .ok (.aload_n 0, 1) := by decide +kernel
theorem dX0_add_31 : decode cX0_add 31 = .ok (.getfield 21, 3) := by decide +kernel
theorem dX0_add_34 : decode cX0_add 34 = .ok (.iload 5, 2) := by decide +kernel
theorem dX0_add_36 : decode cX0_add 36 = .ok (.iload 4, 2) := by decide +kernel
theorem dX0_add_38 : decode cX0_add 38 = .ok (.iastore, 1) := by decide +kernel
theorem dX0_add_39 : decode cX0_add 39 = .ok (.aload_n 0, 1) := by decide +kernel
theorem dX0_add_40 : decode cX0_add 40 = .ok (.iload 5, 2) := by decide +kernel
theorem dX0_add_42 : decode cX0_add 42 = .ok (.iconst 1, 1) := by decide +kernel
theorem dX0_add_43 : decode cX0_add 43 = .ok (.iadd, 1) := by decide +kernel
theorem dX0_add_44 : decode cX0_add 44 = .ok (.putfield 24, 3) := by decide +kernel
theorem dX0_add_47 : decode cX0_add 47 = .ok (.iload 5, 2) := by decide +kernel
theorem dX0_add_49 : decode cX0_add 49 = .ok (.ireturn, 1) := by decide +kernel
theorem dX0_become_0 : decode cX0_become 0 = .ok (.aload_n 0, 1) := by decide +kernel
theorem dX0_become_1 : decode cX0_become 1 = .ok (.aload_n 1, 1) := by decide +kernel
theorem dX0_become_2 : decode cX0_become 2 = .ok (.getfield 24, 3) := by decide +kernel
theorem dX0_become_5 : decode cX0_become 5 = .ok (.putfield 24, 3) := by decide +kernel
theorem dX0_become_8 : decode cX0_become 8 = .ok (.aload_n 1, 1) := by decide +kernel
theorem dX0_become_9 : decode cX0_become 9 = .ok (.getfield 9, 3) := by decide +kernel
theorem dX0_become_12 : decode cX0_become 12 = .ok (.iconst 0, 1) := by decide +kernel
theorem dX0_become_13 : decode cX0_become 13 = .ok (.aload_n 0, 1) := by decide +kernel
theorem dX0_become_14 : decode cX0_become 14 = .ok (.getfield 9, 3) := by decide +kernel
theorem dX0_become_17 : decode cX0_become 17 = .ok (.iconst 0, 1) := by decide +kernel
theorem dX0_become_18 : decode cX0_become 18 = .ok (.bipush 10, 2) := by decide +kernel
theorem dX0_become_20 : decode cX0_become 20 = .ok (.invokestatic 28, 3) := by decide +kernel
theorem dX0_become_23 : decode cX0_become 23 = .ok (.aload_n 1, 1) := by decide +kernel
theorem dX0_become_24 : decode cX0_become 24 = .ok (.getfield 15, 3) := by decide +kernel
theorem dX0_become_27 : decode cX0_become 27 = .ok (.iconst 0, 1) := by decide +kernel
theorem dX0_become_28 : decode cX0_become 28 = .ok (.aload_n 0, 1) := by decide +kernel
theorem dX0_become_29 : decode cX0_become 29 = .ok (.getfield 15, 3) := by decide +kernel
theorem dX0_become_32 : decode cX0_become 32 = .ok (.iconst 0, 1) := by decide +kernel
theorem dX0_become_33 : decode cX0_become 33 = .ok (.bipush 10, 2) := by decide +kernel
theorem dX0_become_35 : decode cX0_become 35 = .ok (.invokestatic 28, 3) := by decide +kernel
theorem dX0_become_38 : decode cX0_become 38 = .ok (.aload_n 1, 1) := by decide +kernel
theorem dX0_become_39 : decode cX0_become 39 = .ok (.getfield 18, 3) := by decide +kernel
theorem dX0_become_42 : decode cX0_become 42 = .ok (.iconst 0, 1) := by decide +kernel
theorem dX0_become_43 : decode cX0_become 43 = .ok (.aload_n 0, 1) := by decide +kernel
theorem dX0_become_44 : decode cX0_become 44 = .ok (.getfield 18, 3) := by decide +kernel
theorem dX0_become_47 : decode cX0_become 47 = .ok (.iconst 0, 1) := by decide +kernel
theorem dX0_become_48 : decode cX0_become 48 = .ok (.bipush 10, 2) := by decide +kernel
theorem dX0_become_50 : decode cX0_become 50 = .ok (.invokestatic 28, 3) := by decide +kernel
theorem dX0_become_53 : decode cX0_become 53 = .ok (.aload_n 1, 1) := by decide +kernel
theorem dX0_become_54 : decode cX0_become 54 = .ok (.getfield 21, 3) := by decide +kernel
theorem dX0_become_57 : decode cX0_become 57 = .ok (.iconst 0, 1) := by decide +kernel
theorem dX0_become_58 : decode cX0_become 58 = .ok (.aload_n 0, 1) := by decide +kernel
theorem dX0_become_59 : decode cX0_become 59 = .ok (.getfield 21, 3) := by decide +kernel
theorem dX0_become_62 : decode cX0_become 62 = .ok (.iconst 0, 1) := by decide +kernel
theorem dX0_become_63 : decode cX0_become 63 = .ok (.bipush 10, 2) := by decide +kernel
theorem dX0_become_65 : decode cX0_become 65 = .ok (.invokestatic 28, 3) := by decide +kernel
theorem dX0_become_68 : decode cX0_become 68 = .ok (.return_, 1) := by decide +kernel
theorem dX1_init_0 : decode cX1_init 0 = .ok (.aload_n 0, 1) := by decide +kernel
theorem dX1_init_1 : decode cX1_init 1 = .ok (.invokespecial 3, 3) := by decide +kernel
theorem dX1_init_4 : decode cX1_init 4 = .ok (.aload_n 0, 1) := by decide +kernel
theorem dX1_init_5 : decode cX1_init 5 = .ok (.new 9, 3) := by decide +kernel
theorem dX1_init_8 : decode cX1_init 8 = .ok (.dup, 1) := by decide +kernel
theorem dX1_init_9 : decode cX1_init 9 = .ok (.invokespecial 11, 3) := by decide +kernel
theorem dX1_init_12 : decode cX1_init 12 = .ok (.putfield 12, 3) := by decide +kernel
theorem dX1_init_15 : decode cX1_init 15 = .ok (.aload_n 0, 1) := by decide +kernel
theorem dX1_init_16 : decode cX1_init 16 = .ok (.new 18, 3) := by decide +kernel
theorem dX1_init_19 : decode cX1_init 19 = .ok (.dup, 1) := by decide +kernel
theorem dX1_init_20 : decode cX1_init 20 = .ok (.invokespecial 20, 3) := by decide +kernel
theorem dX1_init_23 : decode cX1_init 23 = .ok (.putfield 21, 3) := by decide +kernel
theorem dX1_init_26 : decode cX1_init 26 = .ok (.aload_n 0, 1) := by decide +kernel
theorem dX1_init_27 : decode cX1_init 27 = .ok (.iconst 4, 1) := by decide +kernel
theorem dX1_init_28 : decode cX1_init 28 = .ok (.newarray .int, 2) := by decide +kernel
theorem dX1_init_30 : decode cX1_init 30 = .ok (.putfield 25, 3) := by decide +kernel
theorem dX1_init_33 : decode cX1_init 33 = .ok (.aload_n 0, 1) := by decide +kernel
theorem dX1_init_34 : decode cX1_init 34 = .ok (.iconst 4, 1) := by decide +kernel
theorem dX1_init_35 : decode cX1_init 35 = .ok (.newarray .int, 2) := by decide +kernel
theorem dX1_init_37 : decode cX1_init 37 = .ok (.putfield 29, 3) := by decide +kernel
theorem dX1_init_40 : decode cX1_init 40 = .ok (.aload_n 0, 1) := by decide +kernel
theorem dX1_init_41 : decode cX1_init 41 = .ok (.iconst 4, 1) := by decide +kernel
theorem dX1_init_42 : decode cX1_init 42 = .ok (.newarray .int, 2) := by decide +kernel
theorem dX1_init_44 : decode cX1_init 44 = .ok (.putfield 32, 3) := by decide +kernel
theorem dX1_init_47 : decode cX1_init 47 = .ok (.aload_n 0, 1) := by decide +kernel
theorem dX1_init_48 : decode cX1_init 48 = .ok (.bipush 10, 2) := by decide +kernel
theorem dX1_init_50 : decode cX1_init 50 = .ok (.newarray .int, 2) := by decide +kernel
theorem dX1_init_52 : decode cX1_init 52 = .ok (.putfield 35, 3) := by decide +kernel
theorem dX1_init_55 : decode cX1_init 55 = .ok (.aload_n 0, 1) := by decide +kernel
theorem dX1_init_56 : decode cX1_init 56 = .ok (.bipush 10, 2) := by decide +kernel
theorem dX1_init_58 : decode cX1_init 58 = .ok (.newarray .int, 2) := by decide +kernel
theorem dX1_init_60 : decode cX1_init 60 = .ok (.putfield 38, 3) := by decide +kernel
theorem dX1_init_63 : decode cX1_init 63 = .ok (.aload_n 0, 1) := by decide +kernel
theorem dX1_init_64 : decode cX1_init 64 = .ok (.bipush 10, 2) := by decide +kernel
theorem dX1_init_66 : decode cX1_init 66 = .ok (.newarray .int, 2) := by decide +kernel
theorem dX1_init_68 : decode cX1_init 68 = .ok (.putfield 41, 3) := by decide +kernel
theorem dX1_init_71 : decode cX1_init 71 = .ok (.aload_n 0, 1) := by decide +kernel
theorem dX1_init_72 : decode cX1_init 72 = .ok (.bipush 10, 2) := by decide +kernel
theorem dX1_init_74 : decode cX1_init 74 = .ok (.newarray .int, 2) := by decide +kernel
theorem dX1_init_76 : decode cX1_init 76 = .ok (.putfield 44, 3) := by decide +kernel
theorem dX1_init_79 : decode cX1_init 79 = .ok (.aload_n 0, 1) := by decide +kernel
theorem dX1_init_80 : decode cX1_init 80 = .ok (.bipush (-9), 2) := by decide +kernel
theorem dX1_init_82 : decode cX1_init 82 = .ok (.putfield 47, 3) := by decide +kernel
theorem dX1_init_85 : decode cX1_init 85 = .ok (.return_, 1) := by decide +kernel
theorem dX1_become_0 : decode cX1_become 0 = .ok (.aload_n 0, 1) := by decide +kernel
theorem dX1_become_1 : decode cX1_become 1 = .ok (.getfield 12, 3) := by decide +kernel
theorem dX1_become_4 : decode cX1_become 4 = .ok (.aload_n 1, 1) := by decide +kernel
theorem dX1_become_5 : decode cX1_become 5 = .ok (.getfield 12, 3) := by decide +kernel
theorem dX1_become_8 : decode cX1_become 8 = .ok (.invokevirtual 51, 3) := by decide +kernel
theorem dX1_become_11 : decode cX1_become 11 = .ok (.aload_n 0, 1) := by decide +kernel
theorem dX1_become_12 : decode cX1_become 12 = .ok (.getfield 21, 3) := by decide +kernel
theorem dX1_become_15 : decode cX1_become 15 = .ok (.aload_n 1, 1) := by decide +kernel
theorem dX1_become_16 : decode cX1_become 16 = .ok (.getfield 21, 3) := by decide +kernel
theorem dX1_become_19 : decode cX1_become 19 = .ok (.invokevirtual 55, 3) := by decide +kernel
theorem dX1_become_22 : decode cX1_become 22 = .ok (.aload_n 0, 1) := by decide +kernel
theorem dX1_become_23 : decode cX1_become 23 = .ok (.bipush (-9), 2) := by decide +kernel
theorem dX1_become_25 : decode cX1_become 25 = .ok (.putfield 47, 3) := by decide +kernel
theorem dX1_become_28 : decode cX1_become 28 = .ok (.return_, 1) := by decide +kernel
theorem dX1_awaitCook_0 : decode cX1_awaitCook 0 = .ok (.aload_n 0, 1) := by decide +kernel
theorem dX1_awaitCook_1 : decode cX1_awaitCook 1 = .ok (.iload_n 1, 1) := by decide +kernel
theorem dX1_awaitCook_2 : decode cX1_awaitCook 2 = .ok (.putfield 58, 3) := by decide +kernel
theorem dX1_awaitCook_5 : decode cX1_awaitCook 5 = .ok (.aload_n 0, 1) := by decide +kernel
theorem dX1_awaitCook_6 : decode cX1_awaitCook 6 = .ok (.iload_n 2, 1) := by decide +kernel
theorem dX1_awaitCook_7 : decode cX1_awaitCook 7 = .ok (.putfield 47, 3) := by decide +kernel
theorem dX1_awaitCook_10 : decode cX1_awaitCook 10 = .ok (.aload_n 0, 1) := by decide +kernel
theorem dX1_awaitCook_11 : decode cX1_awaitCook 11 = .ok (.iload_n 3, 1) := by decide +kernel
theorem dX1_awaitCook_12 : decode cX1_awaitCook 12 = .ok (.putfield 61, 3) := by decide +kernel
theorem dX1_awaitCook_15 : decode cX1_awaitCook 15 = .ok (.return_, 1) := by decide +kernel
theorem dX1_open_0 : decode cX1_open 0 = .ok (.aload_n 0, 1) := by decide +kernel
theorem dX1_open_1 : decode cX1_open 1 = .ok (.iconst 0, 1) := by decide +kernel
theorem dX1_open_2 : decode cX1_open 2 = .ok (.putfield 64, 3) := by decide +kernel
theorem dX1_open_5 : decode cX1_open 5 = .ok (.iconst 0, 1) := by decide +kernel
theorem dX1_open_6 : decode cX1_open 6 = .ok (.istore_n 1, 1) := by decide +kernel
theorem dX1_open_7 : decode cX1_open 7 = .ok (.iload_n 1, 1) := by decide +kernel
theorem dX1_open_8 : decode cX1_open 8 = .ok (.aload_n 0, 1) := by decide +kernel
theorem dX1_open_9 : decode cX1_open 9 = .ok (.getfield 12, 3) := by decide +kernel
theorem dX1_open_12 : decode cX1_open 12 = .ok (.getfield 67, 3) := by decide +kernel
theorem dX1_open_15 : decode cX1_open 15 = .ok (.if_icmp .ge 39, 3) := by decide +kernel
theorem dX1_open_18 : decode cX1_open 18 = .ok (.aload_n 0, 1) := by decide +kernel
theorem dX1_open_19 : decode cX1_open 19 = .ok (.getfield 25, 3) := by decide +kernel
theorem dX1_open_22 : decode cX1_open 22 = .ok (.iload_n 1, 1) := by decide +kernel
theorem dX1_open_23 : decode cX1_open 23 = .ok (.aload_n 0, 1) := by decide +kernel
theorem dX1_open_24 : decode cX1_open 24 = .ok (.getfield 12, 3) := by decide +kernel
theorem dX1_open_27 : decode cX1_open 27 = .ok (.getfield 70, 3) := by decide +kernel
theorem dX1_open_30 : decode cX1_open 30 = .ok (.iload_n 1, 1) := by decide +kernel
theorem dX1_open_31 : decode cX1_open 31 = .ok (.iaload, 1) := by decide +kernel
theorem dX1_open_32 : decode cX1_open 32 = .ok (.iastore, 1) := by decide +kernel
theorem dX1_open_33 : decode cX1_open 33 = .ok (.aload_n 0, 1) := by decide +kernel
theorem dX1_open_34 : decode cX1_open 34 = .ok (.getfield 29, 3) := by decide +kernel
theorem dX1_open_37 : decode cX1_open 37 = .ok (.iload_n 1, 1) := by decide +kernel
theorem dX1_open_38 : decode cX1_open 38 = .ok (.bipush (-9), 2) := by decide +kernel
theorem dX1_open_40 : decode cX1_open 40 = .ok (.iastore, 1) := by decide +kernel
theorem dX1_open_41 : decode cX1_open 41 = .ok (.aload_n 0, 1) := by decide +kernel
theorem dX1_open_42 : decode cX1_open 42 = .ok (.getfield 32, 3) := by decide +kernel
theorem dX1_open_45 : decode cX1_open 45 = .ok (.iload_n 1, 1) := by decide +kernel
theorem dX1_open_46 : decode cX1_open 46 = .ok (.iconst 0, 1) := by decide +kernel
theorem dX1_open_47 : decode cX1_open 47 = .ok (.iastore, 1) := by decide +kernel
theorem dX1_open_48 : decode cX1_open 48 = .ok (.iinc 1 1, 3) := by decide +kernel
theorem dX1_open_51 : decode cX1_open 51 = .ok (.goto (-44), 3) := by decide +kernel
theorem dX1_open_54 : decode cX1_open 54 = .ok (.iconst 0, 1) := by decide +kernel
theorem dX1_open_55 : decode cX1_open 55 = .ok (.istore_n 1, 1) := by decide +kernel
theorem dX1_open_56 : decode cX1_open 56 = .ok (.iload_n 1, 1) := by decide +kernel
theorem dX1_open_57 : decode cX1_open 57 = .ok (.aload_n 0, 1) := by decide +kernel
theorem dX1_open_58 : decode cX1_open 58 = .ok (.getfield 21, 3) := by decide +kernel
theorem dX1_open_61 : decode cX1_open 61 = .ok (.getfield 73, 3) := by decide +kernel
theorem dX1_open_64 : decode cX1_open 64 = .ok (.if_icmp .ge 40, 3) := by decide +kernel
theorem dX1_open_67 : decode cX1_open 67 = .ok (.aload_n 0, 1) := by decide +kernel
theorem dX1_open_68 : decode cX1_open 68 = .ok (.getfield 35, 3) := by decide +kernel
theorem dX1_open_71 : decode cX1_open 71 = .ok (.iload_n 1, 1) := by decide +kernel
theorem dX1_open_72 : decode cX1_open 72 = .ok (.bipush (-9), 2) := by decide +kernel
theorem dX1_open_74 : decode cX1_open 74 = .ok (.iastore, 1) := by decide +kernel
theorem dX1_open_75 : decode cX1_open 75 = .ok (.aload_n 0, 1) := by decide +kernel
theorem dX1_open_76 : decode cX1_open 76 = .ok (.getfield 38, 3) := by decide +kernel
theorem dX1_open_79 : decode cX1_open 79 = .ok (.iload_n 1, 1) := by decide +kernel
theorem dX1_open_80 : decode cX1_open 80 = .ok (.bipush (-9), 2) := by decide +kernel
theorem dX1_open_82 : decode cX1_open 82 = .ok (.iastore, 1) := by decide +kernel
theorem dX1_open_83 : decode cX1_open 83 = .ok (.aload_n 0, 1) := by decide +kernel
theorem dX1_open_84 : decode cX1_open 84 = .ok (.getfield 41, 3) := by decide +kernel
theorem dX1_open_87 : decode cX1_open 87 = .ok (.iload_n 1, 1) := by decide +kernel
theorem dX1_open_88 : decode cX1_open 88 = .ok (.bipush (-9), 2) := by decide +kernel
theorem dX1_open_90 : decode cX1_open 90 = .ok (.iastore, 1) := by decide +kernel
theorem dX1_open_91 : decode cX1_open 91 = .ok (.aload_n 0, 1) := by decide +kernel
theorem dX1_open_92 : decode cX1_open 92 = .ok (.getfield 44, 3) := by decide +kernel
theorem dX1_open_95 : decode cX1_open 95 = .ok (.iload_n 1, 1) := by decide +kernel
theorem dX1_open_96 : decode cX1_open 96 = .ok (.iconst 0, 1) := by decide +kernel
theorem dX1_open_97 : decode cX1_open 97 = .ok (.iastore, 1) := by decide +kernel
theorem dX1_open_98 : decode cX1_open 98 = .ok (.iinc 1 1, 3) := by decide +kernel
theorem dX1_open_101 : decode cX1_open 101 = .ok (.goto (-45), 3) := by decide +kernel
theorem dX1_open_104 : decode cX1_open 104 = .ok (.return_, 1) := by decide +kernel
theorem dX1_goThrough_0 : decode cX1_goThrough 0 = .ok (.aload_n 0, 1) := by decide +kernel
theorem dX1_goThrough_1 : decode cX1_goThrough 1 = .ok (.invokevirtual 76, 3) := by decide +kernel
theorem dX1_goThrough_4 : decode cX1_goThrough 4 = .ok (.iconst 0, 1) := by decide +kernel
theorem dX1_goThrough_5 : decode cX1_goThrough 5 = .ok (.istore_n 1, 1) := by decide +kernel
theorem dX1_goThrough_6 : decode cX1_goThrough 6 = .ok (.iload_n 1, 1) := by decide +kernel
theorem dX1_goThrough_7 : decode cX1_goThrough 7 = .ok (.aload_n 0, 1) := by decide +kernel
theorem dX1_goThrough_8 : decode cX1_goThrough 8 = .ok (.getfield 12, 3) := by decide +kernel
theorem dX1_goThrough_11 : decode cX1_goThrough 11 = .ok (.getfield 79, 3) := by decide +kernel
theorem dX1_goThrough_14 : decode cX1_goThrough 14 = .ok (.if_icmp .ge 82, 3) := by decide +kernel
theorem dX1_goThrough_17 : decode cX1_goThrough 17 = .ok (.iload_n 1, 1) := by decide +kernel
theorem dX1_goThrough_18 : decode cX1_goThrough 18 = .ok (.aload_n 0, 1) := by decide +kernel
theorem dX1_goThrough_19 : decode cX1_goThrough 19 = .ok (.getfield 47, 3) := by decide +kernel
theorem dX1_goThrough_22 : decode cX1_goThrough 22 = .ok (.if_icmp .ne 7, 3) := by decide +kernel
theorem dX1_goThrough_25 : decode cX1_goThrough 25 = .ok (.aload_n 0, 1) := by decide +kernel
theorem dX1_goThrough_26 : decode cX1_goThrough 26 = .ok (.invokevirtual 82, 3) := by decide +kernel
theorem dX1_goThrough_29 : decode cX1_goThrough 29 = .ok (.iconst 0, 1) := by decide +kernel
theorem dX1_goThrough_30 : decode cX1_goThrough 30 = .ok (.istore_n 2, 1) := by decide +kernel
theorem dX1_goThrough_31 : decode cX1_goThrough 31 = .ok (.iload_n 2, 1) := by decide +kernel
theorem dX1_goThrough_32 : decode cX1_goThrough 32 = .ok (.aload_n 0, 1) := by decide +kernel
theorem dX1_goThrough_33 : decode cX1_goThrough 33 = .ok (.getfield 21, 3) := by decide +kernel
theorem dX1_goThrough_36 : decode cX1_goThrough 36 = .ok (.getfield 73, 3) := by decide +kernel
theorem dX1_goThrough_39 : decode cX1_goThrough 39 = .ok (.if_icmp .ge 51, 3) := by decide +kernel
theorem dX1_goThrough_42 : decode cX1_goThrough 42 = .ok (.aload_n 0, 1) := by decide +kernel
theorem dX1_goThrough_43 : decode cX1_goThrough 43 = .ok (.iload_n 2, 1) := by decide +kernel
theorem dX1_goThrough_44 : decode cX1_goThrough 44 = .ok (.iload_n 1, 1) := by decide +kernel
theorem dX1_goThrough_45 : decode cX1_goThrough 45 = .ok (.invokevirtual 85, 3) := by decide +kernel
theorem dX1_goThrough_48 : decode cX1_goThrough 48 = .ok (.ifCond .ne 6, 3) := by decide +kernel
theorem dX1_goThrough_51 : decode cX1_goThrough 51 = .ok (.goto 33, 3) := by decide +kernel
theorem dX1_goThrough_54 : decode cX1_goThrough 54 = .ok (.aload_n 0, 1) := by decide +kernel
theorem dX1_goThrough_55 : decode cX1_goThrough 55 = .ok (.getfield 44, 3) := by decide +kernel
theorem dX1_goThrough_58 : decode cX1_goThrough 58 = .ok (.iload_n 2, 1) := by decide +kernel
theorem dX1_goThrough_59 : decode cX1_goThrough 59 = .ok (.dup2, 1) := by decide +kernel
theorem dX1_goThrough_60 : decode cX1_goThrough 60 = .ok (.iaload, 1) := by decide +kernel
theorem dX1_goThrough_61 : decode cX1_goThrough 61 = .ok (.iconst 1, 1) := by decide +kernel
theorem dX1_goThrough_62 : decode cX1_goThrough 62 = .ok (.iadd, 1) := by decide +kernel
theorem dX1_goThrough_63 : decode cX1_goThrough 63 = .ok (.iastore, 1) := by decide +kernel
theorem dX1_goThrough_64 : decode cX1_goThrough 64 = .ok (.aload_n 0, 1) := by decide +kernel
theorem dX1_goThrough_65 : decode cX1_goThrough 65 = .ok (.iload_n 2, 1) := by decide +kernel
theorem dX1_goThrough_66 : decode cX1_goThrough 66 = .ok (.iload_n 1, 1) := by decide +kernel
theorem dX1_goThrough_67 : decode cX1_goThrough 67 = .ok (.invokevirtual 89, 3) := by decide +kernel
theorem dX1_goThrough_70 : decode cX1_goThrough 70 = .ok (.istore_n 3, 1) := by decide +kernel
theorem dX1_goThrough_71 : decode cX1_goThrough 71 = .ok (.iload_n 3, 1) := by decide +kernel
theorem dX1_goThrough_72 : decode cX1_goThrough 72 = .ok (.bipush (-9), 2) := by decide +kernel
theorem dX1_goThrough_74 : decode cX1_goThrough 74 = .ok (.if_icmp .eq 10, 3) := by decide +kernel
theorem dX1_goThrough_77 : decode cX1_goThrough 77 = .ok (.aload_n 0, 1) := by decide +kernel
theorem dX1_goThrough_78 : decode cX1_goThrough 78 = .ok (.iload_n 2, 1) := by decide +kernel
theorem dX1_goThrough_79 : decode cX1_goThrough 79 = .ok (.iload_n 3, 1) := by decide +kernel
theorem dX1_goThrough_80 : decode cX1_goThrough 80 = .ok (.iload_n 1, 1) := by decide +kernel
theorem dX1_goThrough_81 : decode cX1_goThrough 81 = .ok (.invokevirtual 93, 3) := by decide +kernel
theorem dX1_goThrough_84 : decode cX1_goThrough 84 = .ok (.iinc 2 1, 3) := by decide +kernel
theorem dX1_goThrough_87 : decode cX1_goThrough 87 = .ok (.goto (-56), 3) := by decide +kernel
theorem dX1_goThrough_90 : decode cX1_goThrough 90 = .ok (.iinc 1 1, 3) := by decide +kernel
theorem dX1_goThrough_93 : decode cX1_goThrough 93 = .ok (.goto (-87), 3) := by decide +kernel
theorem dX1_goThrough_96 : decode cX1_goThrough 96 = .ok (.return_, 1) := by decide +kernel
theorem dX1_allLeft_0 : decode cX1_allLeft 0 = .ok (.iconst 0, 1) := by decide +kernel
theorem dX1_allLeft_1 : decode cX1_allLeft 1 = .ok (.istore_n 1, 1) := by decide +kernel
theorem dX1_allLeft_2 : decode cX1_allLeft 2 = .ok (.iconst 0, 1) := by decide +kernel
theorem dX1_allLeft_3 : decode cX1_allLeft 3 = .ok (.istore_n 2, 1) := by decide +kernel
theorem dX1_allLeft_4 : decode cX1_allLeft 4 = .ok (.iload_n 2, 1) := by decide +kernel
theorem dX1_allLeft_5 : decode cX1_allLeft 5 = .ok (.aload_n 0, 1) := by decide +kernel
theorem dX1_allLeft_6 : decode cX1_allLeft 6 = .ok (.getfield 12, 3) := by decide +kernel
theorem dX1_allLeft_9 : decode cX1_allLeft 9 = .ok (.getfield 67, 3) := by decide +kernel
theorem dX1_allLeft_12 : decode cX1_allLeft 12 = .ok (.if_icmp .ge 18, 3) := by decide +kernel
theorem dX1_allLeft_15 : decode cX1_allLeft 15 = .ok (.iload_n 1, 1) := by decide +kernel
theorem dX1_allLeft_16 : decode cX1_allLeft 16 = .ok (.aload_n 0, 1) := by decide +kernel
theorem dX1_allLeft_17 : decode cX1_allLeft 17 = .ok (.getfield 25, 3) := by decide +kernel
theorem dX1_allLeft_20 : decode cX1_allLeft 20 = .ok (.iload_n 2, 1) := by decide +kernel
theorem dX1_allLeft_21 : decode cX1_allLeft 21 = .ok (.iaload, 1) := by decide +kernel
theorem dX1_allLeft_22 : decode cX1_allLeft 22 = .ok (.iadd, 1) := by decide +kernel
theorem dX1_allLeft_23 : decode cX1_allLeft 23 = .ok (.istore_n 1, 1) := by decide +kernel
theorem dX1_allLeft_24 : decode cX1_allLeft 24 = .ok (.iinc 2 1, 3) := by decide +kernel
theorem dX1_allLeft_27 : decode cX1_allLeft 27 = .ok (.goto (-23), 3) := by decide +kernel
theorem dX1_allLeft_30 : decode cX1_allLeft 30 = .ok (.iload_n 1, 1) := by decide +kernel
theorem dX1_allLeft_31 : decode cX1_allLeft 31 = .ok (.ireturn, 1) := by decide +kernel
theorem dX1_profit_0 : decode cX1_profit 0 = .ok (.aload_n 0, 1) := by decide +kernel
theorem dX1_profit_1 : decode cX1_profit 1 = .ok (.getfield 64, 3) := by decide +kernel
theorem dX1_profit_4 : decode cX1_profit 4 = .ok (.aload_n 0, 1) := by decide +kernel
theorem dX1_profit_5 : decode cX1_profit 5 = .ok (.getfield 12, 3) := by decide +kernel
theorem dX1_profit_8 : decode cX1_profit 8 = .ok (.getfield 97, 3) := by decide +kernel
theorem dX1_profit_11 : decode cX1_profit 11 = .ok (.aload_n 0, 1) := by decide +kernel
theorem dX1_profit_12 : decode cX1_profit 12 = .ok (.invokevirtual 100, 3) := by decide +kernel
theorem dX1_profit_15 : decode cX1_profit 15 = .ok (.imul, 1) := by decide +kernel
theorem dX1_profit_16 : decode cX1_profit 16 = .ok (.iadd, 1) := by decide +kernel
theorem dX1_profit_17 : decode cX1_profit 17 = .ok (.aload_n 0, 1) := by decide +kernel
theorem dX1_profit_18 : decode cX1_profit 18 = .ok (.getfield 12, 3) := by decide +kernel
theorem dX1_profit_21 : decode cX1_profit 21 = .ok (.invokevirtual 104, 3) := by decide +kernel
theorem dX1_profit_24 : decode cX1_profit 24 = .ok (.isub, 1) := by decide +kernel
theorem dX1_profit_25 : decode cX1_profit 25 = .ok (.ireturn, 1) := by decide +kernel
theorem dX1_worthTo_0 : decode cX1_worthTo 0 = .ok (.aload_n 0, 1) := by decide +kernel
theorem dX1_worthTo_1 : decode cX1_worthTo 1 = .ok (.getfield 21, 3) := by decide +kernel
theorem dX1_worthTo_4 : decode cX1_worthTo 4 = .ok (.getfield 107, 3) := by decide +kernel
theorem dX1_worthTo_7 : decode cX1_worthTo 7 = .ok (.iload_n 1, 1) := by decide +kernel
theorem dX1_worthTo_8 : decode cX1_worthTo 8 = .ok (.iaload, 1) := by decide +kernel
theorem dX1_worthTo_9 : decode cX1_worthTo 9 = .ok (.bipush 9, 2) := by decide +kernel
theorem dX1_worthTo_11 : decode cX1_worthTo 11 = .ok (.aload_n 0, 1) := by decide +kernel
theorem dX1_worthTo_12 : decode cX1_worthTo 12 = .ok (.getfield 12, 3) := by decide +kernel
theorem dX1_worthTo_15 : decode cX1_worthTo 15 = .ok (.iload_n 2, 1) := by decide +kernel
theorem dX1_worthTo_16 : decode cX1_worthTo 16 = .ok (.iload_n 3, 1) := by decide +kernel
theorem dX1_worthTo_17 : decode cX1_worthTo 17 = .ok (.invokevirtual 110, 3) := by decide +kernel
theorem dX1_worthTo_20 : decode cX1_worthTo 20 = .ok (.isub, 1) := by decide +kernel
theorem dX1_worthTo_21 : decode cX1_worthTo 21 = .ok (.isub, 1) := by decide +kernel
theorem dX1_worthTo_22 : decode cX1_worthTo 22 = .ok (.istore 4, 2) := by decide +kernel
theorem dX1_worthTo_24 : decode cX1_worthTo 24 = .ok (.iload_n 2, 1) := by decide +kernel
theorem dX1_worthTo_25 : decode cX1_worthTo 25 = .ok (.aload_n 0, 1) := by decide +kernel
theorem dX1_worthTo_26 : decode cX1_worthTo 26 = .ok (.getfield 21, 3) := by decide +kernel
theorem dX1_worthTo_29 : decode cX1_worthTo 29 = .ok (.getfield 113, 3) := by decide +kernel
theorem dX1_worthTo_32 : decode cX1_worthTo 32 = .ok (.iload_n 1, 1) := by decide +kernel
theorem dX1_worthTo_33 : decode cX1_worthTo 33 = .ok (.iaload, 1) := by decide +kernel
theorem dX1_worthTo_34 : decode cX1_worthTo 34 = .ok (.if_icmp .eq 6, 3) := by decide +kernel
theorem dX1_worthTo_37 : decode cX1_worthTo 37 = .ok (.iinc 4 (-2), 3) := by decide +kernel
theorem dX1_worthTo_40 : decode cX1_worthTo 40 = .ok (.aload_n 0, 1) := by decide +kernel
theorem dX1_worthTo_41 : decode cX1_worthTo 41 = .ok (.getfield 12, 3) := by decide +kernel
theorem dX1_worthTo_44 : decode cX1_worthTo 44 = .ok (.getfield 116, 3) := by decide +kernel
theorem dX1_worthTo_47 : decode cX1_worthTo 47 = .ok (.ifCond .eq 15, 3) := by decide +kernel
theorem dX1_worthTo_50 : decode cX1_worthTo 50 = .ok (.aload_n 0, 1) := by decide +kernel
theorem dX1_worthTo_51 : decode cX1_worthTo 51 = .ok (.iload_n 2, 1) := by decide +kernel
theorem dX1_worthTo_52 : decode cX1_worthTo 52 = .ok (.iload_n 3, 1) := by decide +kernel
theorem dX1_worthTo_53 : decode cX1_worthTo 53 = .ok (.invokevirtual 120, 3) := by decide +kernel
theorem dX1_worthTo_56 : decode cX1_worthTo 56 = .ok (.ifCond .eq 6, 3) := by decide +kernel
theorem dX1_worthTo_59 : decode cX1_worthTo 59 = .ok (.iinc 4 1, 3) := by decide +kernel
theorem dX1_worthTo_62 : decode cX1_worthTo 62 = .ok (.iload 4, 2) := by decide +kernel
theorem dX1_worthTo_64 : decode cX1_worthTo 64 = .ok (.ireturn, 1) := by decide +kernel
theorem dX1_liesDearer_0 : decode cX1_liesDearer 0 = .ok (.iconst 0, 1) := by decide +kernel
theorem dX1_liesDearer_1 : decode cX1_liesDearer 1 = .ok (.istore_n 3, 1) := by decide +kernel
theorem dX1_liesDearer_2 : decode cX1_liesDearer 2 = .ok (.iload_n 3, 1) := by decide +kernel
theorem dX1_liesDearer_3 : decode cX1_liesDearer 3 = .ok (.aload_n 0, 1) := by decide +kernel
theorem dX1_liesDearer_4 : decode cX1_liesDearer 4 = .ok (.getfield 12, 3) := by decide +kernel
theorem dX1_liesDearer_7 : decode cX1_liesDearer 7 = .ok (.getfield 67, 3) := by decide +kernel
theorem dX1_liesDearer_10 : decode cX1_liesDearer 10 = .ok (.if_icmp .ge 45, 3) := by decide +kernel
theorem dX1_liesDearer_13 : decode cX1_liesDearer 13 = .ok (.aload_n 0, 1) := by decide +kernel
theorem dX1_liesDearer_14 : decode cX1_liesDearer 14 = .ok (.getfield 25, 3) := by decide +kernel
theorem dX1_liesDearer_17 : decode cX1_liesDearer 17 = .ok (.iload_n 3, 1) := by decide +kernel
theorem dX1_liesDearer_18 : decode cX1_liesDearer 18 = .ok (.iaload, 1) := by decide +kernel
theorem dX1_liesDearer_19 : decode cX1_liesDearer 19 = .ok (.ifCond .le 30, 3) := by decide +kernel
theorem dX1_liesDearer_22 : decode cX1_liesDearer 22 = .ok (.aload_n 0, 1) := by decide +kernel
theorem dX1_liesDearer_23 : decode cX1_liesDearer 23 = .ok (.getfield 12, 3) := by decide +kernel
theorem dX1_liesDearer_26 : decode cX1_liesDearer 26 = .ok (.getfield 123, 3) := by decide +kernel
theorem dX1_liesDearer_29 : decode cX1_liesDearer 29 = .ok (.iload_n 3, 1) := by decide +kernel
theorem dX1_liesDearer_30 : decode cX1_liesDearer 30 = .ok (.aaload, 1) := by decide +kernel
theorem dX1_liesDearer_31 : decode cX1_liesDearer 31 = .ok (.iload_n 2, 1) := by decide +kernel
theorem dX1_liesDearer_32 : decode cX1_liesDearer 32 = .ok (.iaload, 1) := by decide +kernel
theorem dX1_liesDearer_33 : decode cX1_liesDearer 33 = .ok (.aload_n 0, 1) := by decide +kernel
theorem dX1_liesDearer_34 : decode cX1_liesDearer 34 = .ok (.getfield 12, 3) := by decide +kernel
theorem dX1_liesDearer_37 : decode cX1_liesDearer 37 = .ok (.getfield 123, 3) := by decide +kernel
theorem dX1_liesDearer_40 : decode cX1_liesDearer 40 = .ok (.iload_n 1, 1) := by decide +kernel
theorem dX1_liesDearer_41 : decode cX1_liesDearer 41 = .ok (.aaload, 1) := by decide +kernel
theorem dX1_liesDearer_42 : decode cX1_liesDearer 42 = .ok (.iload_n 2, 1) := by decide +kernel
theorem dX1_liesDearer_43 : decode cX1_liesDearer 43 = .ok (.iaload, 1) := by decide +kernel
theorem dX1_liesDearer_44 : decode cX1_liesDearer 44 = .ok (.if_icmp .le 5, 3) := by decide +kernel
theorem dX1_liesDearer_47 : decode cX1_liesDearer 47 = .ok (.iconst 1, 1) := by decide +kernel
theorem dX1_liesDearer_48 : decode cX1_liesDearer 48 = .ok (.ireturn, 1) := by decide +kernel
theorem dX1_liesDearer_49 : decode cX1_liesDearer 49 = .ok (.iinc 3 1, 3) := by decide +kernel
theorem dX1_liesDearer_52 : decode cX1_liesDearer 52 = .ok (.goto (-50), 3) := by decide +kernel
theorem dX1_liesDearer_55 : decode cX1_liesDearer 55 = .ok (.iconst 0, 1) := by decide +kernel
theorem dX1_liesDearer_56 : decode cX1_liesDearer 56 = .ok (.ireturn, 1) := by decide +kernel
theorem dX1_sellAllToCook_0 : decode cX1_sellAllToCook 0 = .ok (.aload_n 0, 1) := by decide +kernel
theorem dX1_sellAllToCook_1 : decode cX1_sellAllToCook 1 = .ok (.dup, 1) := by decide +kernel
theorem dX1_sellAllToCook_2 : decode cX1_sellAllToCook 2 = .ok (.getfield 64, 3) := by decide +kernel
theorem dX1_sellAllToCook_5 : decode cX1_sellAllToCook 5 = .ok (.aload_n 0, 1) := by decide +kernel
theorem dX1_sellAllToCook_6 : decode cX1_sellAllToCook 6 = .ok (.getfield 25, 3) := by decide +kernel
theorem dX1_sellAllToCook_9 : decode cX1_sellAllToCook 9 = .ok (.aload_n 0, 1) := by decide +kernel
theorem dX1_sellAllToCook_10 : decode cX1_sellAllToCook 10 = .ok (.getfield 58, 3) := by decide +kernel
theorem dX1_sellAllToCook_13 : decode cX1_sellAllToCook 13 = .ok (.iaload, 1) := by decide +kernel
theorem dX1_sellAllToCook_14 : decode cX1_sellAllToCook 14 = .ok (.aload_n 0, 1) := by decide +kernel
theorem dX1_sellAllToCook_15 : decode cX1_sellAllToCook 15 = .ok (.getfield 61, 3) := by decide +kernel
theorem dX1_sellAllToCook_18 : decode cX1_sellAllToCook 18 = .ok (.imul, 1) := by decide +kernel
theorem dX1_sellAllToCook_19 : decode cX1_sellAllToCook 19 = .ok (.iadd, 1) := by decide +kernel
theorem dX1_sellAllToCook_20 : decode cX1_sellAllToCook 20 = .ok (.putfield 64, 3) := by decide +kernel
theorem dX1_sellAllToCook_23 : decode cX1_sellAllToCook 23 = .ok (.aload_n 0, 1) := by decide +kernel
theorem dX1_sellAllToCook_24 : decode cX1_sellAllToCook 24 = .ok (.getfield 25, 3) := by decide +kernel
theorem dX1_sellAllToCook_27 : decode cX1_sellAllToCook 27 = .ok (.aload_n 0, 1) := by decide +kernel
theorem dX1_sellAllToCook_28 : decode cX1_sellAllToCook 28 = .ok (.getfield 58, 3) := by decide +kernel
theorem dX1_sellAllToCook_31 : decode cX1_sellAllToCook 31 = .ok (.iconst 0, 1) := by decide +kernel
theorem dX1_sellAllToCook_32 : decode cX1_sellAllToCook 32 = .ok (.iastore, 1) := by decide +kernel
theorem dX1_sellAllToCook_33 : decode cX1_sellAllToCook 33 = .ok (.return_, 1) := by decide +kernel
theorem dX1_comes_0 : decode cX1_comes 0 = .ok (.aload_n 0, 1) := by decide +kernel
theorem dX1_comes_1 : decode cX1_comes 1 = .ok (.getfield 21, 3) := by decide +kernel
theorem dX1_comes_4 : decode cX1_comes 4 = .ok (.getfield 127, 3) := by decide +kernel
theorem dX1_comes_7 : decode cX1_comes 7 = .ok (.iload_n 1, 1) := by decide +kernel
theorem dX1_comes_8 : decode cX1_comes 8 = .ok (.iaload, 1) := by decide +kernel
theorem dX1_comes_9 : decode cX1_comes 9 = .ok (.iconst 2, 1) := by decide +kernel
theorem dX1_comes_10 : decode cX1_comes 10 = .ok (.if_icmp .ne 33, 3) := by decide +kernel
theorem dX1_comes_13 : decode cX1_comes 13 = .ok (.aload_n 0, 1) := by decide +kernel
theorem dX1_comes_14 : decode cX1_comes 14 = .ok (.getfield 21, 3) := by decide +kernel
theorem dX1_comes_17 : decode cX1_comes 17 = .ok (.getfield 130, 3) := by decide +kernel
theorem dX1_comes_20 : decode cX1_comes 20 = .ok (.iload_n 1, 1) := by decide +kernel
theorem dX1_comes_21 : decode cX1_comes 21 = .ok (.iaload, 1) := by decide +kernel
theorem dX1_comes_22 : decode cX1_comes 22 = .ok (.iload_n 2, 1) := by decide +kernel
theorem dX1_comes_23 : decode cX1_comes 23 = .ok (.if_icmp .gt 18, 3) := by decide +kernel
theorem dX1_comes_26 : decode cX1_comes 26 = .ok (.aload_n 0, 1) := by decide +kernel
theorem dX1_comes_27 : decode cX1_comes 27 = .ok (.getfield 35, 3) := by decide +kernel
theorem dX1_comes_30 : decode cX1_comes 30 = .ok (.iload_n 1, 1) := by decide +kernel
theorem dX1_comes_31 : decode cX1_comes 31 = .ok (.iaload, 1) := by decide +kernel
theorem dX1_comes_32 : decode cX1_comes 32 = .ok (.bipush (-9), 2) := by decide +kernel
theorem dX1_comes_34 : decode cX1_comes 34 = .ok (.if_icmp .ne 7, 3) := by decide +kernel
theorem dX1_comes_37 : decode cX1_comes 37 = .ok (.iconst 1, 1) := by decide +kernel
theorem dX1_comes_38 : decode cX1_comes 38 = .ok (.goto 4, 3) := by decide +kernel
theorem dX1_comes_41 : decode cX1_comes 41 = .ok (.iconst 0, 1) := by decide +kernel
theorem dX1_comes_42 : decode cX1_comes 42 = .ok (.ireturn, 1) := by decide +kernel
theorem dX1_comes_43 : decode cX1_comes 43 = .ok (.aload_n 0, 1) := by decide +kernel
theorem dX1_comes_44 : decode cX1_comes 44 = .ok (.getfield 21, 3) := by decide +kernel
theorem dX1_comes_47 : decode cX1_comes 47 = .ok (.getfield 130, 3) := by decide +kernel
theorem dX1_comes_50 : decode cX1_comes 50 = .ok (.iload_n 1, 1) := by decide +kernel
theorem dX1_comes_51 : decode cX1_comes 51 = .ok (.iaload, 1) := by decide +kernel
theorem dX1_comes_52 : decode cX1_comes 52 = .ok (.iload_n 2, 1) := by decide +kernel
theorem dX1_comes_53 : decode cX1_comes 53 = .ok (.if_icmp .ne 7, 3) := by decide +kernel
theorem dX1_comes_56 : decode cX1_comes 56 = .ok (.iconst 1, 1) := by decide +kernel
theorem dX1_comes_57 : decode cX1_comes 57 = .ok (.goto 4, 3) := by decide +kernel
theorem dX1_comes_60 : decode cX1_comes 60 = .ok (.iconst 0, 1) := by decide +kernel
theorem dX1_comes_61 : decode cX1_comes 61 = .ok (.ireturn, 1) := by decide +kernel
theorem dX1_sellOne_0 : decode cX1_sellOne 0 = .ok (.aload_n 0, 1) := by decide +kernel
theorem dX1_sellOne_1 : decode cX1_sellOne 1 = .ok (.getfield 12, 3) := by decide +kernel
theorem dX1_sellOne_4 : decode cX1_sellOne 4 = .ok (.getfield 123, 3) := by decide +kernel
theorem dX1_sellOne_7 : decode cX1_sellOne 7 = .ok (.iload_n 2, 1) := by decide +kernel
theorem dX1_sellOne_8 : decode cX1_sellOne 8 = .ok (.aaload, 1) := by decide +kernel
theorem dX1_sellOne_9 : decode cX1_sellOne 9 = .ok (.iload_n 3, 1) := by decide +kernel
theorem dX1_sellOne_10 : decode cX1_sellOne 10 = .ok (.iaload, 1) := by decide +kernel
theorem dX1_sellOne_11 : decode cX1_sellOne 11 = .ok (.istore 4, 2) := by decide +kernel
theorem dX1_sellOne_13 : decode cX1_sellOne 13 = .ok (.aload_n 0, 1) := by decide +kernel
theorem dX1_sellOne_14 : decode cX1_sellOne 14 = .ok (.getfield 25, 3) := by decide +kernel
theorem dX1_sellOne_17 : decode cX1_sellOne 17 = .ok (.iload_n 2, 1) := by decide +kernel
theorem dX1_sellOne_18 : decode cX1_sellOne 18 = .ok (.dup2, 1) := by decide +kernel
theorem dX1_sellOne_19 : decode cX1_sellOne 19 = .ok (.iaload, 1) := by decide +kernel
theorem dX1_sellOne_20 : decode cX1_sellOne 20 = .ok (.iconst 1, 1) := by decide +kernel
theorem dX1_sellOne_21 : decode cX1_sellOne 21 = .ok (.isub, 1) := by decide +kernel
theorem dX1_sellOne_22 : decode cX1_sellOne 22 = .ok (.iastore, 1) := by decide +kernel
theorem dX1_sellOne_23 : decode cX1_sellOne 23 = .ok (.aload_n 0, 1) := by decide +kernel
theorem dX1_sellOne_24 : decode cX1_sellOne 24 = .ok (.getfield 25, 3) := by decide +kernel
theorem dX1_sellOne_27 : decode cX1_sellOne 27 = .ok (.iload_n 2, 1) := by decide +kernel
theorem dX1_sellOne_28 : decode cX1_sellOne 28 = .ok (.iaload, 1) := by decide +kernel
theorem dX1_sellOne_29 : decode cX1_sellOne 29 = .ok (.ifCond .ne 10, 3) := by decide +kernel
theorem dX1_sellOne_32 : decode cX1_sellOne 32 = .ok (.aload_n 0, 1) := by decide +kernel
theorem dX1_sellOne_33 : decode cX1_sellOne 33 = .ok (.getfield 29, 3) := by decide +kernel
theorem dX1_sellOne_36 : decode cX1_sellOne 36 = .ok (.iload_n 2, 1) := by decide +kernel
theorem dX1_sellOne_37 : decode cX1_sellOne 37 = .ok (.iload_n 3, 1) := by decide +kernel
theorem dX1_sellOne_38 : decode cX1_sellOne 38 = .ok (.iastore, 1) := by decide +kernel
theorem dX1_sellOne_39 : decode cX1_sellOne 39 = .ok (.aload_n 0, 1) := by decide +kernel
theorem dX1_sellOne_40 : decode cX1_sellOne 40 = .ok (.getfield 32, 3) := by decide +kernel
theorem dX1_sellOne_43 : decode cX1_sellOne 43 = .ok (.iload_n 2, 1) := by decide +kernel
theorem dX1_sellOne_44 : decode cX1_sellOne 44 = .ok (.dup2, 1) := by decide +kernel
theorem dX1_sellOne_45 : decode cX1_sellOne 45 = .ok (.iaload, 1) := by decide +kernel
theorem dX1_sellOne_46 : decode cX1_sellOne 46 = .ok (.iload 4, 2) := by decide +kernel
theorem dX1_sellOne_48 : decode cX1_sellOne 48 = .ok (.iadd, 1) := by decide +kernel
theorem dX1_sellOne_49 : decode cX1_sellOne 49 = .ok (.iastore, 1) := by decide +kernel
theorem dX1_sellOne_50 : decode cX1_sellOne 50 = .ok (.aload_n 0, 1) := by decide +kernel
theorem dX1_sellOne_51 : decode cX1_sellOne 51 = .ok (.dup, 1) := by decide +kernel
theorem dX1_sellOne_52 : decode cX1_sellOne 52 = .ok (.getfield 64, 3) := by decide +kernel
theorem dX1_sellOne_55 : decode cX1_sellOne 55 = .ok (.iload 4, 2) := by decide +kernel
theorem dX1_sellOne_57 : decode cX1_sellOne 57 = .ok (.iadd, 1) := by decide +kernel
theorem dX1_sellOne_58 : decode cX1_sellOne 58 = .ok (.putfield 64, 3) := by decide +kernel
theorem dX1_sellOne_61 : decode cX1_sellOne 61 = .ok (.aload_n 0, 1) := by decide +kernel
theorem dX1_sellOne_62 : decode cX1_sellOne 62 = .ok (.getfield 35, 3) := by decide +kernel
theorem dX1_sellOne_65 : decode cX1_sellOne 65 = .ok (.iload_n 1, 1) := by decide +kernel
theorem dX1_sellOne_66 : decode cX1_sellOne 66 = .ok (.iload_n 2, 1) := by decide +kernel
theorem dX1_sellOne_67 : decode cX1_sellOne 67 = .ok (.iastore, 1) := by decide +kernel
theorem dX1_sellOne_68 : decode cX1_sellOne 68 = .ok (.aload_n 0, 1) := by decide +kernel
theorem dX1_sellOne_69 : decode cX1_sellOne 69 = .ok (.getfield 38, 3) := by decide +kernel
theorem dX1_sellOne_72 : decode cX1_sellOne 72 = .ok (.iload_n 1, 1) := by decide +kernel
theorem dX1_sellOne_73 : decode cX1_sellOne 73 = .ok (.iload_n 3, 1) := by decide +kernel
theorem dX1_sellOne_74 : decode cX1_sellOne 74 = .ok (.iastore, 1) := by decide +kernel
theorem dX1_sellOne_75 : decode cX1_sellOne 75 = .ok (.aload_n 0, 1) := by decide +kernel
theorem dX1_sellOne_76 : decode cX1_sellOne 76 = .ok (.getfield 41, 3) := by decide +kernel
theorem dX1_sellOne_79 : decode cX1_sellOne 79 = .ok (.iload_n 1, 1) := by decide +kernel
theorem dX1_sellOne_80 : decode cX1_sellOne 80 = .ok (.iload 4, 2) := by decide +kernel
theorem dX1_sellOne_82 : decode cX1_sellOne 82 = .ok (.iastore, 1) := by decide +kernel
theorem dX1_sellOne_83 : decode cX1_sellOne 83 = .ok (.return_, 1) := by decide +kernel
theorem dX1_choiceOf_0 : decode cX1_choiceOf 0 = .ok (.aload_n 0, 1) := by decide +kernel
theorem dX1_choiceOf_1 : decode cX1_choiceOf 1 = .ok (.getfield 21, 3) := by decide +kernel
theorem dX1_choiceOf_4 : decode cX1_choiceOf 4 = .ok (.getfield 113, 3) := by decide +kernel
theorem dX1_choiceOf_7 : decode cX1_choiceOf 7 = .ok (.iload_n 1, 1) := by decide +kernel
theorem dX1_choiceOf_8 : decode cX1_choiceOf 8 = .ok (.iaload, 1) := by decide +kernel
theorem dX1_choiceOf_9 : decode cX1_choiceOf 9 = .ok (.istore_n 3, 1) := by decide +kernel
theorem dX1_choiceOf_10 : decode cX1_choiceOf 10 = .ok (.aload_n 0, 1) := by decide +kernel
theorem dX1_choiceOf_11 : decode cX1_choiceOf 11 = .ok (.getfield 21, 3) := by decide +kernel
theorem dX1_choiceOf_14 : decode cX1_choiceOf 14 = .ok (.getfield 127, 3) := by decide +kernel
theorem dX1_choiceOf_17 : decode cX1_choiceOf 17 = .ok (.iload_n 1, 1) := by decide +kernel
theorem dX1_choiceOf_18 : decode cX1_choiceOf 18 = .ok (.iaload, 1) := by decide +kernel
theorem dX1_choiceOf_19 : decode cX1_choiceOf 19 = .ok (.iconst 2, 1) := by decide +kernel
theorem dX1_choiceOf_20 : decode cX1_choiceOf 20 = .ok (.if_icmp .ne 18, 3) := by decide +kernel
theorem dX1_choiceOf_23 : decode cX1_choiceOf 23 = .ok (.aload_n 0, 1) := by decide +kernel
theorem dX1_choiceOf_24 : decode cX1_choiceOf 24 = .ok (.getfield 12, 3) := by decide +kernel
theorem dX1_choiceOf_27 : decode cX1_choiceOf 27 = .ok (.iload_n 3, 1) := by decide +kernel
theorem dX1_choiceOf_28 : decode cX1_choiceOf 28 = .ok (.iload_n 2, 1) := by decide +kernel
theorem dX1_choiceOf_29 : decode cX1_choiceOf 29 = .ok (.invokevirtual 133, 3) := by decide +kernel
theorem dX1_choiceOf_32 : decode cX1_choiceOf 32 = .ok (.ifCond .eq 6, 3) := by decide +kernel
theorem dX1_choiceOf_35 : decode cX1_choiceOf 35 = .ok (.bipush (-9), 2) := by decide +kernel
theorem dX1_choiceOf_37 : decode cX1_choiceOf 37 = .ok (.ireturn, 1) := by decide +kernel
theorem dX1_choiceOf_38 : decode cX1_choiceOf 38 = .ok (.aload_n 0, 1) := by decide +kernel
theorem dX1_choiceOf_39 : decode cX1_choiceOf 39 = .ok (.iload_n 1, 1) := by decide +kernel
theorem dX1_choiceOf_40 : decode cX1_choiceOf 40 = .ok (.iload_n 3, 1) := by decide +kernel
theorem dX1_choiceOf_41 : decode cX1_choiceOf 41 = .ok (.iload_n 2, 1) := by decide +kernel
theorem dX1_choiceOf_42 : decode cX1_choiceOf 42 = .ok (.invokevirtual 136, 3) := by decide +kernel
theorem dX1_choiceOf_45 : decode cX1_choiceOf 45 = .ok (.ifCond .lt 5, 3) := by decide +kernel
theorem dX1_choiceOf_48 : decode cX1_choiceOf 48 = .ok (.iload_n 3, 1) := by decide +kernel
theorem dX1_choiceOf_49 : decode cX1_choiceOf 49 = .ok (.ireturn, 1) := by decide +kernel
theorem dX1_choiceOf_50 : decode cX1_choiceOf 50 = .ok (.aload_n 0, 1) := by decide +kernel
theorem dX1_choiceOf_51 : decode cX1_choiceOf 51 = .ok (.getfield 21, 3) := by decide +kernel
theorem dX1_choiceOf_54 : decode cX1_choiceOf 54 = .ok (.getfield 127, 3) := by decide +kernel
theorem dX1_choiceOf_57 : decode cX1_choiceOf 57 = .ok (.iload_n 1, 1) := by decide +kernel
theorem dX1_choiceOf_58 : decode cX1_choiceOf 58 = .ok (.iaload, 1) := by decide +kernel
theorem dX1_choiceOf_59 : decode cX1_choiceOf 59 = .ok (.ifCond .ne 6, 3) := by decide +kernel
theorem dX1_choiceOf_62 : decode cX1_choiceOf 62 = .ok (.bipush (-9), 2) := by decide +kernel
theorem dX1_choiceOf_64 : decode cX1_choiceOf 64 = .ok (.ireturn, 1) := by decide +kernel
theorem dX1_choiceOf_65 : decode cX1_choiceOf 65 = .ok (.bipush (-9), 2) := by decide +kernel
theorem dX1_choiceOf_67 : decode cX1_choiceOf 67 = .ok (.istore 4, 2) := by decide +kernel
theorem dX1_choiceOf_69 : decode cX1_choiceOf 69 = .ok (.iconst (-1), 1) := by decide +kernel
theorem dX1_choiceOf_70 : decode cX1_choiceOf 70 = .ok (.istore 5, 2) := by decide +kernel
theorem dX1_choiceOf_72 : decode cX1_choiceOf 72 = .ok (.iconst 0, 1) := by decide +kernel
theorem dX1_choiceOf_73 : decode cX1_choiceOf 73 = .ok (.istore 6, 2) := by decide +kernel
theorem dX1_choiceOf_75 : decode cX1_choiceOf 75 = .ok (.iload 6, 2) := by decide +kernel
theorem dX1_choiceOf_77 : decode cX1_choiceOf 77 = .ok (.aload_n 0, 1) := by decide +kernel
theorem dX1_choiceOf_78 : decode cX1_choiceOf 78 = .ok (.getfield 12, 3) := by decide +kernel
theorem dX1_choiceOf_81 : decode cX1_choiceOf 81 = .ok (.getfield 67, 3) := by decide +kernel
theorem dX1_choiceOf_84 : decode cX1_choiceOf 84 = .ok (.if_icmp .ge 34, 3) := by decide +kernel
theorem dX1_choiceOf_87 : decode cX1_choiceOf 87 = .ok (.aload_n 0, 1) := by decide +kernel
theorem dX1_choiceOf_88 : decode cX1_choiceOf 88 = .ok (.iload_n 1, 1) := by decide +kernel
theorem dX1_choiceOf_89 : decode cX1_choiceOf 89 = .ok (.iload 6, 2) := by decide +kernel
theorem dX1_choiceOf_91 : decode cX1_choiceOf 91 = .ok (.iload_n 2, 1) := by decide +kernel
theorem dX1_choiceOf_92 : decode cX1_choiceOf 92 = .ok (.invokevirtual 136, 3) := by decide +kernel
theorem dX1_choiceOf_95 : decode cX1_choiceOf 95 = .ok (.istore 7, 2) := by decide +kernel
theorem dX1_choiceOf_97 : decode cX1_choiceOf 97 = .ok (.iload 7, 2) := by decide +kernel
theorem dX1_choiceOf_99 : decode cX1_choiceOf 99 = .ok (.iload 5, 2) := by decide +kernel
theorem dX1_choiceOf_101 : decode cX1_choiceOf 101 = .ok (.if_icmp .le 11, 3) := by decide +kernel
theorem dX1_choiceOf_104 : decode cX1_choiceOf 104 = .ok (.iload 7, 2) := by decide +kernel
theorem dX1_choiceOf_106 : decode cX1_choiceOf 106 = .ok (.istore 5, 2) := by decide +kernel
theorem dX1_choiceOf_108 : decode cX1_choiceOf 108 = .ok (.iload 6, 2) := by decide +kernel
theorem dX1_choiceOf_110 : decode cX1_choiceOf 110 = .ok (.istore 4, 2) := by decide +kernel
theorem dX1_choiceOf_112 : decode cX1_choiceOf 112 = .ok (.iinc 6 1, 3) := by decide +kernel
theorem dX1_choiceOf_115 : decode cX1_choiceOf 115 = .ok (.goto (-40), 3) := by decide +kernel
theorem dX1_choiceOf_118 : decode cX1_choiceOf 118 = .ok (.iload 4, 2) := by decide +kernel
theorem dX1_choiceOf_120 : decode cX1_choiceOf 120 = .ok (.ireturn, 1) := by decide +kernel
theorem dX1_gainOf_0 : decode cX1_gainOf 0 = .ok (.aload_n 0, 1) := by decide +kernel
theorem dX1_gainOf_1 : decode cX1_gainOf 1 = .ok (.getfield 25, 3) := by decide +kernel
theorem dX1_gainOf_4 : decode cX1_gainOf 4 = .ok (.iload_n 2, 1) := by decide +kernel
theorem dX1_gainOf_5 : decode cX1_gainOf 5 = .ok (.iaload, 1) := by decide +kernel
theorem dX1_gainOf_6 : decode cX1_gainOf 6 = .ok (.ifCond .le 25, 3) := by decide +kernel
theorem dX1_gainOf_9 : decode cX1_gainOf 9 = .ok (.aload_n 0, 1) := by decide +kernel
theorem dX1_gainOf_10 : decode cX1_gainOf 10 = .ok (.iload_n 1, 1) := by decide +kernel
theorem dX1_gainOf_11 : decode cX1_gainOf 11 = .ok (.iload_n 2, 1) := by decide +kernel
theorem dX1_gainOf_12 : decode cX1_gainOf 12 = .ok (.iload_n 3, 1) := by decide +kernel
theorem dX1_gainOf_13 : decode cX1_gainOf 13 = .ok (.invokevirtual 140, 3) := by decide +kernel
theorem dX1_gainOf_16 : decode cX1_gainOf 16 = .ok (.aload_n 0, 1) := by decide +kernel
theorem dX1_gainOf_17 : decode cX1_gainOf 17 = .ok (.getfield 12, 3) := by decide +kernel
theorem dX1_gainOf_20 : decode cX1_gainOf 20 = .ok (.getfield 123, 3) := by decide +kernel
theorem dX1_gainOf_23 : decode cX1_gainOf 23 = .ok (.iload_n 2, 1) := by decide +kernel
theorem dX1_gainOf_24 : decode cX1_gainOf 24 = .ok (.aaload, 1) := by decide +kernel
theorem dX1_gainOf_25 : decode cX1_gainOf 25 = .ok (.iload_n 3, 1) := by decide +kernel
theorem dX1_gainOf_26 : decode cX1_gainOf 26 = .ok (.iaload, 1) := by decide +kernel
theorem dX1_gainOf_27 : decode cX1_gainOf 27 = .ok (.isub, 1) := by decide +kernel
theorem dX1_gainOf_28 : decode cX1_gainOf 28 = .ok (.goto 4, 3) := by decide +kernel
theorem dX1_gainOf_31 : decode cX1_gainOf 31 = .ok (.iconst (-1), 1) := by decide +kernel
theorem dX1_gainOf_32 : decode cX1_gainOf 32 = .ok (.ireturn, 1) := by decide +kernel
theorem dX2_init_0 : decode cX2_init 0 = .ok (.aload_n 0, 1) := by decide +kernel
theorem dX2_init_1 : decode cX2_init 1 = .ok (.invokespecial 1, 3) := by decide +kernel
theorem dX2_init_4 : decode cX2_init 4 = .ok (.aload_n 0, 1) := by decide +kernel
theorem dX2_init_5 : decode cX2_init 5 = .ok (.iconst 4, 1) := by decide +kernel
theorem dX2_init_6 : decode cX2_init 6 = .ok (.newarray .int, 2) := by decide +kernel
theorem dX2_init_8 : decode cX2_init 8 = .ok (.putfield 9, 3) := by decide +kernel
theorem dX2_init_11 : decode cX2_init 11 = .ok (.aload_n 0, 1) := by decide +kernel
theorem dX2_init_12 : decode cX2_init 12 = .ok (.iconst 4, 1) := by decide +kernel
theorem dX2_init_13 : decode cX2_init 13 = .ok (.newarray .int, 2) := by decide +kernel
theorem dX2_init_15 : decode cX2_init 15 = .ok (.putfield 13, 3) := by decide +kernel
theorem dX2_init_18 : decode cX2_init 18 = .ok (.return_, 1) := by decide +kernel
theorem dX2_take_0 : decode cX2_take 0 = .ok (.aload_n 1, 1) := by decide +kernel
theorem dX2_take_1 : decode cX2_take 1 = .ok (.iload_n 2, 1) := by decide +kernel
theorem dX2_take_2 : decode cX2_take 2 = .ok (.bipush 8, 2) := by decide +kernel
theorem dX2_take_4 : decode cX2_take 4 = .ok (.bipush (-99), 2) := by decide +kernel
theorem dX2_take_6 : decode cX2_take 6 = .ok (.bipush 99, 2) := by decide +kernel
theorem dX2_take_8 : decode cX2_take 8 = .ok (.invokestatic 16, 3) := by decide +kernel
theorem dX2_take_11 : decode cX2_take 11 = .ok (.ifCond .ne 5, 3) := by decide +kernel
theorem dX2_take_14 : decode cX2_take 14 = .ok (.iconst 0, 1) := by decide +kernel
theorem dX2_take_15 : decode cX2_take 15 = .ok (.ireturn, 1) := by decide +kernel
theorem dX2_take_16 : decode cX2_take 16 = .ok (.iconst 0, 1) := by decide +kernel
theorem dX2_take_17 : decode cX2_take 17 = .ok (.istore_n 3, 1) := by decide +kernel
theorem dX2_take_18 : decode cX2_take 18 = .ok (.iload_n 3, 1) := by decide +kernel
theorem dX2_take_19 : decode cX2_take 19 = .ok (.iconst 4, 1) := by decide +kernel
theorem dX2_take_20 : decode cX2_take 20 = .ok (.if_icmp .ge 37, 3) := by decide +kernel
theorem dX2_take_23 : decode cX2_take 23 = .ok (.aload_n 0, 1) := by decide +kernel
theorem dX2_take_24 : decode cX2_take 24 = .ok (.getfield 9, 3) := by decide +kernel
theorem dX2_take_27 : decode cX2_take 27 = .ok (.iload_n 3, 1) := by decide +kernel
theorem dX2_take_28 : decode cX2_take 28 = .ok (.aload_n 1, 1) := by decide +kernel
theorem dX2_take_29 : decode cX2_take 29 = .ok (.iload_n 2, 1) := by decide +kernel
theorem dX2_take_30 : decode cX2_take 30 = .ok (.iconst 2, 1) := by decide +kernel
theorem dX2_take_31 : decode cX2_take 31 = .ok (.iload_n 3, 1) := by decide +kernel
theorem dX2_take_32 : decode cX2_take 32 = .ok (.imul, 1) := by decide +kernel
theorem dX2_take_33 : decode cX2_take 33 = .ok (.iadd, 1) := by decide +kernel
theorem dX2_take_34 : decode cX2_take 34 = .ok (.iaload, 1) := by decide +kernel
theorem dX2_take_35 : decode cX2_take 35 = .ok (.iastore, 1) := by decide +kernel
theorem dX2_take_36 : decode cX2_take 36 = .ok (.aload_n 0, 1) := by decide +kernel
theorem dX2_take_37 : decode cX2_take 37 = .ok (.getfield 13, 3) := by decide +kernel
theorem dX2_take_40 : decode cX2_take 40 = .ok (.iload_n 3, 1) := by decide +kernel
theorem dX2_take_41 : decode cX2_take 41 = .ok (.aload_n 1, 1) := by decide +kernel
theorem dX2_take_42 : decode cX2_take 42 = .ok (.iload_n 2, 1) := by decide +kernel
theorem dX2_take_43 : decode cX2_take 43 = .ok (.iconst 2, 1) := by decide +kernel
theorem dX2_take_44 : decode cX2_take 44 = .ok (.iload_n 3, 1) := by decide +kernel
theorem dX2_take_45 : decode cX2_take 45 = .ok (.imul, 1) := by decide +kernel
theorem dX2_take_46 : decode cX2_take 46 = .ok (.iadd, 1) := by decide +kernel
theorem dX2_take_47 : decode cX2_take 47 = .ok (.iconst 1, 1) := by decide +kernel
theorem dX2_take_48 : decode cX2_take 48 = .ok (.iadd, 1) := by decide +kernel
theorem dX2_take_49 : decode cX2_take 49 = .ok (.iaload, 1) := by decide +kernel
theorem dX2_take_50 : decode cX2_take 50 = .ok (.iastore, 1) := by decide +kernel
theorem dX2_take_51 : decode cX2_take 51 = .ok (.iinc 3 1, 3) := by decide +kernel
theorem dX2_take_54 : decode cX2_take 54 = .ok (.goto (-36), 3) := by decide +kernel
theorem dX2_take_57 : decode cX2_take 57 = .ok (.iconst 1, 1) := by decide +kernel
theorem dX2_take_58 : decode cX2_take 58 = .ok (.ireturn, 1) := by decide +kernel
theorem dX2_restingBits_0 : decode cX2_restingBits 0 = .ok (.iconst 0, 1) := by decide +kernel
theorem dX2_restingBits_1 : decode cX2_restingBits 1 = .ok (.istore_n 1, 1) := by decide +kernel
theorem dX2_restingBits_2 : decode cX2_restingBits 2 = .ok (.iconst 0, 1) := by decide +kernel
theorem dX2_restingBits_3 : decode cX2_restingBits 3 = .ok (.istore_n 2, 1) := by decide +kernel
theorem dX2_restingBits_4 : decode cX2_restingBits 4 = .ok (.iload_n 2, 1) := by decide +kernel
theorem dX2_restingBits_5 : decode cX2_restingBits 5 = .ok (.iconst 4, 1) := by decide +kernel
theorem dX2_restingBits_6 : decode cX2_restingBits 6 = .ok (.if_icmp .ge 49, 3) := by decide +kernel
theorem dX2_restingBits_9 : decode cX2_restingBits 9 = .ok (.aload_n 0, 1) := by decide +kernel
theorem dX2_restingBits_10 : decode cX2_restingBits 10 = .ok (.getfield 9, 3) := by decide +kernel
theorem dX2_restingBits_13 : decode cX2_restingBits 13 = .ok (.iload_n 2, 1) := by decide +kernel
theorem dX2_restingBits_14 : decode cX2_restingBits 14 = .ok (.iconst 2, 1) := by decide +kernel
theorem dX2_restingBits_15 : decode cX2_restingBits 15 = .ok (.ixor, 1) := by decide +kernel
theorem dX2_restingBits_16 : decode cX2_restingBits 16 = .ok (.iaload, 1) := by decide +kernel
theorem dX2_restingBits_17 : decode cX2_restingBits 17 = .ok (.aload_n 0, 1) := by decide +kernel
theorem dX2_restingBits_18 : decode cX2_restingBits 18 = .ok (.getfield 9, 3) := by decide +kernel
theorem dX2_restingBits_21 : decode cX2_restingBits 21 = .ok (.iload_n 2, 1) := by decide +kernel
theorem dX2_restingBits_22 : decode cX2_restingBits 22 = .ok (.iaload, 1) := by decide +kernel
theorem dX2_restingBits_23 : decode cX2_restingBits 23 = .ok (.if_icmp .gt 26, 3) := by decide +kernel
theorem dX2_restingBits_26 : decode cX2_restingBits 26 = .ok (.aload_n 0, 1) := by decide +kernel
theorem dX2_restingBits_27 : decode cX2_restingBits 27 = .ok (.getfield 13, 3) := by decide +kernel
theorem dX2_restingBits_30 : decode cX2_restingBits 30 = .ok (.iload_n 2, 1) := by decide +kernel
theorem dX2_restingBits_31 : decode cX2_restingBits 31 = .ok (.iconst 1, 1) := by decide +kernel
theorem dX2_restingBits_32 : decode cX2_restingBits 32 = .ok (.ixor, 1) := by decide +kernel
theorem dX2_restingBits_33 : decode cX2_restingBits 33 = .ok (.iaload, 1) := by decide +kernel
theorem dX2_restingBits_34 : decode cX2_restingBits 34 = .ok (.aload_n 0, 1) := by decide +kernel
theorem dX2_restingBits_35 : decode cX2_restingBits 35 = .ok (.getfield 13, 3) := by decide +kernel
theorem dX2_restingBits_38 : decode cX2_restingBits 38 = .ok (.iload_n 2, 1) := by decide +kernel
theorem dX2_restingBits_39 : decode cX2_restingBits 39 = .ok (.iaload, 1) := by decide +kernel
theorem dX2_restingBits_40 : decode cX2_restingBits 40 = .ok (.if_icmp .gt 9, 3) := by decide +kernel
theorem dX2_restingBits_43 : decode cX2_restingBits 43 = .ok (.iload_n 1, 1) := by decide +kernel
theorem dX2_restingBits_44 : decode cX2_restingBits 44 = .ok (.iconst 1, 1) := by decide +kernel
theorem dX2_restingBits_45 : decode cX2_restingBits 45 = .ok (.iload_n 2, 1) := by decide +kernel
theorem dX2_restingBits_46 : decode cX2_restingBits 46 = .ok (.ishl, 1) := by decide +kernel
theorem dX2_restingBits_47 : decode cX2_restingBits 47 = .ok (.ior, 1) := by decide +kernel
theorem dX2_restingBits_48 : decode cX2_restingBits 48 = .ok (.istore_n 1, 1) := by decide +kernel
theorem dX2_restingBits_49 : decode cX2_restingBits 49 = .ok (.iinc 2 1, 3) := by decide +kernel
theorem dX2_restingBits_52 : decode cX2_restingBits 52 = .ok (.goto (-48), 3) := by decide +kernel
theorem dX2_restingBits_55 : decode cX2_restingBits 55 = .ok (.iload_n 1, 1) := by decide +kernel
theorem dX2_restingBits_56 : decode cX2_restingBits 56 = .ok (.ireturn, 1) := by decide +kernel
theorem dX2_hasMixed_0 : decode cX2_hasMixed 0 = .ok (.aload_n 0, 1) := by decide +kernel
theorem dX2_hasMixed_1 : decode cX2_hasMixed 1 = .ok (.invokevirtual 22, 3) := by decide +kernel
theorem dX2_hasMixed_4 : decode cX2_hasMixed 4 = .ok (.aload_n 0, 1) := by decide +kernel
theorem dX2_hasMixed_5 : decode cX2_hasMixed 5 = .ok (.invokevirtual 26, 3) := by decide +kernel
theorem dX2_hasMixed_8 : decode cX2_hasMixed 8 = .ok (.invokestatic 29, 3) := by decide +kernel
theorem dX2_hasMixed_11 : decode cX2_hasMixed 11 = .ok (.ifCond .eq 21, 3) := by decide +kernel
theorem dX2_hasMixed_14 : decode cX2_hasMixed 14 = .ok (.aload_n 0, 1) := by decide +kernel
theorem dX2_hasMixed_15 : decode cX2_hasMixed 15 = .ok (.invokevirtual 33, 3) := by decide +kernel
theorem dX2_hasMixed_18 : decode cX2_hasMixed 18 = .ok (.aload_n 0, 1) := by decide +kernel
theorem dX2_hasMixed_19 : decode cX2_hasMixed 19 = .ok (.invokevirtual 36, 3) := by decide +kernel
theorem dX2_hasMixed_22 : decode cX2_hasMixed 22 = .ok (.invokestatic 29, 3) := by decide +kernel
theorem dX2_hasMixed_25 : decode cX2_hasMixed 25 = .ok (.ifCond .eq 7, 3) := by decide +kernel
theorem dX2_hasMixed_28 : decode cX2_hasMixed 28 = .ok (.iconst 1, 1) := by decide +kernel
theorem dX2_hasMixed_29 : decode cX2_hasMixed 29 = .ok (.goto 4, 3) := by decide +kernel
theorem dX2_hasMixed_32 : decode cX2_hasMixed 32 = .ok (.iconst 0, 1) := by decide +kernel
theorem dX2_hasMixed_33 : decode cX2_hasMixed 33 = .ok (.ireturn, 1) := by decide +kernel
theorem dX2_takingOffUpper_0 : decode cX2_takingOffUpper 0 = .ok (.aload_n 0, 1) := by decide +kernel
theorem dX2_takingOffUpper_1 : decode cX2_takingOffUpper 1 = .ok (.getfield 13, 3) := by decide +kernel
theorem dX2_takingOffUpper_4 : decode cX2_takingOffUpper 4 = .ok (.iconst 3, 1) := by decide +kernel
theorem dX2_takingOffUpper_5 : decode cX2_takingOffUpper 5 = .ok (.iaload, 1) := by decide +kernel
theorem dX2_takingOffUpper_6 : decode cX2_takingOffUpper 6 = .ok (.aload_n 0, 1) := by decide +kernel
theorem dX2_takingOffUpper_7 : decode cX2_takingOffUpper 7 = .ok (.getfield 13, 3) := by decide +kernel
theorem dX2_takingOffUpper_10 : decode cX2_takingOffUpper 10 = .ok (.iconst 2, 1) := by decide +kernel
theorem dX2_takingOffUpper_11 : decode cX2_takingOffUpper 11 = .ok (.iaload, 1) := by decide +kernel
theorem dX2_takingOffUpper_12 : decode cX2_takingOffUpper 12 = .ok (.isub, 1) := by decide +kernel
theorem dX2_takingOffUpper_13 : decode cX2_takingOffUpper 13 = .ok (.ireturn, 1) := by decide +kernel
theorem dX2_takingOffLower_0 : decode cX2_takingOffLower 0 = .ok (.aload_n 0, 1) := by decide +kernel
theorem dX2_takingOffLower_1 : decode cX2_takingOffLower 1 = .ok (.getfield 13, 3) := by decide +kernel
theorem dX2_takingOffLower_4 : decode cX2_takingOffLower 4 = .ok (.iconst 0, 1) := by decide +kernel
theorem dX2_takingOffLower_5 : decode cX2_takingOffLower 5 = .ok (.iaload, 1) := by decide +kernel
theorem dX2_takingOffLower_6 : decode cX2_takingOffLower 6 = .ok (.aload_n 0, 1) := by decide +kernel
theorem dX2_takingOffLower_7 : decode cX2_takingOffLower 7 = .ok (.getfield 13, 3) := by decide +kernel
theorem dX2_takingOffLower_10 : decode cX2_takingOffLower 10 = .ok (.iconst 1, 1) := by decide +kernel
theorem dX2_takingOffLower_11 : decode cX2_takingOffLower 11 = .ok (.iaload, 1) := by decide +kernel
theorem dX2_takingOffLower_12 : decode cX2_takingOffLower 12 = .ok (.isub, 1) := by decide +kernel
theorem dX2_takingOffLower_13 : decode cX2_takingOffLower 13 = .ok (.aload_n 0, 1) := by decide +kernel
theorem dX2_takingOffLower_14 : decode cX2_takingOffLower 14 = .ok (.getfield 13, 3) := by decide +kernel
theorem dX2_takingOffLower_17 : decode cX2_takingOffLower 17 = .ok (.iconst 2, 1) := by decide +kernel
theorem dX2_takingOffLower_18 : decode cX2_takingOffLower 18 = .ok (.iaload, 1) := by decide +kernel
theorem dX2_takingOffLower_19 : decode cX2_takingOffLower 19 = .ok (.isub, 1) := by decide +kernel
theorem dX2_takingOffLower_20 : decode cX2_takingOffLower 20 = .ok (.aload_n 0, 1) := by decide +kernel
theorem dX2_takingOffLower_21 : decode cX2_takingOffLower 21 = .ok (.getfield 13, 3) := by decide +kernel
theorem dX2_takingOffLower_24 : decode cX2_takingOffLower 24 = .ok (.iconst 3, 1) := by decide +kernel
theorem dX2_takingOffLower_25 : decode cX2_takingOffLower 25 = .ok (.iaload, 1) := by decide +kernel
theorem dX2_takingOffLower_26 : decode cX2_takingOffLower 26 = .ok (.iadd, 1) := by decide +kernel
theorem dX2_takingOffLower_27 : decode cX2_takingOffLower 27 = .ok (.ireturn, 1) := by decide +kernel
theorem dX2_buyingUpper_0 : decode cX2_buyingUpper 0 = .ok (.aload_n 0, 1) := by decide +kernel
theorem dX2_buyingUpper_1 : decode cX2_buyingUpper 1 = .ok (.getfield 9, 3) := by decide +kernel
theorem dX2_buyingUpper_4 : decode cX2_buyingUpper 4 = .ok (.iconst 3, 1) := by decide +kernel
theorem dX2_buyingUpper_5 : decode cX2_buyingUpper 5 = .ok (.iaload, 1) := by decide +kernel
theorem dX2_buyingUpper_6 : decode cX2_buyingUpper 6 = .ok (.aload_n 0, 1) := by decide +kernel
theorem dX2_buyingUpper_7 : decode cX2_buyingUpper 7 = .ok (.getfield 9, 3) := by decide +kernel
theorem dX2_buyingUpper_10 : decode cX2_buyingUpper 10 = .ok (.iconst 1, 1) := by decide +kernel
theorem dX2_buyingUpper_11 : decode cX2_buyingUpper 11 = .ok (.iaload, 1) := by decide +kernel
theorem dX2_buyingUpper_12 : decode cX2_buyingUpper 12 = .ok (.isub, 1) := by decide +kernel
theorem dX2_buyingUpper_13 : decode cX2_buyingUpper 13 = .ok (.ireturn, 1) := by decide +kernel
theorem dX2_buyingLower_0 : decode cX2_buyingLower 0 = .ok (.aload_n 0, 1) := by decide +kernel
theorem dX2_buyingLower_1 : decode cX2_buyingLower 1 = .ok (.getfield 9, 3) := by decide +kernel
theorem dX2_buyingLower_4 : decode cX2_buyingLower 4 = .ok (.iconst 0, 1) := by decide +kernel
theorem dX2_buyingLower_5 : decode cX2_buyingLower 5 = .ok (.iaload, 1) := by decide +kernel
theorem dX2_buyingLower_6 : decode cX2_buyingLower 6 = .ok (.aload_n 0, 1) := by decide +kernel
theorem dX2_buyingLower_7 : decode cX2_buyingLower 7 = .ok (.getfield 9, 3) := by decide +kernel
theorem dX2_buyingLower_10 : decode cX2_buyingLower 10 = .ok (.iconst 1, 1) := by decide +kernel
theorem dX2_buyingLower_11 : decode cX2_buyingLower 11 = .ok (.iaload, 1) := by decide +kernel
theorem dX2_buyingLower_12 : decode cX2_buyingLower 12 = .ok (.isub, 1) := by decide +kernel
theorem dX2_buyingLower_13 : decode cX2_buyingLower 13 = .ok (.aload_n 0, 1) := by decide +kernel
theorem dX2_buyingLower_14 : decode cX2_buyingLower 14 = .ok (.getfield 9, 3) := by decide +kernel
theorem dX2_buyingLower_17 : decode cX2_buyingLower 17 = .ok (.iconst 2, 1) := by decide +kernel
theorem dX2_buyingLower_18 : decode cX2_buyingLower 18 = .ok (.iaload, 1) := by decide +kernel
theorem dX2_buyingLower_19 : decode cX2_buyingLower 19 = .ok (.isub, 1) := by decide +kernel
theorem dX2_buyingLower_20 : decode cX2_buyingLower 20 = .ok (.aload_n 0, 1) := by decide +kernel
theorem dX2_buyingLower_21 : decode cX2_buyingLower 21 = .ok (.getfield 9, 3) := by decide +kernel
theorem dX2_buyingLower_24 : decode cX2_buyingLower 24 = .ok (.iconst 3, 1) := by decide +kernel
theorem dX2_buyingLower_25 : decode cX2_buyingLower 25 = .ok (.iaload, 1) := by decide +kernel
theorem dX2_buyingLower_26 : decode cX2_buyingLower 26 = .ok (.iadd, 1) := by decide +kernel
theorem dX2_buyingLower_27 : decode cX2_buyingLower 27 = .ok (.ireturn, 1) := by decide +kernel
theorem dX2_isBetween_0 : decode cX2_isBetween 0 = .ok (.iload_n 1, 1) := by decide +kernel
theorem dX2_isBetween_1 : decode cX2_isBetween 1 = .ok (.ifCond .le 20, 3) := by decide +kernel
theorem dX2_isBetween_4 : decode cX2_isBetween 4 = .ok (.iload_n 0, 1) := by decide +kernel
theorem dX2_isBetween_5 : decode cX2_isBetween 5 = .ok (.ifCond .le 12, 3) := by decide +kernel
theorem dX2_isBetween_8 : decode cX2_isBetween 8 = .ok (.iload_n 0, 1) := by decide +kernel
theorem dX2_isBetween_9 : decode cX2_isBetween 9 = .ok (.iload_n 1, 1) := by decide +kernel
theorem dX2_isBetween_10 : decode cX2_isBetween 10 = .ok (.if_icmp .ge 7, 3) := by decide +kernel
theorem dX2_isBetween_13 : decode cX2_isBetween 13 = .ok (.iconst 1, 1) := by decide +kernel
theorem dX2_isBetween_14 : decode cX2_isBetween 14 = .ok (.goto 21, 3) := by decide +kernel
theorem dX2_isBetween_17 : decode cX2_isBetween 17 = .ok (.iconst 0, 1) := by decide +kernel
theorem dX2_isBetween_18 : decode cX2_isBetween 18 = .ok (.goto 17, 3) := by decide +kernel
theorem dX2_isBetween_21 : decode cX2_isBetween 21 = .ok (.iload_n 0, 1) := by decide +kernel
theorem dX2_isBetween_22 : decode cX2_isBetween 22 = .ok (.ifCond .ge 12, 3) := by decide +kernel
theorem dX2_isBetween_25 : decode cX2_isBetween 25 = .ok (.iload_n 0, 1) := by decide +kernel
theorem dX2_isBetween_26 : decode cX2_isBetween 26 = .ok (.iload_n 1, 1) := by decide +kernel
theorem dX2_isBetween_27 : decode cX2_isBetween 27 = .ok (.if_icmp .le 7, 3) := by decide +kernel
theorem dX2_isBetween_30 : decode cX2_isBetween 30 = .ok (.iconst 1, 1) := by decide +kernel
theorem dX2_isBetween_31 : decode cX2_isBetween 31 = .ok (.goto 4, 3) := by decide +kernel
theorem dX2_isBetween_34 : decode cX2_isBetween 34 = .ok (.iconst 0, 1) := by decide +kernel
theorem dX2_isBetween_35 : decode cX2_isBetween 35 = .ok (.ireturn, 1) := by decide +kernel
theorem dX3_init_0 : decode cX3_init 0 = .ok (.aload_n 0, 1) := by decide +kernel
theorem dX3_init_1 : decode cX3_init 1 = .ok (.invokespecial 3, 3) := by decide +kernel
theorem dX3_init_4 : decode cX3_init 4 = .ok (.aload_n 0, 1) := by decide +kernel
theorem dX3_init_5 : decode cX3_init 5 = .ok (.bipush 20, 2) := by decide +kernel
theorem dX3_init_7 : decode cX3_init 7 = .ok (.newarray .int, 2) := by decide +kernel
theorem dX3_init_9 : decode cX3_init 9 = .ok (.putfield 9, 3) := by decide +kernel
theorem dX3_init_12 : decode cX3_init 12 = .ok (.return_, 1) := by decide +kernel
theorem dX3_take_0 : decode cX3_take 0 = .ok (.iload_n 3, 1) := by decide +kernel
theorem dX3_take_1 : decode cX3_take 1 = .ok (.iconst 1, 1) := by decide +kernel
theorem dX3_take_2 : decode cX3_take 2 = .ok (.bipush 20, 2) := by decide +kernel
theorem dX3_take_4 : decode cX3_take 4 = .ok (.invokestatic 15, 3) := by decide +kernel
theorem dX3_take_7 : decode cX3_take 7 = .ok (.ifCond .eq 15, 3) := by decide +kernel
theorem dX3_take_10 : decode cX3_take 10 = .ok (.aload_n 1, 1) := by decide +kernel
theorem dX3_take_11 : decode cX3_take 11 = .ok (.iload_n 2, 1) := by decide +kernel
theorem dX3_take_12 : decode cX3_take 12 = .ok (.iload_n 3, 1) := by decide +kernel
theorem dX3_take_13 : decode cX3_take 13 = .ok (.iconst 0, 1) := by decide +kernel
theorem dX3_take_14 : decode cX3_take 14 = .ok (.bipush 99, 2) := by decide +kernel
theorem dX3_take_16 : decode cX3_take 16 = .ok (.invokestatic 19, 3) := by decide +kernel
theorem dX3_take_19 : decode cX3_take 19 = .ok (.ifCond .ne 5, 3) := by decide +kernel
theorem dX3_take_22 : decode cX3_take 22 = .ok (.iconst 0, 1) := by decide +kernel
theorem dX3_take_23 : decode cX3_take 23 = .ok (.ireturn, 1) := by decide +kernel
theorem dX3_take_24 : decode cX3_take 24 = .ok (.aload_n 0, 1) := by decide +kernel
theorem dX3_take_25 : decode cX3_take 25 = .ok (.iload_n 3, 1) := by decide +kernel
theorem dX3_take_26 : decode cX3_take 26 = .ok (.putfield 23, 3) := by decide +kernel
theorem dX3_take_29 : decode cX3_take 29 = .ok (.aload_n 0, 1) := by decide +kernel
theorem dX3_take_30 : decode cX3_take 30 = .ok (.iconst 0, 1) := by decide +kernel
theorem dX3_take_31 : decode cX3_take 31 = .ok (.putfield 27, 3) := by decide +kernel
theorem dX3_take_34 : decode cX3_take 34 = .ok (.iconst 0, 1) := by decide +kernel
theorem dX3_take_35 : decode cX3_take 35 = .ok (.istore 4, 2) := by decide +kernel
theorem dX3_take_37 : decode cX3_take 37 = .ok (.iload 4, 2) := by decide +kernel
theorem dX3_take_39 : decode cX3_take 39 = .ok (.iload_n 3, 1) := by decide +kernel
theorem dX3_take_40 : decode cX3_take 40 = .ok (.if_icmp .ge 38, 3) := by decide +kernel
theorem dX3_take_43 : decode cX3_take 43 = .ok (.aload_n 0, 1) := by decide +kernel
theorem dX3_take_44 : decode cX3_take 44 = .ok (.getfield 9, 3) := by decide +kernel
theorem dX3_take_47 : decode cX3_take 47 = .ok (.iload 4, 2) := by decide +kernel
theorem dX3_take_49 : decode cX3_take 49 = .ok (.aload_n 1, 1) := by decide +kernel
theorem dX3_take_50 : decode cX3_take 50 = .ok (.iload_n 2, 1) := by decide +kernel
theorem dX3_take_51 : decode cX3_take 51 = .ok (.iload 4, 2) := by decide +kernel
theorem dX3_take_53 : decode cX3_take 53 = .ok (.iadd, 1) := by decide +kernel
theorem dX3_take_54 : decode cX3_take 54 = .ok (.iaload, 1) := by decide +kernel
theorem dX3_take_55 : decode cX3_take 55 = .ok (.iastore, 1) := by decide +kernel
theorem dX3_take_56 : decode cX3_take 56 = .ok (.aload_n 0, 1) := by decide +kernel
theorem dX3_take_57 : decode cX3_take 57 = .ok (.dup, 1) := by decide +kernel
theorem dX3_take_58 : decode cX3_take 58 = .ok (.getfield 27, 3) := by decide +kernel
theorem dX3_take_61 : decode cX3_take 61 = .ok (.aload_n 0, 1) := by decide +kernel
theorem dX3_take_62 : decode cX3_take 62 = .ok (.getfield 9, 3) := by decide +kernel
theorem dX3_take_65 : decode cX3_take 65 = .ok (.iload 4, 2) := by decide +kernel
theorem dX3_take_67 : decode cX3_take 67 = .ok (.iaload, 1) := by decide +kernel
theorem dX3_take_68 : decode cX3_take 68 = .ok (.iadd, 1) := by decide +kernel
theorem dX3_take_69 : decode cX3_take 69 = .ok (.putfield 27, 3) := by decide +kernel
theorem dX3_take_72 : decode cX3_take 72 = .ok (.iinc 4 1, 3) := by decide +kernel
theorem dX3_take_75 : decode cX3_take 75 = .ok (.goto (-38), 3) := by decide +kernel
theorem dX3_take_78 : decode cX3_take 78 = .ok (.aload_n 0, 1) := by decide +kernel
theorem dX3_take_79 : decode cX3_take 79 = .ok (.getfield 27, 3) := by decide +kernel
theorem dX3_take_82 : decode cX3_take 82 = .ok (.ifCond .le 7, 3) := by decide +kernel
theorem dX3_take_85 : decode cX3_take 85 = .ok (.iconst 1, 1) := by decide +kernel
theorem dX3_take_86 : decode cX3_take 86 = .ok (.goto 4, 3) := by decide +kernel
theorem dX3_take_89 : decode cX3_take 89 = .ok (.iconst 0, 1) := by decide +kernel
theorem dX3_take_90 : decode cX3_take 90 = .ok (.ireturn, 1) := by decide +kernel
theorem dX3_weighed_0 : decode cX3_weighed 0 = .ok (.iconst 0, 1) := by decide +kernel
theorem dX3_weighed_1 : decode cX3_weighed 1 = .ok (.istore 5, 2) := by decide +kernel
theorem dX3_weighed_3 : decode cX3_weighed 3 = .ok (.iconst 0, 1) := by decide +kernel
theorem dX3_weighed_4 : decode cX3_weighed 4 = .ok (.istore 6, 2) := by decide +kernel
theorem dX3_weighed_6 : decode cX3_weighed 6 = .ok (.iload 6, 2) := by decide +kernel
theorem dX3_weighed_8 : decode cX3_weighed 8 = .ok (.aload_n 0, 1) := by decide +kernel
theorem dX3_weighed_9 : decode cX3_weighed 9 = .ok (.getfield 23, 3) := by decide +kernel
theorem dX3_weighed_12 : decode cX3_weighed 12 = .ok (.if_icmp .ge 42, 3) := by decide +kernel
theorem dX3_weighed_15 : decode cX3_weighed 15 = .ok (.iload 6, 2) := by decide +kernel
theorem dX3_weighed_17 : decode cX3_weighed 17 = .ok (.iload_n 1, 1) := by decide +kernel
theorem dX3_weighed_18 : decode cX3_weighed 18 = .ok (.invokestatic 30, 3) := by decide +kernel
theorem dX3_weighed_21 : decode cX3_weighed 21 = .ok (.istore 7, 2) := by decide +kernel
theorem dX3_weighed_23 : decode cX3_weighed 23 = .ok (.iload 5, 2) := by decide +kernel
theorem dX3_weighed_25 : decode cX3_weighed 25 = .ok (.aload_n 0, 1) := by decide +kernel
theorem dX3_weighed_26 : decode cX3_weighed 26 = .ok (.getfield 9, 3) := by decide +kernel
theorem dX3_weighed_29 : decode cX3_weighed 29 = .ok (.iload 6, 2) := by decide +kernel
theorem dX3_weighed_31 : decode cX3_weighed 31 = .ok (.iaload, 1) := by decide +kernel
theorem dX3_weighed_32 : decode cX3_weighed 32 = .ok (.iload 7, 2) := by decide +kernel
theorem dX3_weighed_34 : decode cX3_weighed 34 = .ok (.iload_n 3, 1) := by decide +kernel
theorem dX3_weighed_35 : decode cX3_weighed 35 = .ok (.imul, 1) := by decide +kernel
theorem dX3_weighed_36 : decode cX3_weighed 36 = .ok (.iload_n 1, 1) := by decide +kernel
theorem dX3_weighed_37 : decode cX3_weighed 37 = .ok (.iload 7, 2) := by decide +kernel
theorem dX3_weighed_39 : decode cX3_weighed 39 = .ok (.isub, 1) := by decide +kernel
theorem dX3_weighed_40 : decode cX3_weighed 40 = .ok (.iload 4, 2) := by decide +kernel
theorem dX3_weighed_42 : decode cX3_weighed 42 = .ok (.imul, 1) := by decide +kernel
theorem dX3_weighed_43 : decode cX3_weighed 43 = .ok (.iadd, 1) := by decide +kernel
theorem dX3_weighed_44 : decode cX3_weighed 44 = .ok (.imul, 1) := by decide +kernel
theorem dX3_weighed_45 : decode cX3_weighed 45 = .ok (.iadd, 1) := by decide +kernel
theorem dX3_weighed_46 : decode cX3_weighed 46 = .ok (.istore 5, 2) := by decide +kernel
theorem dX3_weighed_48 : decode cX3_weighed 48 = .ok (.iinc 6 1, 3) := by decide +kernel
theorem dX3_weighed_51 : decode cX3_weighed 51 = .ok (.goto (-45), 3) := by decide +kernel
theorem dX3_weighed_54 : decode cX3_weighed 54 = .ok (.iload 5, 2) := by decide +kernel
theorem dX3_weighed_56 : decode cX3_weighed 56 = .ok (.aload_n 0, 1) := by decide +kernel
theorem dX3_weighed_57 : decode cX3_weighed 57 = .ok (.getfield 27, 3) := by decide +kernel
theorem dX3_weighed_60 : decode cX3_weighed 60 = .ok (.iload_n 1, 1) := by decide +kernel
theorem dX3_weighed_61 : decode cX3_weighed 61 = .ok (.imul, 1) := by decide +kernel
theorem dX3_weighed_62 : decode cX3_weighed 62 = .ok (.iload_n 2, 1) := by decide +kernel
theorem dX3_weighed_63 : decode cX3_weighed 63 = .ok (.imul, 1) := by decide +kernel
theorem dX3_weighed_64 : decode cX3_weighed 64 = .ok (.isub, 1) := by decide +kernel
theorem dX3_weighed_65 : decode cX3_weighed 65 = .ok (.ireturn, 1) := by decide +kernel
theorem dX3_mostWorthwhile_0 : decode cX3_mostWorthwhile 0 = .ok (.iconst 0, 1) := by decide +kernel
theorem dX3_mostWorthwhile_1 : decode cX3_mostWorthwhile 1 = .ok (.istore 4, 2) := by decide +kernel
theorem dX3_mostWorthwhile_3 : decode cX3_mostWorthwhile 3 = .ok (.aload_n 0, 1) := by decide +kernel
theorem dX3_mostWorthwhile_4 : decode cX3_mostWorthwhile 4 = .ok (.iconst 0, 1) := by decide +kernel
theorem dX3_mostWorthwhile_5 : decode cX3_mostWorthwhile 5 = .ok (.iload_n 1, 1) := by decide +kernel
theorem dX3_mostWorthwhile_6 : decode cX3_mostWorthwhile 6 = .ok (.iload_n 2, 1) := by decide +kernel
theorem dX3_mostWorthwhile_7 : decode cX3_mostWorthwhile 7 = .ok (.iload_n 3, 1) := by decide +kernel
theorem dX3_mostWorthwhile_8 : decode cX3_mostWorthwhile 8 = .ok (.invokevirtual 36, 3) := by decide +kernel
theorem dX3_mostWorthwhile_11 : decode cX3_mostWorthwhile 11 = .ok (.istore 5, 2) := by decide +kernel
theorem dX3_mostWorthwhile_13 : decode cX3_mostWorthwhile 13 = .ok (.iconst 1, 1) := by decide +kernel
theorem dX3_mostWorthwhile_14 : decode cX3_mostWorthwhile 14 = .ok (.istore 6, 2) := by decide +kernel
theorem dX3_mostWorthwhile_16 : decode cX3_mostWorthwhile 16 = .ok (.iload 6, 2) := by decide +kernel
theorem dX3_mostWorthwhile_18 : decode cX3_mostWorthwhile 18 = .ok (.bipush 20, 2) := by decide +kernel
theorem dX3_mostWorthwhile_20 : decode cX3_mostWorthwhile 20 = .ok (.if_icmp .gt 35, 3) := by decide +kernel
theorem dX3_mostWorthwhile_23 : decode cX3_mostWorthwhile 23 = .ok (.aload_n 0, 1) := by decide +kernel
theorem dX3_mostWorthwhile_24 : decode cX3_mostWorthwhile 24 = .ok (.iload 6, 2) := by decide +kernel
theorem dX3_mostWorthwhile_26 : decode cX3_mostWorthwhile 26 = .ok (.iload_n 1, 1) := by decide +kernel
theorem dX3_mostWorthwhile_27 : decode cX3_mostWorthwhile 27 = .ok (.iload_n 2, 1) := by decide +kernel
theorem dX3_mostWorthwhile_28 : decode cX3_mostWorthwhile 28 = .ok (.iload_n 3, 1) := by decide +kernel
theorem dX3_mostWorthwhile_29 : decode cX3_mostWorthwhile 29 = .ok (.invokevirtual 36, 3) := by decide +kernel
theorem dX3_mostWorthwhile_32 : decode cX3_mostWorthwhile 32 = .ok (.istore 7, 2) := by decide +kernel
theorem dX3_mostWorthwhile_34 : decode cX3_mostWorthwhile 34 = .ok (.iload 7, 2) := by decide +kernel
theorem dX3_mostWorthwhile_36 : decode cX3_mostWorthwhile 36 = .ok (.iload 5, 2) := by decide +kernel
theorem dX3_mostWorthwhile_38 : decode cX3_mostWorthwhile 38 = .ok (.if_icmp .le 11, 3) := by decide +kernel
theorem dX3_mostWorthwhile_41 : decode cX3_mostWorthwhile 41 = .ok (.iload 7, 2) := by decide +kernel
theorem dX3_mostWorthwhile_43 : decode cX3_mostWorthwhile 43 = .ok (.istore 5, 2) := by decide +kernel
theorem dX3_mostWorthwhile_45 : decode cX3_mostWorthwhile 45 = .ok (.iload 6, 2) := by decide +kernel
theorem dX3_mostWorthwhile_47 : decode cX3_mostWorthwhile 47 = .ok (.istore 4, 2) := by decide +kernel
theorem dX3_mostWorthwhile_49 : decode cX3_mostWorthwhile 49 = .ok (.iinc 6 1, 3) := by decide +kernel
theorem dX3_mostWorthwhile_52 : decode cX3_mostWorthwhile 52 = .ok (.goto (-36), 3) := by decide +kernel
theorem dX3_mostWorthwhile_55 : decode cX3_mostWorthwhile 55 = .ok (.iload 4, 2) := by decide +kernel
theorem dX3_mostWorthwhile_57 : decode cX3_mostWorthwhile 57 = .ok (.ireturn, 1) := by decide +kernel
theorem dX4_init_0 : decode cX4_init 0 = .ok (.aload_n 0, 1) := by decide +kernel
theorem dX4_init_1 : decode cX4_init 1 = .ok (.invokespecial 3, 3) := by decide +kernel
theorem dX4_init_4 : decode cX4_init 4 = .ok (.aload_n 0, 1) := by decide +kernel
theorem dX4_init_5 : decode cX4_init 5 = .ok (.new 9, 3) := by decide +kernel
theorem dX4_init_8 : decode cX4_init 8 = .ok (.dup, 1) := by decide +kernel
theorem dX4_init_9 : decode cX4_init 9 = .ok (.invokespecial 11, 3) := by decide +kernel
theorem dX4_init_12 : decode cX4_init 12 = .ok (.putfield 12, 3) := by decide +kernel
theorem dX4_init_15 : decode cX4_init 15 = .ok (.aload_n 0, 1) := by decide +kernel
theorem dX4_init_16 : decode cX4_init 16 = .ok (.iconst 4, 1) := by decide +kernel
theorem dX4_init_17 : decode cX4_init 17 = .ok (.newarray .int, 2) := by decide +kernel
theorem dX4_init_19 : decode cX4_init 19 = .ok (.putfield 18, 3) := by decide +kernel
theorem dX4_init_22 : decode cX4_init 22 = .ok (.aload_n 0, 1) := by decide +kernel
theorem dX4_init_23 : decode cX4_init 23 = .ok (.iconst 4, 1) := by decide +kernel
theorem dX4_init_24 : decode cX4_init 24 = .ok (.newarray .boolean, 2) := by decide +kernel
theorem dX4_init_26 : decode cX4_init 26 = .ok (.putfield 22, 3) := by decide +kernel
theorem dX4_init_29 : decode cX4_init 29 = .ok (.aload_n 0, 1) := by decide +kernel
theorem dX4_init_30 : decode cX4_init 30 = .ok (.iconst 4, 1) := by decide +kernel
theorem dX4_init_31 : decode cX4_init 31 = .ok (.newarray .int, 2) := by decide +kernel
theorem dX4_init_33 : decode cX4_init 33 = .ok (.putfield 26, 3) := by decide +kernel
theorem dX4_init_36 : decode cX4_init 36 = .ok (.return_, 1) := by decide +kernel
theorem dX4_profitWithout_0 : decode cX4_profitWithout 0 = .ok (.aload_n 0, 1) := by decide +kernel
theorem dX4_profitWithout_1 : decode cX4_profitWithout 1 = .ok (.getfield 12, 3) := by decide +kernel
theorem dX4_profitWithout_4 : decode cX4_profitWithout 4 = .ok (.aload_n 1, 1) := by decide +kernel
theorem dX4_profitWithout_5 : decode cX4_profitWithout 5 = .ok (.invokevirtual 29, 3) := by decide +kernel
theorem dX4_profitWithout_8 : decode cX4_profitWithout 8 = .ok (.aload_n 0, 1) := by decide +kernel
theorem dX4_profitWithout_9 : decode cX4_profitWithout 9 = .ok (.getfield 12, 3) := by decide +kernel
theorem dX4_profitWithout_12 : decode cX4_profitWithout 12 = .ok (.getfield 33, 3) := by decide +kernel
theorem dX4_profitWithout_15 : decode cX4_profitWithout 15 = .ok (.getfield 37, 3) := by decide +kernel
theorem dX4_profitWithout_18 : decode cX4_profitWithout 18 = .ok (.iload_n 2, 1) := by decide +kernel
theorem dX4_profitWithout_19 : decode cX4_profitWithout 19 = .ok (.iconst 0, 1) := by decide +kernel
theorem dX4_profitWithout_20 : decode cX4_profitWithout 20 = .ok (.iastore, 1) := by decide +kernel
theorem dX4_profitWithout_21 : decode cX4_profitWithout 21 = .ok (.aload_n 0, 1) := by decide +kernel
theorem dX4_profitWithout_22 : decode cX4_profitWithout 22 = .ok (.getfield 12, 3) := by decide +kernel
theorem dX4_profitWithout_25 : decode cX4_profitWithout 25 = .ok (.invokevirtual 42, 3) := by decide +kernel
theorem dX4_profitWithout_28 : decode cX4_profitWithout 28 = .ok (.aload_n 0, 1) := by decide +kernel
theorem dX4_profitWithout_29 : decode cX4_profitWithout 29 = .ok (.getfield 12, 3) := by decide +kernel
theorem dX4_profitWithout_32 : decode cX4_profitWithout 32 = .ok (.invokevirtual 45, 3) := by decide +kernel
theorem dX4_profitWithout_35 : decode cX4_profitWithout 35 = .ok (.ireturn, 1) := by decide +kernel
theorem dX4_profitWithCook_0 : decode cX4_profitWithCook 0 = .ok (.aload_n 0, 1) := by decide +kernel
theorem dX4_profitWithCook_1 : decode cX4_profitWithCook 1 = .ok (.getfield 12, 3) := by decide +kernel
theorem dX4_profitWithCook_4 : decode cX4_profitWithCook 4 = .ok (.aload_n 1, 1) := by decide +kernel
theorem dX4_profitWithCook_5 : decode cX4_profitWithCook 5 = .ok (.invokevirtual 29, 3) := by decide +kernel
theorem dX4_profitWithCook_8 : decode cX4_profitWithCook 8 = .ok (.aload_n 0, 1) := by decide +kernel
theorem dX4_profitWithCook_9 : decode cX4_profitWithCook 9 = .ok (.getfield 12, 3) := by decide +kernel
theorem dX4_profitWithCook_12 : decode cX4_profitWithCook 12 = .ok (.iload_n 2, 1) := by decide +kernel
theorem dX4_profitWithCook_13 : decode cX4_profitWithCook 13 = .ok (.iload_n 3, 1) := by decide +kernel
theorem dX4_profitWithCook_14 : decode cX4_profitWithCook 14 = .ok (.iload 4, 2) := by decide +kernel
theorem dX4_profitWithCook_16 : decode cX4_profitWithCook 16 = .ok (.invokevirtual 49, 3) := by decide +kernel
theorem dX4_profitWithCook_19 : decode cX4_profitWithCook 19 = .ok (.aload_n 0, 1) := by decide +kernel
theorem dX4_profitWithCook_20 : decode cX4_profitWithCook 20 = .ok (.getfield 12, 3) := by decide +kernel
theorem dX4_profitWithCook_23 : decode cX4_profitWithCook 23 = .ok (.invokevirtual 42, 3) := by decide +kernel
theorem dX4_profitWithCook_26 : decode cX4_profitWithCook 26 = .ok (.aload_n 0, 1) := by decide +kernel
theorem dX4_profitWithCook_27 : decode cX4_profitWithCook 27 = .ok (.getfield 12, 3) := by decide +kernel
theorem dX4_profitWithCook_30 : decode cX4_profitWithCook 30 = .ok (.invokevirtual 45, 3) := by decide +kernel
theorem dX4_profitWithCook_33 : decode cX4_profitWithCook 33 = .ok (.ireturn, 1) := by decide +kernel
theorem dX4_findPrice_0 : decode cX4_findPrice 0 = .ok (.aload_n 0, 1) := by decide +kernel
theorem dX4_findPrice_1 : decode cX4_findPrice 1 = .ok (.getfield 12, 3) := by decide +kernel
theorem dX4_findPrice_4 : decode cX4_findPrice 4 = .ok (.aload_n 1, 1) := by decide +kernel
theorem dX4_findPrice_5 : decode cX4_findPrice 5 = .ok (.invokevirtual 29, 3) := by decide +kernel
theorem dX4_findPrice_8 : decode cX4_findPrice 8 = .ok (.aload_n 0, 1) := by decide +kernel
theorem dX4_findPrice_9 : decode cX4_findPrice 9 = .ok (.sipush (-1000), 3) := by decide +kernel
theorem dX4_findPrice_12 : decode cX4_findPrice 12 = .ok (.putfield 53, 3) := by decide +kernel
theorem dX4_findPrice_15 : decode cX4_findPrice 15 = .ok (.iconst 0, 1) := by decide +kernel
theorem dX4_findPrice_16 : decode cX4_findPrice 16 = .ok (.istore 4, 2) := by decide +kernel
theorem dX4_findPrice_18 : decode cX4_findPrice 18 = .ok (.iload 4, 2) := by decide +kernel
theorem dX4_findPrice_20 : decode cX4_findPrice 20 = .ok (.bipush 30, 2) := by decide +kernel
theorem dX4_findPrice_22 : decode cX4_findPrice 22 = .ok (.if_icmp .gt 63, 3) := by decide +kernel
theorem dX4_findPrice_25 : decode cX4_findPrice 25 = .ok (.aload_n 0, 1) := by decide +kernel
theorem dX4_findPrice_26 : decode cX4_findPrice 26 = .ok (.getfield 12, 3) := by decide +kernel
theorem dX4_findPrice_29 : decode cX4_findPrice 29 = .ok (.getfield 33, 3) := by decide +kernel
theorem dX4_findPrice_32 : decode cX4_findPrice 32 = .ok (.getfield 56, 3) := by decide +kernel
theorem dX4_findPrice_35 : decode cX4_findPrice 35 = .ok (.iload_n 2, 1) := by decide +kernel
theorem dX4_findPrice_36 : decode cX4_findPrice 36 = .ok (.aaload, 1) := by decide +kernel
theorem dX4_findPrice_37 : decode cX4_findPrice 37 = .ok (.iload_n 3, 1) := by decide +kernel
theorem dX4_findPrice_38 : decode cX4_findPrice 38 = .ok (.iload 4, 2) := by decide +kernel
theorem dX4_findPrice_40 : decode cX4_findPrice 40 = .ok (.iastore, 1) := by decide +kernel
theorem dX4_findPrice_41 : decode cX4_findPrice 41 = .ok (.aload_n 0, 1) := by decide +kernel
theorem dX4_findPrice_42 : decode cX4_findPrice 42 = .ok (.getfield 12, 3) := by decide +kernel
theorem dX4_findPrice_45 : decode cX4_findPrice 45 = .ok (.invokevirtual 42, 3) := by decide +kernel
theorem dX4_findPrice_48 : decode cX4_findPrice 48 = .ok (.aload_n 0, 1) := by decide +kernel
theorem dX4_findPrice_49 : decode cX4_findPrice 49 = .ok (.getfield 12, 3) := by decide +kernel
theorem dX4_findPrice_52 : decode cX4_findPrice 52 = .ok (.invokevirtual 45, 3) := by decide +kernel
theorem dX4_findPrice_55 : decode cX4_findPrice 55 = .ok (.aload_n 0, 1) := by decide +kernel
theorem dX4_findPrice_56 : decode cX4_findPrice 56 = .ok (.getfield 53, 3) := by decide +kernel
theorem dX4_findPrice_59 : decode cX4_findPrice 59 = .ok (.if_icmp .le 20, 3) := by decide +kernel
theorem dX4_findPrice_62 : decode cX4_findPrice 62 = .ok (.aload_n 0, 1) := by decide +kernel
theorem dX4_findPrice_63 : decode cX4_findPrice 63 = .ok (.aload_n 0, 1) := by decide +kernel
theorem dX4_findPrice_64 : decode cX4_findPrice 64 = .ok (.getfield 12, 3) := by decide +kernel
theorem dX4_findPrice_67 : decode cX4_findPrice 67 = .ok (.invokevirtual 45, 3) := by decide +kernel
theorem dX4_findPrice_70 : decode cX4_findPrice 70 = .ok (.putfield 53, 3) := by decide +kernel
theorem dX4_findPrice_73 : decode cX4_findPrice 73 = .ok (.aload_n 0, 1) := by decide +kernel
theorem dX4_findPrice_74 : decode cX4_findPrice 74 = .ok (.iload 4, 2) := by decide +kernel
theorem dX4_findPrice_76 : decode cX4_findPrice 76 = .ok (.putfield 60, 3) := by decide +kernel
theorem dX4_findPrice_79 : decode cX4_findPrice 79 = .ok (.iinc 4 1, 3) := by decide +kernel
theorem dX4_findPrice_82 : decode cX4_findPrice 82 = .ok (.goto (-64), 3) := by decide +kernel
theorem dX4_findPrice_85 : decode cX4_findPrice 85 = .ok (.return_, 1) := by decide +kernel
theorem dX4_findTakingOff_0 : decode cX4_findTakingOff 0 = .ok (.aload_n 0, 1) := by decide +kernel
theorem dX4_findTakingOff_1 : decode cX4_findTakingOff 1 = .ok (.getfield 12, 3) := by decide +kernel
theorem dX4_findTakingOff_4 : decode cX4_findTakingOff 4 = .ok (.aload_n 1, 1) := by decide +kernel
theorem dX4_findTakingOff_5 : decode cX4_findTakingOff 5 = .ok (.invokevirtual 29, 3) := by decide +kernel
theorem dX4_findTakingOff_8 : decode cX4_findTakingOff 8 = .ok (.aload_n 0, 1) := by decide +kernel
theorem dX4_findTakingOff_9 : decode cX4_findTakingOff 9 = .ok (.getfield 12, 3) := by decide +kernel
theorem dX4_findTakingOff_12 : decode cX4_findTakingOff 12 = .ok (.invokevirtual 42, 3) := by decide +kernel
theorem dX4_findTakingOff_15 : decode cX4_findTakingOff 15 = .ok (.aload_n 0, 1) := by decide +kernel
theorem dX4_findTakingOff_16 : decode cX4_findTakingOff 16 = .ok (.aload_n 0, 1) := by decide +kernel
theorem dX4_findTakingOff_17 : decode cX4_findTakingOff 17 = .ok (.getfield 12, 3) := by decide +kernel
theorem dX4_findTakingOff_20 : decode cX4_findTakingOff 20 = .ok (.invokevirtual 45, 3) := by decide +kernel
theorem dX4_findTakingOff_23 : decode cX4_findTakingOff 23 = .ok (.putfield 53, 3) := by decide +kernel
theorem dX4_findTakingOff_26 : decode cX4_findTakingOff 26 = .ok (.aload_n 0, 1) := by decide +kernel
theorem dX4_findTakingOff_27 : decode cX4_findTakingOff 27 = .ok (.bipush (-9), 2) := by decide +kernel
theorem dX4_findTakingOff_29 : decode cX4_findTakingOff 29 = .ok (.putfield 63, 3) := by decide +kernel
theorem dX4_findTakingOff_32 : decode cX4_findTakingOff 32 = .ok (.aload_n 0, 1) := by decide +kernel
theorem dX4_findTakingOff_33 : decode cX4_findTakingOff 33 = .ok (.iconst 0, 1) := by decide +kernel
theorem dX4_findTakingOff_34 : decode cX4_findTakingOff 34 = .ok (.putfield 60, 3) := by decide +kernel
theorem dX4_findTakingOff_37 : decode cX4_findTakingOff 37 = .ok (.iconst 0, 1) := by decide +kernel
theorem dX4_findTakingOff_38 : decode cX4_findTakingOff 38 = .ok (.istore_n 2, 1) := by decide +kernel
theorem dX4_findTakingOff_39 : decode cX4_findTakingOff 39 = .ok (.iload_n 2, 1) := by decide +kernel
theorem dX4_findTakingOff_40 : decode cX4_findTakingOff 40 = .ok (.aload_n 1, 1) := by decide +kernel
theorem dX4_findTakingOff_41 : decode cX4_findTakingOff 41 = .ok (.getfield 33, 3) := by decide +kernel
theorem dX4_findTakingOff_44 : decode cX4_findTakingOff 44 = .ok (.getfield 66, 3) := by decide +kernel
theorem dX4_findTakingOff_47 : decode cX4_findTakingOff 47 = .ok (.if_icmp .ge 81, 3) := by decide +kernel
theorem dX4_findTakingOff_50 : decode cX4_findTakingOff 50 = .ok (.iconst 1, 1) := by decide +kernel
theorem dX4_findTakingOff_51 : decode cX4_findTakingOff 51 = .ok (.istore_n 3, 1) := by decide +kernel
theorem dX4_findTakingOff_52 : decode cX4_findTakingOff 52 = .ok (.iload_n 3, 1) := by decide +kernel
theorem dX4_findTakingOff_53 : decode cX4_findTakingOff 53 = .ok (.bipush 30, 2) := by decide +kernel
theorem dX4_findTakingOff_55 : decode cX4_findTakingOff 55 = .ok (.if_icmp .gt 67, 3) := by decide +kernel
theorem dX4_findTakingOff_58 : decode cX4_findTakingOff 58 = .ok (.aload_n 0, 1) := by decide +kernel
theorem dX4_findTakingOff_59 : decode cX4_findTakingOff 59 = .ok (.getfield 12, 3) := by decide +kernel
theorem dX4_findTakingOff_62 : decode cX4_findTakingOff 62 = .ok (.getfield 33, 3) := by decide +kernel
theorem dX4_findTakingOff_65 : decode cX4_findTakingOff 65 = .ok (.aload_n 1, 1) := by decide +kernel
theorem dX4_findTakingOff_66 : decode cX4_findTakingOff 66 = .ok (.getfield 33, 3) := by decide +kernel
theorem dX4_findTakingOff_69 : decode cX4_findTakingOff 69 = .ok (.iload_n 2, 1) := by decide +kernel
theorem dX4_findTakingOff_70 : decode cX4_findTakingOff 70 = .ok (.iload_n 3, 1) := by decide +kernel
theorem dX4_findTakingOff_71 : decode cX4_findTakingOff 71 = .ok (.invokevirtual 69, 3) := by decide +kernel
theorem dX4_findTakingOff_74 : decode cX4_findTakingOff 74 = .ok (.aload_n 0, 1) := by decide +kernel
theorem dX4_findTakingOff_75 : decode cX4_findTakingOff 75 = .ok (.getfield 12, 3) := by decide +kernel
theorem dX4_findTakingOff_78 : decode cX4_findTakingOff 78 = .ok (.invokevirtual 42, 3) := by decide +kernel
theorem dX4_findTakingOff_81 : decode cX4_findTakingOff 81 = .ok (.aload_n 0, 1) := by decide +kernel
theorem dX4_findTakingOff_82 : decode cX4_findTakingOff 82 = .ok (.getfield 12, 3) := by decide +kernel
theorem dX4_findTakingOff_85 : decode cX4_findTakingOff 85 = .ok (.invokevirtual 45, 3) := by decide +kernel
theorem dX4_findTakingOff_88 : decode cX4_findTakingOff 88 = .ok (.aload_n 0, 1) := by decide +kernel
theorem dX4_findTakingOff_89 : decode cX4_findTakingOff 89 = .ok (.getfield 53, 3) := by decide +kernel
theorem dX4_findTakingOff_92 : decode cX4_findTakingOff 92 = .ok (.if_icmp .le 24, 3) := by decide +kernel
theorem dX4_findTakingOff_95 : decode cX4_findTakingOff 95 = .ok (.aload_n 0, 1) := by decide +kernel
theorem dX4_findTakingOff_96 : decode cX4_findTakingOff 96 = .ok (.aload_n 0, 1) := by decide +kernel
theorem dX4_findTakingOff_97 : decode cX4_findTakingOff 97 = .ok (.getfield 12, 3) := by decide +kernel
theorem dX4_findTakingOff_100 : decode cX4_findTakingOff 100 = .ok (.invokevirtual 45, 3) := by decide +kernel
theorem dX4_findTakingOff_103 : decode cX4_findTakingOff 103 = .ok (.putfield 53, 3) := by decide +kernel
theorem dX4_findTakingOff_106 : decode cX4_findTakingOff 106 = .ok (.aload_n 0, 1) := by decide +kernel
theorem dX4_findTakingOff_107 : decode cX4_findTakingOff 107 = .ok (.iload_n 2, 1) := by decide +kernel
theorem dX4_findTakingOff_108 : decode cX4_findTakingOff 108 = .ok (.putfield 63, 3) := by decide +kernel
theorem dX4_findTakingOff_111 : decode cX4_findTakingOff 111 = .ok (.aload_n 0, 1) := by decide +kernel
theorem dX4_findTakingOff_112 : decode cX4_findTakingOff 112 = .ok (.iload_n 3, 1) := by decide +kernel
theorem dX4_findTakingOff_113 : decode cX4_findTakingOff 113 = .ok (.putfield 60, 3) := by decide +kernel
theorem dX4_findTakingOff_116 : decode cX4_findTakingOff 116 = .ok (.iinc 3 1, 3) := by decide +kernel
theorem dX4_findTakingOff_119 : decode cX4_findTakingOff 119 = .ok (.goto (-67), 3) := by decide +kernel
theorem dX4_findTakingOff_122 : decode cX4_findTakingOff 122 = .ok (.iinc 2 1, 3) := by decide +kernel
theorem dX4_findTakingOff_125 : decode cX4_findTakingOff 125 = .ok (.goto (-86), 3) := by decide +kernel
theorem dX4_findTakingOff_128 : decode cX4_findTakingOff 128 = .ok (.return_, 1) := by decide +kernel
theorem dX4_findFetched_0 : decode cX4_findFetched 0 = .ok (.aload_n 0, 1) := by decide +kernel
theorem dX4_findFetched_1 : decode cX4_findFetched 1 = .ok (.getfield 12, 3) := by decide +kernel
theorem dX4_findFetched_4 : decode cX4_findFetched 4 = .ok (.aload_n 1, 1) := by decide +kernel
theorem dX4_findFetched_5 : decode cX4_findFetched 5 = .ok (.invokevirtual 29, 3) := by decide +kernel
theorem dX4_findFetched_8 : decode cX4_findFetched 8 = .ok (.aload_n 0, 1) := by decide +kernel
theorem dX4_findFetched_9 : decode cX4_findFetched 9 = .ok (.sipush (-1000), 3) := by decide +kernel
theorem dX4_findFetched_12 : decode cX4_findFetched 12 = .ok (.putfield 53, 3) := by decide +kernel
theorem dX4_findFetched_15 : decode cX4_findFetched 15 = .ok (.iconst 0, 1) := by decide +kernel
theorem dX4_findFetched_16 : decode cX4_findFetched 16 = .ok (.istore_n 2, 1) := by decide +kernel
theorem dX4_findFetched_17 : decode cX4_findFetched 17 = .ok (.iload_n 2, 1) := by decide +kernel
theorem dX4_findFetched_18 : decode cX4_findFetched 18 = .ok (.iconst 4, 1) := by decide +kernel
theorem dX4_findFetched_19 : decode cX4_findFetched 19 = .ok (.if_icmp .ge 29, 3) := by decide +kernel
theorem dX4_findFetched_22 : decode cX4_findFetched 22 = .ok (.aload_n 0, 1) := by decide +kernel
theorem dX4_findFetched_23 : decode cX4_findFetched 23 = .ok (.getfield 12, 3) := by decide +kernel
theorem dX4_findFetched_26 : decode cX4_findFetched 26 = .ok (.getfield 33, 3) := by decide +kernel
theorem dX4_findFetched_29 : decode cX4_findFetched 29 = .ok (.getfield 37, 3) := by decide +kernel
theorem dX4_findFetched_32 : decode cX4_findFetched 32 = .ok (.iload_n 2, 1) := by decide +kernel
theorem dX4_findFetched_33 : decode cX4_findFetched 33 = .ok (.iconst 0, 1) := by decide +kernel
theorem dX4_findFetched_34 : decode cX4_findFetched 34 = .ok (.iastore, 1) := by decide +kernel
theorem dX4_findFetched_35 : decode cX4_findFetched 35 = .ok (.aload_n 0, 1) := by decide +kernel
theorem dX4_findFetched_36 : decode cX4_findFetched 36 = .ok (.getfield 22, 3) := by decide +kernel
theorem dX4_findFetched_39 : decode cX4_findFetched 39 = .ok (.iload_n 2, 1) := by decide +kernel
theorem dX4_findFetched_40 : decode cX4_findFetched 40 = .ok (.iconst 0, 1) := by decide +kernel
theorem dX4_findFetched_41 : decode cX4_findFetched 41 = .ok (.bastore, 1) := by decide +kernel
theorem dX4_findFetched_42 : decode cX4_findFetched 42 = .ok (.iinc 2 1, 3) := by decide +kernel
theorem dX4_findFetched_45 : decode cX4_findFetched 45 = .ok (.goto (-28), 3) := by decide +kernel
theorem dX4_findFetched_48 : decode cX4_findFetched 48 = .ok (.iconst 1, 1) := by decide +kernel
theorem dX4_findFetched_49 : decode cX4_findFetched 49 = .ok (.istore_n 2, 1) := by decide +kernel
theorem dX4_findFetched_50 : decode cX4_findFetched 50 = .ok (.iconst 0, 1) := by decide +kernel
theorem dX4_findFetched_51 : decode cX4_findFetched 51 = .ok (.istore_n 3, 1) := by decide +kernel
theorem dX4_findFetched_52 : decode cX4_findFetched 52 = .ok (.iload_n 2, 1) := by decide +kernel
theorem dX4_findFetched_53 : decode cX4_findFetched 53 = .ok (.ifCond .eq 32, 3) := by decide +kernel
theorem dX4_findFetched_56 : decode cX4_findFetched 56 = .ok (.iload_n 3, 1) := by decide +kernel
theorem dX4_findFetched_57 : decode cX4_findFetched 57 = .ok (.sipush 10000, 3) := by decide +kernel
theorem dX4_findFetched_60 : decode cX4_findFetched 60 = .ok (.if_icmp .ge 25, 3) := by decide +kernel
theorem dX4_findFetched_63 : decode cX4_findFetched 63 = .ok (.aload_n 0, 1) := by decide +kernel
theorem dX4_findFetched_64 : decode cX4_findFetched 64 = .ok (.getfield 12, 3) := by decide +kernel
theorem dX4_findFetched_67 : decode cX4_findFetched 67 = .ok (.invokevirtual 42, 3) := by decide +kernel
theorem dX4_findFetched_70 : decode cX4_findFetched 70 = .ok (.aload_n 0, 1) := by decide +kernel
theorem dX4_findFetched_71 : decode cX4_findFetched 71 = .ok (.invokevirtual 73, 3) := by decide +kernel
theorem dX4_findFetched_74 : decode cX4_findFetched 74 = .ok (.aload_n 0, 1) := by decide +kernel
theorem dX4_findFetched_75 : decode cX4_findFetched 75 = .ok (.invokevirtual 76, 3) := by decide +kernel
theorem dX4_findFetched_78 : decode cX4_findFetched 78 = .ok (.istore_n 2, 1) := by decide +kernel
theorem dX4_findFetched_79 : decode cX4_findFetched 79 = .ok (.iinc 3 1, 3) := by decide +kernel
theorem dX4_findFetched_82 : decode cX4_findFetched 82 = .ok (.goto (-30), 3) := by decide +kernel
theorem dX4_findFetched_85 : decode cX4_findFetched 85 = .ok (.return_, 1) := by decide +kernel
theorem dX4_weighRow_0 : decode cX4_weighRow 0 = .ok (.aload_n 0, 1) := by decide +kernel
theorem dX4_weighRow_1 : decode cX4_weighRow 1 = .ok (.getfield 12, 3) := by decide +kernel
theorem dX4_weighRow_4 : decode cX4_weighRow 4 = .ok (.getfield 33, 3) := by decide +kernel
theorem dX4_weighRow_7 : decode cX4_weighRow 7 = .ok (.astore_n 1, 1) := by decide +kernel
theorem dX4_weighRow_8 : decode cX4_weighRow 8 = .ok (.aload_n 0, 1) := by decide +kernel
theorem dX4_weighRow_9 : decode cX4_weighRow 9 = .ok (.getfield 12, 3) := by decide +kernel
theorem dX4_weighRow_12 : decode cX4_weighRow 12 = .ok (.invokevirtual 45, 3) := by decide +kernel
theorem dX4_weighRow_15 : decode cX4_weighRow 15 = .ok (.istore_n 2, 1) := by decide +kernel
theorem dX4_weighRow_16 : decode cX4_weighRow 16 = .ok (.iconst 0, 1) := by decide +kernel
theorem dX4_weighRow_17 : decode cX4_weighRow 17 = .ok (.istore_n 3, 1) := by decide +kernel
theorem dX4_weighRow_18 : decode cX4_weighRow 18 = .ok (.iload_n 3, 1) := by decide +kernel
theorem dX4_weighRow_19 : decode cX4_weighRow 19 = .ok (.aload_n 1, 1) := by decide +kernel
theorem dX4_weighRow_20 : decode cX4_weighRow 20 = .ok (.getfield 80, 3) := by decide +kernel
theorem dX4_weighRow_23 : decode cX4_weighRow 23 = .ok (.if_icmp .ge 84, 3) := by decide +kernel
theorem dX4_weighRow_26 : decode cX4_weighRow 26 = .ok (.aload_n 0, 1) := by decide +kernel
theorem dX4_weighRow_27 : decode cX4_weighRow 27 = .ok (.getfield 26, 3) := by decide +kernel
theorem dX4_weighRow_30 : decode cX4_weighRow 30 = .ok (.iload_n 3, 1) := by decide +kernel
theorem dX4_weighRow_31 : decode cX4_weighRow 31 = .ok (.aload_n 1, 1) := by decide +kernel
theorem dX4_weighRow_32 : decode cX4_weighRow 32 = .ok (.getfield 37, 3) := by decide +kernel
theorem dX4_weighRow_35 : decode cX4_weighRow 35 = .ok (.iload_n 3, 1) := by decide +kernel
theorem dX4_weighRow_36 : decode cX4_weighRow 36 = .ok (.iaload, 1) := by decide +kernel
theorem dX4_weighRow_37 : decode cX4_weighRow 37 = .ok (.iastore, 1) := by decide +kernel
theorem dX4_weighRow_38 : decode cX4_weighRow 38 = .ok (.aload_n 1, 1) := by decide +kernel
theorem dX4_weighRow_39 : decode cX4_weighRow 39 = .ok (.getfield 83, 3) := by decide +kernel
theorem dX4_weighRow_42 : decode cX4_weighRow 42 = .ok (.aload_n 1, 1) := by decide +kernel
theorem dX4_weighRow_43 : decode cX4_weighRow 43 = .ok (.getfield 86, 3) := by decide +kernel
theorem dX4_weighRow_46 : decode cX4_weighRow 46 = .ok (.iload_n 3, 1) := by decide +kernel
theorem dX4_weighRow_47 : decode cX4_weighRow 47 = .ok (.iaload, 1) := by decide +kernel
theorem dX4_weighRow_48 : decode cX4_weighRow 48 = .ok (.isub, 1) := by decide +kernel
theorem dX4_weighRow_49 : decode cX4_weighRow 49 = .ok (.istore 4, 2) := by decide +kernel
theorem dX4_weighRow_51 : decode cX4_weighRow 51 = .ok (.aload_n 0, 1) := by decide +kernel
theorem dX4_weighRow_52 : decode cX4_weighRow 52 = .ok (.getfield 12, 3) := by decide +kernel
theorem dX4_weighRow_55 : decode cX4_weighRow 55 = .ok (.getfield 89, 3) := by decide +kernel
theorem dX4_weighRow_58 : decode cX4_weighRow 58 = .ok (.iload_n 3, 1) := by decide +kernel
theorem dX4_weighRow_59 : decode cX4_weighRow 59 = .ok (.iaload, 1) := by decide +kernel
theorem dX4_weighRow_60 : decode cX4_weighRow 60 = .ok (.ifCond .ne 13, 3) := by decide +kernel
theorem dX4_weighRow_63 : decode cX4_weighRow 63 = .ok (.aload_n 0, 1) := by decide +kernel
theorem dX4_weighRow_64 : decode cX4_weighRow 64 = .ok (.getfield 22, 3) := by decide +kernel
theorem dX4_weighRow_67 : decode cX4_weighRow 67 = .ok (.iload_n 3, 1) := by decide +kernel
theorem dX4_weighRow_68 : decode cX4_weighRow 68 = .ok (.iconst 1, 1) := by decide +kernel
theorem dX4_weighRow_69 : decode cX4_weighRow 69 = .ok (.bastore, 1) := by decide +kernel
theorem dX4_weighRow_70 : decode cX4_weighRow 70 = .ok (.goto 31, 3) := by decide +kernel
theorem dX4_weighRow_73 : decode cX4_weighRow 73 = .ok (.iload 4, 2) := by decide +kernel
theorem dX4_weighRow_75 : decode cX4_weighRow 75 = .ok (.ifCond .le 26, 3) := by decide +kernel
theorem dX4_weighRow_78 : decode cX4_weighRow 78 = .ok (.aload_n 0, 1) := by decide +kernel
theorem dX4_weighRow_79 : decode cX4_weighRow 79 = .ok (.getfield 26, 3) := by decide +kernel
theorem dX4_weighRow_82 : decode cX4_weighRow 82 = .ok (.iload_n 3, 1) := by decide +kernel
theorem dX4_weighRow_83 : decode cX4_weighRow 83 = .ok (.bipush 9, 2) := by decide +kernel
theorem dX4_weighRow_85 : decode cX4_weighRow 85 = .ok (.iastore, 1) := by decide +kernel
theorem dX4_weighRow_86 : decode cX4_weighRow 86 = .ok (.iload_n 2, 1) := by decide +kernel
theorem dX4_weighRow_87 : decode cX4_weighRow 87 = .ok (.iload 4, 2) := by decide +kernel
theorem dX4_weighRow_89 : decode cX4_weighRow 89 = .ok (.bipush 9, 2) := by decide +kernel
theorem dX4_weighRow_91 : decode cX4_weighRow 91 = .ok (.aload_n 1, 1) := by decide +kernel
theorem dX4_weighRow_92 : decode cX4_weighRow 92 = .ok (.getfield 37, 3) := by decide +kernel
theorem dX4_weighRow_95 : decode cX4_weighRow 95 = .ok (.iload_n 3, 1) := by decide +kernel
theorem dX4_weighRow_96 : decode cX4_weighRow 96 = .ok (.iaload, 1) := by decide +kernel
theorem dX4_weighRow_97 : decode cX4_weighRow 97 = .ok (.isub, 1) := by decide +kernel
theorem dX4_weighRow_98 : decode cX4_weighRow 98 = .ok (.imul, 1) := by decide +kernel
theorem dX4_weighRow_99 : decode cX4_weighRow 99 = .ok (.iadd, 1) := by decide +kernel
theorem dX4_weighRow_100 : decode cX4_weighRow 100 = .ok (.istore_n 2, 1) := by decide +kernel
theorem dX4_weighRow_101 : decode cX4_weighRow 101 = .ok (.iinc 3 1, 3) := by decide +kernel
theorem dX4_weighRow_104 : decode cX4_weighRow 104 = .ok (.goto (-86), 3) := by decide +kernel
theorem dX4_weighRow_107 : decode cX4_weighRow 107 = .ok (.iload_n 2, 1) := by decide +kernel
theorem dX4_weighRow_108 : decode cX4_weighRow 108 = .ok (.aload_n 0, 1) := by decide +kernel
theorem dX4_weighRow_109 : decode cX4_weighRow 109 = .ok (.getfield 53, 3) := by decide +kernel
theorem dX4_weighRow_112 : decode cX4_weighRow 112 = .ok (.if_icmp .gt 18, 3) := by decide +kernel
theorem dX4_weighRow_115 : decode cX4_weighRow 115 = .ok (.iload_n 2, 1) := by decide +kernel
theorem dX4_weighRow_116 : decode cX4_weighRow 116 = .ok (.aload_n 0, 1) := by decide +kernel
theorem dX4_weighRow_117 : decode cX4_weighRow 117 = .ok (.getfield 53, 3) := by decide +kernel
theorem dX4_weighRow_120 : decode cX4_weighRow 120 = .ok (.if_icmp .ne 32, 3) := by decide +kernel
theorem dX4_weighRow_123 : decode cX4_weighRow 123 = .ok (.aload_n 0, 1) := by decide +kernel
theorem dX4_weighRow_124 : decode cX4_weighRow 124 = .ok (.invokevirtual 92, 3) := by decide +kernel
theorem dX4_weighRow_127 : decode cX4_weighRow 127 = .ok (.ifCond .eq 25, 3) := by decide +kernel
theorem dX4_weighRow_130 : decode cX4_weighRow 130 = .ok (.aload_n 0, 1) := by decide +kernel
theorem dX4_weighRow_131 : decode cX4_weighRow 131 = .ok (.iload_n 2, 1) := by decide +kernel
theorem dX4_weighRow_132 : decode cX4_weighRow 132 = .ok (.putfield 53, 3) := by decide +kernel
theorem dX4_weighRow_135 : decode cX4_weighRow 135 = .ok (.aload_n 0, 1) := by decide +kernel
theorem dX4_weighRow_136 : decode cX4_weighRow 136 = .ok (.getfield 26, 3) := by decide +kernel
theorem dX4_weighRow_139 : decode cX4_weighRow 139 = .ok (.iconst 0, 1) := by decide +kernel
theorem dX4_weighRow_140 : decode cX4_weighRow 140 = .ok (.aload_n 0, 1) := by decide +kernel
theorem dX4_weighRow_141 : decode cX4_weighRow 141 = .ok (.getfield 18, 3) := by decide +kernel
theorem dX4_weighRow_144 : decode cX4_weighRow 144 = .ok (.iconst 0, 1) := by decide +kernel
theorem dX4_weighRow_145 : decode cX4_weighRow 145 = .ok (.aload_n 1, 1) := by decide +kernel
theorem dX4_weighRow_146 : decode cX4_weighRow 146 = .ok (.getfield 80, 3) := by decide +kernel
theorem dX4_weighRow_149 : decode cX4_weighRow 149 = .ok (.invokestatic 95, 3) := by decide +kernel
theorem dX4_weighRow_152 : decode cX4_weighRow 152 = .ok (.return_, 1) := by decide +kernel
theorem dX4_isRaisedFirst_0 : decode cX4_isRaisedFirst 0 = .ok (.iconst 0, 1) := by decide +kernel
theorem dX4_isRaisedFirst_1 : decode cX4_isRaisedFirst 1 = .ok (.istore_n 1, 1) := by decide +kernel
theorem dX4_isRaisedFirst_2 : decode cX4_isRaisedFirst 2 = .ok (.iload_n 1, 1) := by decide +kernel
theorem dX4_isRaisedFirst_3 : decode cX4_isRaisedFirst 3 = .ok (.aload_n 0, 1) := by decide +kernel
theorem dX4_isRaisedFirst_4 : decode cX4_isRaisedFirst 4 = .ok (.getfield 12, 3) := by decide +kernel
theorem dX4_isRaisedFirst_7 : decode cX4_isRaisedFirst 7 = .ok (.getfield 33, 3) := by decide +kernel
theorem dX4_isRaisedFirst_10 : decode cX4_isRaisedFirst 10 = .ok (.getfield 80, 3) := by decide +kernel
theorem dX4_isRaisedFirst_13 : decode cX4_isRaisedFirst 13 = .ok (.if_icmp .ge 45, 3) := by decide +kernel
theorem dX4_isRaisedFirst_16 : decode cX4_isRaisedFirst 16 = .ok (.aload_n 0, 1) := by decide +kernel
theorem dX4_isRaisedFirst_17 : decode cX4_isRaisedFirst 17 = .ok (.getfield 26, 3) := by decide +kernel
theorem dX4_isRaisedFirst_20 : decode cX4_isRaisedFirst 20 = .ok (.iload_n 1, 1) := by decide +kernel
theorem dX4_isRaisedFirst_21 : decode cX4_isRaisedFirst 21 = .ok (.iaload, 1) := by decide +kernel
theorem dX4_isRaisedFirst_22 : decode cX4_isRaisedFirst 22 = .ok (.aload_n 0, 1) := by decide +kernel
theorem dX4_isRaisedFirst_23 : decode cX4_isRaisedFirst 23 = .ok (.getfield 18, 3) := by decide +kernel
theorem dX4_isRaisedFirst_26 : decode cX4_isRaisedFirst 26 = .ok (.iload_n 1, 1) := by decide +kernel
theorem dX4_isRaisedFirst_27 : decode cX4_isRaisedFirst 27 = .ok (.iaload, 1) := by decide +kernel
theorem dX4_isRaisedFirst_28 : decode cX4_isRaisedFirst 28 = .ok (.if_icmp .eq 24, 3) := by decide +kernel
theorem dX4_isRaisedFirst_31 : decode cX4_isRaisedFirst 31 = .ok (.aload_n 0, 1) := by decide +kernel
theorem dX4_isRaisedFirst_32 : decode cX4_isRaisedFirst 32 = .ok (.getfield 26, 3) := by decide +kernel
theorem dX4_isRaisedFirst_35 : decode cX4_isRaisedFirst 35 = .ok (.iload_n 1, 1) := by decide +kernel
theorem dX4_isRaisedFirst_36 : decode cX4_isRaisedFirst 36 = .ok (.iaload, 1) := by decide +kernel
theorem dX4_isRaisedFirst_37 : decode cX4_isRaisedFirst 37 = .ok (.aload_n 0, 1) := by decide +kernel
theorem dX4_isRaisedFirst_38 : decode cX4_isRaisedFirst 38 = .ok (.getfield 18, 3) := by decide +kernel
theorem dX4_isRaisedFirst_41 : decode cX4_isRaisedFirst 41 = .ok (.iload_n 1, 1) := by decide +kernel
theorem dX4_isRaisedFirst_42 : decode cX4_isRaisedFirst 42 = .ok (.iaload, 1) := by decide +kernel
theorem dX4_isRaisedFirst_43 : decode cX4_isRaisedFirst 43 = .ok (.if_icmp .ge 7, 3) := by decide +kernel
theorem dX4_isRaisedFirst_46 : decode cX4_isRaisedFirst 46 = .ok (.iconst 1, 1) := by decide +kernel
theorem dX4_isRaisedFirst_47 : decode cX4_isRaisedFirst 47 = .ok (.goto 4, 3) := by decide +kernel
theorem dX4_isRaisedFirst_50 : decode cX4_isRaisedFirst 50 = .ok (.iconst 0, 1) := by decide +kernel
theorem dX4_isRaisedFirst_51 : decode cX4_isRaisedFirst 51 = .ok (.ireturn, 1) := by decide +kernel
theorem dX4_isRaisedFirst_52 : decode cX4_isRaisedFirst 52 = .ok (.iinc 1 1, 3) := by decide +kernel
theorem dX4_isRaisedFirst_55 : decode cX4_isRaisedFirst 55 = .ok (.goto (-53), 3) := by decide +kernel
theorem dX4_isRaisedFirst_58 : decode cX4_isRaisedFirst 58 = .ok (.iconst 0, 1) := by decide +kernel
theorem dX4_isRaisedFirst_59 : decode cX4_isRaisedFirst 59 = .ok (.ireturn, 1) := by decide +kernel
theorem dX4_goToNextRow_0 : decode cX4_goToNextRow 0 = .ok (.aload_n 0, 1) := by decide +kernel
theorem dX4_goToNextRow_1 : decode cX4_goToNextRow 1 = .ok (.getfield 12, 3) := by decide +kernel
theorem dX4_goToNextRow_4 : decode cX4_goToNextRow 4 = .ok (.getfield 33, 3) := by decide +kernel
theorem dX4_goToNextRow_7 : decode cX4_goToNextRow 7 = .ok (.getfield 80, 3) := by decide +kernel
theorem dX4_goToNextRow_10 : decode cX4_goToNextRow 10 = .ok (.iconst 1, 1) := by decide +kernel
theorem dX4_goToNextRow_11 : decode cX4_goToNextRow 11 = .ok (.isub, 1) := by decide +kernel
theorem dX4_goToNextRow_12 : decode cX4_goToNextRow 12 = .ok (.istore_n 1, 1) := by decide +kernel
theorem dX4_goToNextRow_13 : decode cX4_goToNextRow 13 = .ok (.iload_n 1, 1) := by decide +kernel
theorem dX4_goToNextRow_14 : decode cX4_goToNextRow 14 = .ok (.ifCond .lt 83, 3) := by decide +kernel
theorem dX4_goToNextRow_17 : decode cX4_goToNextRow 17 = .ok (.aload_n 0, 1) := by decide +kernel
theorem dX4_goToNextRow_18 : decode cX4_goToNextRow 18 = .ok (.getfield 22, 3) := by decide +kernel
theorem dX4_goToNextRow_21 : decode cX4_goToNextRow 21 = .ok (.iload_n 1, 1) := by decide +kernel
theorem dX4_goToNextRow_22 : decode cX4_goToNextRow 22 = .ok (.baload, 1) := by decide +kernel
theorem dX4_goToNextRow_23 : decode cX4_goToNextRow 23 = .ok (.ifCond .eq 24, 3) := by decide +kernel
theorem dX4_goToNextRow_26 : decode cX4_goToNextRow 26 = .ok (.aload_n 0, 1) := by decide +kernel
theorem dX4_goToNextRow_27 : decode cX4_goToNextRow 27 = .ok (.getfield 12, 3) := by decide +kernel
theorem dX4_goToNextRow_30 : decode cX4_goToNextRow 30 = .ok (.getfield 33, 3) := by decide +kernel
theorem dX4_goToNextRow_33 : decode cX4_goToNextRow 33 = .ok (.getfield 37, 3) := by decide +kernel
theorem dX4_goToNextRow_36 : decode cX4_goToNextRow 36 = .ok (.iload_n 1, 1) := by decide +kernel
theorem dX4_goToNextRow_37 : decode cX4_goToNextRow 37 = .ok (.iaload, 1) := by decide +kernel
theorem dX4_goToNextRow_38 : decode cX4_goToNextRow 38 = .ok (.bipush 9, 2) := by decide +kernel
theorem dX4_goToNextRow_40 : decode cX4_goToNextRow 40 = .ok (.if_icmp .ge 7, 3) := by decide +kernel
theorem dX4_goToNextRow_43 : decode cX4_goToNextRow 43 = .ok (.iconst 1, 1) := by decide +kernel
theorem dX4_goToNextRow_44 : decode cX4_goToNextRow 44 = .ok (.goto 4, 3) := by decide +kernel
theorem dX4_goToNextRow_47 : decode cX4_goToNextRow 47 = .ok (.iconst 0, 1) := by decide +kernel
theorem dX4_goToNextRow_48 : decode cX4_goToNextRow 48 = .ok (.istore_n 2, 1) := by decide +kernel
theorem dX4_goToNextRow_49 : decode cX4_goToNextRow 49 = .ok (.aload_n 0, 1) := by decide +kernel
theorem dX4_goToNextRow_50 : decode cX4_goToNextRow 50 = .ok (.getfield 22, 3) := by decide +kernel
theorem dX4_goToNextRow_53 : decode cX4_goToNextRow 53 = .ok (.iload_n 1, 1) := by decide +kernel
theorem dX4_goToNextRow_54 : decode cX4_goToNextRow 54 = .ok (.iconst 0, 1) := by decide +kernel
theorem dX4_goToNextRow_55 : decode cX4_goToNextRow 55 = .ok (.bastore, 1) := by decide +kernel
theorem dX4_goToNextRow_56 : decode cX4_goToNextRow 56 = .ok (.iload_n 2, 1) := by decide +kernel
theorem dX4_goToNextRow_57 : decode cX4_goToNextRow 57 = .ok (.ifCond .eq 21, 3) := by decide +kernel
theorem dX4_goToNextRow_60 : decode cX4_goToNextRow 60 = .ok (.aload_n 0, 1) := by decide +kernel
theorem dX4_goToNextRow_61 : decode cX4_goToNextRow 61 = .ok (.getfield 12, 3) := by decide +kernel
theorem dX4_goToNextRow_64 : decode cX4_goToNextRow 64 = .ok (.getfield 33, 3) := by decide +kernel
theorem dX4_goToNextRow_67 : decode cX4_goToNextRow 67 = .ok (.getfield 37, 3) := by decide +kernel
theorem dX4_goToNextRow_70 : decode cX4_goToNextRow 70 = .ok (.iload_n 1, 1) := by decide +kernel
theorem dX4_goToNextRow_71 : decode cX4_goToNextRow 71 = .ok (.dup2, 1) := by decide +kernel
theorem dX4_goToNextRow_72 : decode cX4_goToNextRow 72 = .ok (.iaload, 1) := by decide +kernel
theorem dX4_goToNextRow_73 : decode cX4_goToNextRow 73 = .ok (.iconst 1, 1) := by decide +kernel
theorem dX4_goToNextRow_74 : decode cX4_goToNextRow 74 = .ok (.iadd, 1) := by decide +kernel
theorem dX4_goToNextRow_75 : decode cX4_goToNextRow 75 = .ok (.iastore, 1) := by decide +kernel
theorem dX4_goToNextRow_76 : decode cX4_goToNextRow 76 = .ok (.iconst 1, 1) := by decide +kernel
theorem dX4_goToNextRow_77 : decode cX4_goToNextRow 77 = .ok (.ireturn, 1) := by decide +kernel
theorem dX4_goToNextRow_78 : decode cX4_goToNextRow 78 = .ok (.aload_n 0, 1) := by decide +kernel
theorem dX4_goToNextRow_79 : decode cX4_goToNextRow 79 = .ok (.getfield 12, 3) := by decide +kernel
theorem dX4_goToNextRow_82 : decode cX4_goToNextRow 82 = .ok (.getfield 33, 3) := by decide +kernel
theorem dX4_goToNextRow_85 : decode cX4_goToNextRow 85 = .ok (.getfield 37, 3) := by decide +kernel
theorem dX4_goToNextRow_88 : decode cX4_goToNextRow 88 = .ok (.iload_n 1, 1) := by decide +kernel
theorem dX4_goToNextRow_89 : decode cX4_goToNextRow 89 = .ok (.iconst 0, 1) := by decide +kernel
theorem dX4_goToNextRow_90 : decode cX4_goToNextRow 90 = .ok (.iastore, 1) := by decide +kernel
theorem dX4_goToNextRow_91 : decode cX4_goToNextRow 91 = .ok (.iinc 1 (-1), 3) := by decide +kernel
theorem dX4_goToNextRow_94 : decode cX4_goToNextRow 94 = .ok (.goto (-81), 3) := by decide +kernel
theorem dX4_goToNextRow_97 : decode cX4_goToNextRow 97 = .ok (.iconst 0, 1) := by decide +kernel
theorem dX4_goToNextRow_98 : decode cX4_goToNextRow 98 = .ok (.ireturn, 1) := by decide +kernel
theorem dX5_init_0 : decode cX5_init 0 = .ok (.aload_n 0, 1) := by decide +kernel
theorem dX5_init_1 : decode cX5_init 1 = .ok (.invokespecial 1, 3) := by decide +kernel
theorem dX5_init_4 : decode cX5_init 4 = .ok (.aload_n 0, 1) := by decide +kernel
theorem dX5_init_5 : decode cX5_init 5 = .ok (.iconst 4, 1) := by decide +kernel
theorem dX5_init_6 : decode cX5_init 6 = .ok (.bipush 60, 2) := by decide +kernel
theorem dX5_init_8 : decode cX5_init 8 = .ok (.multianewarray 9 2, 4) := by decide +kernel
theorem dX5_init_12 : decode cX5_init 12 = .ok (.putfield 11, 3) := by decide +kernel
theorem dX5_init_15 : decode cX5_init 15 = .ok (.aload_n 0, 1) := by decide +kernel
theorem dX5_init_16 : decode cX5_init 16 = .ok (.iconst 4, 1) := by decide +kernel
theorem dX5_init_17 : decode cX5_init 17 = .ok (.newarray .int, 2) := by decide +kernel
theorem dX5_init_19 : decode cX5_init 19 = .ok (.putfield 14, 3) := by decide +kernel
theorem dX5_init_22 : decode cX5_init 22 = .ok (.aload_n 0, 1) := by decide +kernel
theorem dX5_init_23 : decode cX5_init 23 = .ok (.iconst 4, 1) := by decide +kernel
theorem dX5_init_24 : decode cX5_init 24 = .ok (.newarray .int, 2) := by decide +kernel
theorem dX5_init_26 : decode cX5_init 26 = .ok (.dup, 1) := by decide +kernel
theorem dX5_init_27 : decode cX5_init 27 = .ok (.iconst 0, 1) := by decide +kernel
theorem dX5_init_28 : decode cX5_init 28 = .ok (.iconst (-1), 1) := by decide +kernel
theorem dX5_init_29 : decode cX5_init 29 = .ok (.iastore, 1) := by decide +kernel
theorem dX5_init_30 : decode cX5_init 30 = .ok (.dup, 1) := by decide +kernel
theorem dX5_init_31 : decode cX5_init 31 = .ok (.iconst 1, 1) := by decide +kernel
theorem dX5_init_32 : decode cX5_init 32 = .ok (.iconst (-1), 1) := by decide +kernel
theorem dX5_init_33 : decode cX5_init 33 = .ok (.iastore, 1) := by decide +kernel
theorem dX5_init_34 : decode cX5_init 34 = .ok (.dup, 1) := by decide +kernel
theorem dX5_init_35 : decode cX5_init 35 = .ok (.iconst 2, 1) := by decide +kernel
theorem dX5_init_36 : decode cX5_init 36 = .ok (.iconst (-1), 1) := by decide +kernel
theorem dX5_init_37 : decode cX5_init 37 = .ok (.iastore, 1) := by decide +kernel
theorem dX5_init_38 : decode cX5_init 38 = .ok (.dup, 1) := by decide +kernel
theorem dX5_init_39 : decode cX5_init 39 = .ok (.iconst 3, 1) := by decide +kernel
theorem dX5_init_40 : decode cX5_init 40 = .ok (.iconst (-1), 1) := by decide +kernel
theorem dX5_init_41 : decode cX5_init 41 = .ok (.iastore, 1) := by decide +kernel
theorem dX5_init_42 : decode cX5_init 42 = .ok (.putfield 18, 3) := by decide +kernel
theorem dX5_init_45 : decode cX5_init 45 = .ok (.return_, 1) := by decide +kernel
theorem dX5_cut_0 : decode cX5_cut 0 = .ok (.iload_n 1, 1) := by decide +kernel
theorem dX5_cut_1 : decode cX5_cut 1 = .ok (.lookupswitch 33 #[(0, 27), (1, 30)], 27) := by decide +kernel
theorem dX5_cut_28 : decode cX5_cut 28 = .ok (.iload_n 0, 1) := by decide +kernel
theorem dX5_cut_29 : decode cX5_cut 29 = .ok (.i2b, 1) := by decide +kernel
theorem dX5_cut_30 : decode cX5_cut 30 = .ok (.ireturn, 1) := by decide +kernel
theorem dX5_cut_31 : decode cX5_cut 31 = .ok (.iload_n 0, 1) := by decide +kernel
theorem dX5_cut_32 : decode cX5_cut 32 = .ok (.i2s, 1) := by decide +kernel
theorem dX5_cut_33 : decode cX5_cut 33 = .ok (.ireturn, 1) := by decide +kernel
theorem dX5_cut_34 : decode cX5_cut 34 = .ok (.iload_n 0, 1) := by decide +kernel
theorem dX5_cut_35 : decode cX5_cut 35 = .ok (.ireturn, 1) := by decide +kernel
theorem dX5_isThere_0 : decode cX5_isThere 0 = .ok (.iload_n 1, 1) := by decide +kernel
theorem dX5_isThere_1 : decode cX5_isThere 1 = .ok (.ifCond .lt 12, 3) := by decide +kernel
theorem dX5_isThere_4 : decode cX5_isThere 4 = .ok (.iload_n 1, 1) := by decide +kernel
theorem dX5_isThere_5 : decode cX5_isThere 5 = .ok (.iconst 4, 1) := by decide +kernel
theorem dX5_isThere_6 : decode cX5_isThere 6 = .ok (.if_icmp .ge 7, 3) := by decide +kernel
theorem dX5_isThere_9 : decode cX5_isThere 9 = .ok (.iconst 1, 1) := by decide +kernel
theorem dX5_isThere_10 : decode cX5_isThere 10 = .ok (.goto 4, 3) := by decide +kernel
theorem dX5_isThere_13 : decode cX5_isThere 13 = .ok (.iconst 0, 1) := by decide +kernel
theorem dX5_isThere_14 : decode cX5_isThere 14 = .ok (.ireturn, 1) := by decide +kernel
theorem dX5_isLane_0 : decode cX5_isLane 0 = .ok (.iload_n 1, 1) := by decide +kernel
theorem dX5_isLane_1 : decode cX5_isLane 1 = .ok (.ifCond .lt 12, 3) := by decide +kernel
theorem dX5_isLane_4 : decode cX5_isLane 4 = .ok (.iload_n 1, 1) := by decide +kernel
theorem dX5_isLane_5 : decode cX5_isLane 5 = .ok (.iconst 3, 1) := by decide +kernel
theorem dX5_isLane_6 : decode cX5_isLane 6 = .ok (.if_icmp .ge 7, 3) := by decide +kernel
theorem dX5_isLane_9 : decode cX5_isLane 9 = .ok (.iconst 1, 1) := by decide +kernel
theorem dX5_isLane_10 : decode cX5_isLane 10 = .ok (.goto 4, 3) := by decide +kernel
theorem dX5_isLane_13 : decode cX5_isLane 13 = .ok (.iconst 0, 1) := by decide +kernel
theorem dX5_isLane_14 : decode cX5_isLane 14 = .ok (.ireturn, 1) := by decide +kernel
theorem dX5_hasRow_0 : decode cX5_hasRow 0 = .ok (.aload_n 0, 1) := by decide +kernel
theorem dX5_hasRow_1 : decode cX5_hasRow 1 = .ok (.getfield 18, 3) := by decide +kernel
theorem dX5_hasRow_4 : decode cX5_hasRow 4 = .ok (.iload_n 1, 1) := by decide +kernel
theorem dX5_hasRow_5 : decode cX5_hasRow 5 = .ok (.iaload, 1) := by decide +kernel
theorem dX5_hasRow_6 : decode cX5_hasRow 6 = .ok (.iconst (-1), 1) := by decide +kernel
theorem dX5_hasRow_7 : decode cX5_hasRow 7 = .ok (.if_icmp .eq 7, 3) := by decide +kernel
theorem dX5_hasRow_10 : decode cX5_hasRow 10 = .ok (.iconst 1, 1) := by decide +kernel
theorem dX5_hasRow_11 : decode cX5_hasRow 11 = .ok (.goto 4, 3) := by decide +kernel
theorem dX5_hasRow_14 : decode cX5_hasRow 14 = .ok (.iconst 0, 1) := by decide +kernel
theorem dX5_hasRow_15 : decode cX5_hasRow 15 = .ok (.ireturn, 1) := by decide +kernel
theorem dX5_reaches_0 : decode cX5_reaches 0 = .ok (.iload_n 2, 1) := by decide +kernel
theorem dX5_reaches_1 : decode cX5_reaches 1 = .ok (.ifCond .lt 33, 3) := by decide +kernel
theorem dX5_reaches_4 : decode cX5_reaches 4 = .ok (.iload_n 3, 1) := by decide +kernel
theorem dX5_reaches_5 : decode cX5_reaches 5 = .ok (.ifCond .lt 29, 3) := by decide +kernel
theorem dX5_reaches_8 : decode cX5_reaches 8 = .ok (.iload_n 2, 1) := by decide +kernel
theorem dX5_reaches_9 : decode cX5_reaches 9 = .ok (.aload_n 0, 1) := by decide +kernel
theorem dX5_reaches_10 : decode cX5_reaches 10 = .ok (.getfield 18, 3) := by decide +kernel
theorem dX5_reaches_13 : decode cX5_reaches 13 = .ok (.iload_n 1, 1) := by decide +kernel
theorem dX5_reaches_14 : decode cX5_reaches 14 = .ok (.iaload, 1) := by decide +kernel
theorem dX5_reaches_15 : decode cX5_reaches 15 = .ok (.if_icmp .gt 19, 3) := by decide +kernel
theorem dX5_reaches_18 : decode cX5_reaches 18 = .ok (.iload_n 3, 1) := by decide +kernel
theorem dX5_reaches_19 : decode cX5_reaches 19 = .ok (.aload_n 0, 1) := by decide +kernel
theorem dX5_reaches_20 : decode cX5_reaches 20 = .ok (.getfield 18, 3) := by decide +kernel
theorem dX5_reaches_23 : decode cX5_reaches 23 = .ok (.iload_n 1, 1) := by decide +kernel
theorem dX5_reaches_24 : decode cX5_reaches 24 = .ok (.iaload, 1) := by decide +kernel
theorem dX5_reaches_25 : decode cX5_reaches 25 = .ok (.iload_n 2, 1) := by decide +kernel
theorem dX5_reaches_26 : decode cX5_reaches 26 = .ok (.isub, 1) := by decide +kernel
theorem dX5_reaches_27 : decode cX5_reaches 27 = .ok (.if_icmp .gt 7, 3) := by decide +kernel
theorem dX5_reaches_30 : decode cX5_reaches 30 = .ok (.iconst 1, 1) := by decide +kernel
theorem dX5_reaches_31 : decode cX5_reaches 31 = .ok (.goto 4, 3) := by decide +kernel
theorem dX5_reaches_34 : decode cX5_reaches 34 = .ok (.iconst 0, 1) := by decide +kernel
theorem dX5_reaches_35 : decode cX5_reaches 35 = .ok (.ireturn, 1) := by decide +kernel
theorem dX5_give_0 : decode cX5_give 0 = .ok (.aload_n 0, 1) := by decide +kernel
theorem dX5_give_1 : decode cX5_give 1 = .ok (.getfield 14, 3) := by decide +kernel
theorem dX5_give_4 : decode cX5_give 4 = .ok (.iload_n 1, 1) := by decide +kernel
theorem dX5_give_5 : decode cX5_give 5 = .ok (.iload_n 2, 1) := by decide +kernel
theorem dX5_give_6 : decode cX5_give 6 = .ok (.iastore, 1) := by decide +kernel
theorem dX5_give_7 : decode cX5_give 7 = .ok (.aload_n 0, 1) := by decide +kernel
theorem dX5_give_8 : decode cX5_give 8 = .ok (.getfield 18, 3) := by decide +kernel
theorem dX5_give_11 : decode cX5_give 11 = .ok (.iload_n 1, 1) := by decide +kernel
theorem dX5_give_12 : decode cX5_give 12 = .ok (.iload_n 3, 1) := by decide +kernel
theorem dX5_give_13 : decode cX5_give 13 = .ok (.iastore, 1) := by decide +kernel
theorem dX5_give_14 : decode cX5_give 14 = .ok (.iconst 0, 1) := by decide +kernel
theorem dX5_give_15 : decode cX5_give 15 = .ok (.istore 4, 2) := by decide +kernel
theorem dX5_give_17 : decode cX5_give 17 = .ok (.iload 4, 2) := by decide +kernel
theorem dX5_give_19 : decode cX5_give 19 = .ok (.iload_n 3, 1) := by decide +kernel
theorem dX5_give_20 : decode cX5_give 20 = .ok (.if_icmp .ge 19, 3) := by decide +kernel
theorem dX5_give_23 : decode cX5_give 23 = .ok (.aload_n 0, 1) := by decide +kernel
theorem dX5_give_24 : decode cX5_give 24 = .ok (.getfield 11, 3) := by decide +kernel
theorem dX5_give_27 : decode cX5_give 27 = .ok (.iload_n 1, 1) := by decide +kernel
theorem dX5_give_28 : decode cX5_give 28 = .ok (.aaload, 1) := by decide +kernel
theorem dX5_give_29 : decode cX5_give 29 = .ok (.iload 4, 2) := by decide +kernel
theorem dX5_give_31 : decode cX5_give 31 = .ok (.iconst 0, 1) := by decide +kernel
theorem dX5_give_32 : decode cX5_give 32 = .ok (.iastore, 1) := by decide +kernel
theorem dX5_give_33 : decode cX5_give 33 = .ok (.iinc 4 1, 3) := by decide +kernel
theorem dX5_give_36 : decode cX5_give 36 = .ok (.goto (-19), 3) := by decide +kernel
theorem dX5_give_39 : decode cX5_give 39 = .ok (.return_, 1) := by decide +kernel
theorem dX6_init_0 : decode cX6_init 0 = .ok (.aload_n 0, 1) := by decide +kernel
theorem dX6_init_1 : decode cX6_init 1 = .ok (.invokespecial 3, 3) := by decide +kernel
theorem dX6_init_4 : decode cX6_init 4 = .ok (.aload_n 0, 1) := by decide +kernel
theorem dX6_init_5 : decode cX6_init 5 = .ok (.iconst 4, 1) := by decide +kernel
theorem dX6_init_6 : decode cX6_init 6 = .ok (.newarray .int, 2) := by decide +kernel
theorem dX6_init_8 : decode cX6_init 8 = .ok (.putfield 9, 3) := by decide +kernel
theorem dX6_init_11 : decode cX6_init 11 = .ok (.aload_n 0, 1) := by decide +kernel
theorem dX6_init_12 : decode cX6_init 12 = .ok (.iconst 4, 1) := by decide +kernel
theorem dX6_init_13 : decode cX6_init 13 = .ok (.newarray .int, 2) := by decide +kernel
theorem dX6_init_15 : decode cX6_init 15 = .ok (.putfield 15, 3) := by decide +kernel
theorem dX6_init_18 : decode cX6_init 18 = .ok (.aload_n 0, 1) := by decide +kernel
theorem dX6_init_19 : decode cX6_init 19 = .ok (.iconst 4, 1) := by decide +kernel
theorem dX6_init_20 : decode cX6_init 20 = .ok (.newarray .int, 2) := by decide +kernel
theorem dX6_init_22 : decode cX6_init 22 = .ok (.putfield 18, 3) := by decide +kernel
theorem dX6_init_25 : decode cX6_init 25 = .ok (.aload_n 0, 1) := by decide +kernel
theorem dX6_init_26 : decode cX6_init 26 = .ok (.iconst 4, 1) := by decide +kernel
theorem dX6_init_27 : decode cX6_init 27 = .ok (.newarray .int, 2) := by decide +kernel
theorem dX6_init_29 : decode cX6_init 29 = .ok (.putfield 21, 3) := by decide +kernel
theorem dX6_init_32 : decode cX6_init 32 = .ok (.aload_n 0, 1) := by decide +kernel
theorem dX6_init_33 : decode cX6_init 33 = .ok (.iconst 4, 1) := by decide +kernel
theorem dX6_init_34 : decode cX6_init 34 = .ok (.bipush 8, 2) := by decide +kernel
theorem dX6_init_36 : decode cX6_init 36 = .ok (.multianewarray 24 2, 4) := by decide +kernel
theorem dX6_init_40 : decode cX6_init 40 = .ok (.putfield 26, 3) := by decide +kernel
theorem dX6_init_43 : decode cX6_init 43 = .ok (.return_, 1) := by decide +kernel
theorem dX6_readText_0 : decode cX6_readText 0 = .ok (.aload_n 0, 1) := by decide +kernel
theorem dX6_readText_1 : decode cX6_readText 1 = .ok (.aload_n 1, 1) := by decide +kernel
theorem dX6_readText_2 : decode cX6_readText 2 = .ok (.iload_n 2, 1) := by decide +kernel
theorem dX6_readText_3 : decode cX6_readText 3 = .ok (.iconst 1, 1) := by decide +kernel
theorem dX6_readText_4 : decode cX6_readText 4 = .ok (.iadd, 1) := by decide +kernel
theorem dX6_readText_5 : decode cX6_readText 5 = .ok (.iaload, 1) := by decide +kernel
theorem dX6_readText_6 : decode cX6_readText 6 = .ok (.bipush 48, 2) := by decide +kernel
theorem dX6_readText_8 : decode cX6_readText 8 = .ok (.isub, 1) := by decide +kernel
theorem dX6_readText_9 : decode cX6_readText 9 = .ok (.putfield 29, 3) := by decide +kernel
theorem dX6_readText_12 : decode cX6_readText 12 = .ok (.aload_n 0, 1) := by decide +kernel
theorem dX6_readText_13 : decode cX6_readText 13 = .ok (.iload_n 3, 1) := by decide +kernel
theorem dX6_readText_14 : decode cX6_readText 14 = .ok (.iconst 2, 1) := by decide +kernel
theorem dX6_readText_15 : decode cX6_readText 15 = .ok (.isub, 1) := by decide +kernel
theorem dX6_readText_16 : decode cX6_readText 16 = .ok (.bipush 6, 2) := by decide +kernel
theorem dX6_readText_18 : decode cX6_readText 18 = .ok (.idiv, 1) := by decide +kernel
theorem dX6_readText_19 : decode cX6_readText 19 = .ok (.putfield 35, 3) := by decide +kernel
theorem dX6_readText_22 : decode cX6_readText 22 = .ok (.iconst 0, 1) := by decide +kernel
theorem dX6_readText_23 : decode cX6_readText 23 = .ok (.istore 4, 2) := by decide +kernel
theorem dX6_readText_25 : decode cX6_readText 25 = .ok (.iload 4, 2) := by decide +kernel
theorem dX6_readText_27 : decode cX6_readText 27 = .ok (.aload_n 0, 1) := by decide +kernel
theorem dX6_readText_28 : decode cX6_readText 28 = .ok (.getfield 35, 3) := by decide +kernel
theorem dX6_readText_31 : decode cX6_readText 31 = .ok (.if_icmp .ge 114, 3) := by decide +kernel
theorem dX6_readText_34 : decode cX6_readText 34 = .ok (.iload_n 2, 1) := by decide +kernel
theorem dX6_readText_35 : decode cX6_readText 35 = .ok (.iconst 2, 1) := by decide +kernel
theorem dX6_readText_36 : decode cX6_readText 36 = .ok (.iadd, 1) := by decide +kernel
theorem dX6_readText_37 : decode cX6_readText 37 = .ok (.iload 4, 2) := by decide +kernel
theorem dX6_readText_39 : decode cX6_readText 39 = .ok (.bipush 6, 2) := by decide +kernel
theorem dX6_readText_41 : decode cX6_readText 41 = .ok (.imul, 1) := by decide +kernel
theorem dX6_readText_42 : decode cX6_readText 42 = .ok (.iadd, 1) := by decide +kernel
theorem dX6_readText_43 : decode cX6_readText 43 = .ok (.istore 5, 2) := by decide +kernel
theorem dX6_readText_45 : decode cX6_readText 45 = .ok (.aload_n 0, 1) := by decide +kernel
theorem dX6_readText_46 : decode cX6_readText 46 = .ok (.getfield 9, 3) := by decide +kernel
theorem dX6_readText_49 : decode cX6_readText 49 = .ok (.iload 4, 2) := by decide +kernel
theorem dX6_readText_51 : decode cX6_readText 51 = .ok (.aload_n 1, 1) := by decide +kernel
theorem dX6_readText_52 : decode cX6_readText 52 = .ok (.iload 5, 2) := by decide +kernel
theorem dX6_readText_54 : decode cX6_readText 54 = .ok (.iconst 2, 1) := by decide +kernel
theorem dX6_readText_55 : decode cX6_readText 55 = .ok (.iadd, 1) := by decide +kernel
theorem dX6_readText_56 : decode cX6_readText 56 = .ok (.iaload, 1) := by decide +kernel
theorem dX6_readText_57 : decode cX6_readText 57 = .ok (.bipush 48, 2) := by decide +kernel
theorem dX6_readText_59 : decode cX6_readText 59 = .ok (.isub, 1) := by decide +kernel
theorem dX6_readText_60 : decode cX6_readText 60 = .ok (.iastore, 1) := by decide +kernel
theorem dX6_readText_61 : decode cX6_readText 61 = .ok (.aload_n 0, 1) := by decide +kernel
theorem dX6_readText_62 : decode cX6_readText 62 = .ok (.getfield 15, 3) := by decide +kernel
theorem dX6_readText_65 : decode cX6_readText 65 = .ok (.iload 4, 2) := by decide +kernel
theorem dX6_readText_67 : decode cX6_readText 67 = .ok (.aload_n 1, 1) := by decide +kernel
theorem dX6_readText_68 : decode cX6_readText 68 = .ok (.iload 5, 2) := by decide +kernel
theorem dX6_readText_70 : decode cX6_readText 70 = .ok (.iconst 3, 1) := by decide +kernel
theorem dX6_readText_71 : decode cX6_readText 71 = .ok (.iadd, 1) := by decide +kernel
theorem dX6_readText_72 : decode cX6_readText 72 = .ok (.iaload, 1) := by decide +kernel
theorem dX6_readText_73 : decode cX6_readText 73 = .ok (.bipush 48, 2) := by decide +kernel
theorem dX6_readText_75 : decode cX6_readText 75 = .ok (.isub, 1) := by decide +kernel
theorem dX6_readText_76 : decode cX6_readText 76 = .ok (.iastore, 1) := by decide +kernel
theorem dX6_readText_77 : decode cX6_readText 77 = .ok (.aload_n 0, 1) := by decide +kernel
theorem dX6_readText_78 : decode cX6_readText 78 = .ok (.getfield 18, 3) := by decide +kernel
theorem dX6_readText_81 : decode cX6_readText 81 = .ok (.iload 4, 2) := by decide +kernel
theorem dX6_readText_83 : decode cX6_readText 83 = .ok (.aload_n 1, 1) := by decide +kernel
theorem dX6_readText_84 : decode cX6_readText 84 = .ok (.iload 5, 2) := by decide +kernel
theorem dX6_readText_86 : decode cX6_readText 86 = .ok (.iconst 4, 1) := by decide +kernel
theorem dX6_readText_87 : decode cX6_readText 87 = .ok (.iadd, 1) := by decide +kernel
theorem dX6_readText_88 : decode cX6_readText 88 = .ok (.iaload, 1) := by decide +kernel
theorem dX6_readText_89 : decode cX6_readText 89 = .ok (.bipush 48, 2) := by decide +kernel
theorem dX6_readText_91 : decode cX6_readText 91 = .ok (.isub, 1) := by decide +kernel
theorem dX6_readText_92 : decode cX6_readText 92 = .ok (.iastore, 1) := by decide +kernel
theorem dX6_readText_93 : decode cX6_readText 93 = .ok (.aload_n 0, 1) := by decide +kernel
theorem dX6_readText_94 : decode cX6_readText 94 = .ok (.getfield 21, 3) := by decide +kernel
theorem dX6_readText_97 : decode cX6_readText 97 = .ok (.iload 4, 2) := by decide +kernel
theorem dX6_readText_99 : decode cX6_readText 99 = .ok (.aload_n 1, 1) := by decide +kernel
theorem dX6_readText_100 : decode cX6_readText 100 = .ok (.iload 5, 2) := by decide +kernel
theorem dX6_readText_102 : decode cX6_readText 102 = .ok (.iconst 5, 1) := by decide +kernel
theorem dX6_readText_103 : decode cX6_readText 103 = .ok (.iadd, 1) := by decide +kernel
theorem dX6_readText_104 : decode cX6_readText 104 = .ok (.iaload, 1) := by decide +kernel
theorem dX6_readText_105 : decode cX6_readText 105 = .ok (.bipush 48, 2) := by decide +kernel
theorem dX6_readText_107 : decode cX6_readText 107 = .ok (.isub, 1) := by decide +kernel
theorem dX6_readText_108 : decode cX6_readText 108 = .ok (.iastore, 1) := by decide +kernel
theorem dX6_readText_109 : decode cX6_readText 109 = .ok (.iconst 0, 1) := by decide +kernel
theorem dX6_readText_110 : decode cX6_readText 110 = .ok (.istore 6, 2) := by decide +kernel
theorem dX6_readText_112 : decode cX6_readText 112 = .ok (.iload 6, 2) := by decide +kernel
theorem dX6_readText_114 : decode cX6_readText 114 = .ok (.aload_n 0, 1) := by decide +kernel
theorem dX6_readText_115 : decode cX6_readText 115 = .ok (.getfield 29, 3) := by decide +kernel
theorem dX6_readText_118 : decode cX6_readText 118 = .ok (.if_icmp .ge 21, 3) := by decide +kernel
theorem dX6_readText_121 : decode cX6_readText 121 = .ok (.aload_n 0, 1) := by decide +kernel
theorem dX6_readText_122 : decode cX6_readText 122 = .ok (.getfield 26, 3) := by decide +kernel
theorem dX6_readText_125 : decode cX6_readText 125 = .ok (.iload 4, 2) := by decide +kernel
theorem dX6_readText_127 : decode cX6_readText 127 = .ok (.aaload, 1) := by decide +kernel
theorem dX6_readText_128 : decode cX6_readText 128 = .ok (.iload 6, 2) := by decide +kernel
theorem dX6_readText_130 : decode cX6_readText 130 = .ok (.bipush 9, 2) := by decide +kernel
theorem dX6_readText_132 : decode cX6_readText 132 = .ok (.iastore, 1) := by decide +kernel
theorem dX6_readText_133 : decode cX6_readText 133 = .ok (.iinc 6 1, 3) := by decide +kernel
theorem dX6_readText_136 : decode cX6_readText 136 = .ok (.goto (-24), 3) := by decide +kernel
theorem dX6_readText_139 : decode cX6_readText 139 = .ok (.iinc 4 1, 3) := by decide +kernel
theorem dX6_readText_142 : decode cX6_readText 142 = .ok (.goto (-117), 3) := by decide +kernel
theorem dX6_readText_145 : decode cX6_readText 145 = .ok (.aload_n 0, 1) := by decide +kernel
theorem dX6_readText_146 : decode cX6_readText 146 = .ok (.iconst 0, 1) := by decide +kernel
theorem dX6_readText_147 : decode cX6_readText 147 = .ok (.putfield 38, 3) := by decide +kernel
theorem dX6_readText_150 : decode cX6_readText 150 = .ok (.aload_n 0, 1) := by decide +kernel
theorem dX6_readText_151 : decode cX6_readText 151 = .ok (.iconst 0, 1) := by decide +kernel
theorem dX6_readText_152 : decode cX6_readText 152 = .ok (.putfield 41, 3) := by decide +kernel
theorem dX6_readText_155 : decode cX6_readText 155 = .ok (.return_, 1) := by decide +kernel
theorem dX6_become_0 : decode cX6_become 0 = .ok (.aload_n 0, 1) := by decide +kernel
theorem dX6_become_1 : decode cX6_become 1 = .ok (.aload_n 1, 1) := by decide +kernel
theorem dX6_become_2 : decode cX6_become 2 = .ok (.getfield 29, 3) := by decide +kernel
theorem dX6_become_5 : decode cX6_become 5 = .ok (.putfield 29, 3) := by decide +kernel
theorem dX6_become_8 : decode cX6_become 8 = .ok (.aload_n 0, 1) := by decide +kernel
theorem dX6_become_9 : decode cX6_become 9 = .ok (.aload_n 1, 1) := by decide +kernel
theorem dX6_become_10 : decode cX6_become 10 = .ok (.getfield 35, 3) := by decide +kernel
theorem dX6_become_13 : decode cX6_become 13 = .ok (.putfield 35, 3) := by decide +kernel
theorem dX6_become_16 : decode cX6_become 16 = .ok (.aload_n 0, 1) := by decide +kernel
theorem dX6_become_17 : decode cX6_become 17 = .ok (.aload_n 1, 1) := by decide +kernel
theorem dX6_become_18 : decode cX6_become 18 = .ok (.getfield 38, 3) := by decide +kernel
theorem dX6_become_21 : decode cX6_become 21 = .ok (.putfield 38, 3) := by decide +kernel
theorem dX6_become_24 : decode cX6_become 24 = .ok (.aload_n 0, 1) := by decide +kernel
theorem dX6_become_25 : decode cX6_become 25 = .ok (.aload_n 1, 1) := by decide +kernel
theorem dX6_become_26 : decode cX6_become 26 = .ok (.getfield 41, 3) := by decide +kernel
theorem dX6_become_29 : decode cX6_become 29 = .ok (.putfield 41, 3) := by decide +kernel
theorem dX6_become_32 : decode cX6_become 32 = .ok (.aload_n 1, 1) := by decide +kernel
theorem dX6_become_33 : decode cX6_become 33 = .ok (.getfield 9, 3) := by decide +kernel
theorem dX6_become_36 : decode cX6_become 36 = .ok (.iconst 0, 1) := by decide +kernel
theorem dX6_become_37 : decode cX6_become 37 = .ok (.aload_n 0, 1) := by decide +kernel
theorem dX6_become_38 : decode cX6_become 38 = .ok (.getfield 9, 3) := by decide +kernel
theorem dX6_become_41 : decode cX6_become 41 = .ok (.iconst 0, 1) := by decide +kernel
theorem dX6_become_42 : decode cX6_become 42 = .ok (.iconst 4, 1) := by decide +kernel
theorem dX6_become_43 : decode cX6_become 43 = .ok (.invokestatic 45, 3) := by decide +kernel
theorem dX6_become_46 : decode cX6_become 46 = .ok (.aload_n 1, 1) := by decide +kernel
theorem dX6_become_47 : decode cX6_become 47 = .ok (.getfield 15, 3) := by decide +kernel
theorem dX6_become_50 : decode cX6_become 50 = .ok (.iconst 0, 1) := by decide +kernel
theorem dX6_become_51 : decode cX6_become 51 = .ok (.aload_n 0, 1) := by decide +kernel
theorem dX6_become_52 : decode cX6_become 52 = .ok (.getfield 15, 3) := by decide +kernel
theorem dX6_become_55 : decode cX6_become 55 = .ok (.iconst 0, 1) := by decide +kernel
theorem dX6_become_56 : decode cX6_become 56 = .ok (.iconst 4, 1) := by decide +kernel
theorem dX6_become_57 : decode cX6_become 57 = .ok (.invokestatic 45, 3) := by decide +kernel
theorem dX6_become_60 : decode cX6_become 60 = .ok (.aload_n 1, 1) := by decide +kernel
theorem dX6_become_61 : decode cX6_become 61 = .ok (.getfield 18, 3) := by decide +kernel
theorem dX6_become_64 : decode cX6_become 64 = .ok (.iconst 0, 1) := by decide +kernel
theorem dX6_become_65 : decode cX6_become 65 = .ok (.aload_n 0, 1) := by decide +kernel
theorem dX6_become_66 : decode cX6_become 66 = .ok (.getfield 18, 3) := by decide +kernel
theorem dX6_become_69 : decode cX6_become 69 = .ok (.iconst 0, 1) := by decide +kernel
theorem dX6_become_70 : decode cX6_become 70 = .ok (.iconst 4, 1) := by decide +kernel
theorem dX6_become_71 : decode cX6_become 71 = .ok (.invokestatic 45, 3) := by decide +kernel
theorem dX6_become_74 : decode cX6_become 74 = .ok (.aload_n 1, 1) := by decide +kernel
theorem dX6_become_75 : decode cX6_become 75 = .ok (.getfield 21, 3) := by decide +kernel
theorem dX6_become_78 : decode cX6_become 78 = .ok (.iconst 0, 1) := by decide +kernel
theorem dX6_become_79 : decode cX6_become 79 = .ok (.aload_n 0, 1) := by decide +kernel
theorem dX6_become_80 : decode cX6_become 80 = .ok (.getfield 21, 3) := by decide +kernel
theorem dX6_become_83 : decode cX6_become 83 = .ok (.iconst 0, 1) := by decide +kernel
theorem dX6_become_84 : decode cX6_become 84 = .ok (.iconst 4, 1) := by decide +kernel
theorem dX6_become_85 : decode cX6_become 85 = .ok (.invokestatic 45, 3) := by decide +kernel
theorem dX6_become_88 : decode cX6_become 88 = .ok (.iconst 0, 1) := by decide +kernel
theorem dX6_become_89 : decode cX6_become 89 = .ok (.istore_n 2, 1) := by decide +kernel
theorem dX6_become_90 : decode cX6_become 90 = .ok (.iload_n 2, 1) := by decide +kernel
theorem dX6_become_91 : decode cX6_become 91 = .ok (.iconst 4, 1) := by decide +kernel
theorem dX6_become_92 : decode cX6_become 92 = .ok (.if_icmp .ge 28, 3) := by decide +kernel
theorem dX6_become_95 : decode cX6_become 95 = .ok (.aload_n 1, 1) := by decide +kernel
theorem dX6_become_96 : decode cX6_become 96 = .ok (.getfield 26, 3) := by decide +kernel
theorem dX6_become_99 : decode cX6_become 99 = .ok (.iload_n 2, 1) := by decide +kernel
theorem dX6_become_100 : decode cX6_become 100 = .ok (.aaload, 1) := by decide +kernel
theorem dX6_become_101 : decode cX6_become 101 = .ok (.iconst 0, 1) := by decide +kernel
theorem dX6_become_102 : decode cX6_become 102 = .ok (.aload_n 0, 1) := by decide +kernel
theorem dX6_become_103 : decode cX6_become 103 = .ok (.getfield 26, 3) := by decide +kernel
theorem dX6_become_106 : decode cX6_become 106 = .ok (.iload_n 2, 1) := by decide +kernel
theorem dX6_become_107 : decode cX6_become 107 = .ok (.aaload, 1) := by decide +kernel
theorem dX6_become_108 : decode cX6_become 108 = .ok (.iconst 0, 1) := by decide +kernel
theorem dX6_become_109 : decode cX6_become 109 = .ok (.bipush 8, 2) := by decide +kernel
theorem dX6_become_111 : decode cX6_become 111 = .ok (.invokestatic 45, 3) := by decide +kernel
theorem dX6_become_114 : decode cX6_become 114 = .ok (.iinc 2 1, 3) := by decide +kernel
theorem dX6_become_117 : decode cX6_become 117 = .ok (.goto (-27), 3) := by decide +kernel
theorem dX6_become_120 : decode cX6_become 120 = .ok (.return_, 1) := by decide +kernel
theorem dX6_isTold_0 : decode cX6_isTold 0 = .ok (.aload_n 0, 1) := by decide +kernel
theorem dX6_isTold_1 : decode cX6_isTold 1 = .ok (.getfield 35, 3) := by decide +kernel
theorem dX6_isTold_4 : decode cX6_isTold 4 = .ok (.ifCond .le 7, 3) := by decide +kernel
theorem dX6_isTold_7 : decode cX6_isTold 7 = .ok (.iconst 1, 1) := by decide +kernel
theorem dX6_isTold_8 : decode cX6_isTold 8 = .ok (.goto 4, 3) := by decide +kernel
theorem dX6_isTold_11 : decode cX6_isTold 11 = .ok (.iconst 0, 1) := by decide +kernel
theorem dX6_isTold_12 : decode cX6_isTold 12 = .ok (.ireturn, 1) := by decide +kernel
theorem dX6_hasSort_0 : decode cX6_hasSort 0 = .ok (.iload_n 1, 1) := by decide +kernel
theorem dX6_hasSort_1 : decode cX6_hasSort 1 = .ok (.ifCond .lt 15, 3) := by decide +kernel
theorem dX6_hasSort_4 : decode cX6_hasSort 4 = .ok (.iload_n 1, 1) := by decide +kernel
theorem dX6_hasSort_5 : decode cX6_hasSort 5 = .ok (.aload_n 0, 1) := by decide +kernel
theorem dX6_hasSort_6 : decode cX6_hasSort 6 = .ok (.getfield 35, 3) := by decide +kernel
theorem dX6_hasSort_9 : decode cX6_hasSort 9 = .ok (.if_icmp .ge 7, 3) := by decide +kernel
theorem dX6_hasSort_12 : decode cX6_hasSort 12 = .ok (.iconst 1, 1) := by decide +kernel
theorem dX6_hasSort_13 : decode cX6_hasSort 13 = .ok (.goto 4, 3) := by decide +kernel
theorem dX6_hasSort_16 : decode cX6_hasSort 16 = .ok (.iconst 0, 1) := by decide +kernel
theorem dX6_hasSort_17 : decode cX6_hasSort 17 = .ok (.ireturn, 1) := by decide +kernel
theorem dX6_hasPlace_0 : decode cX6_hasPlace 0 = .ok (.aload_n 0, 1) := by decide +kernel
theorem dX6_hasPlace_1 : decode cX6_hasPlace 1 = .ok (.iload_n 1, 1) := by decide +kernel
theorem dX6_hasPlace_2 : decode cX6_hasPlace 2 = .ok (.invokevirtual 51, 3) := by decide +kernel
theorem dX6_hasPlace_5 : decode cX6_hasPlace 5 = .ok (.ifCond .eq 19, 3) := by decide +kernel
theorem dX6_hasPlace_8 : decode cX6_hasPlace 8 = .ok (.iload_n 2, 1) := by decide +kernel
theorem dX6_hasPlace_9 : decode cX6_hasPlace 9 = .ok (.ifCond .lt 15, 3) := by decide +kernel
theorem dX6_hasPlace_12 : decode cX6_hasPlace 12 = .ok (.iload_n 2, 1) := by decide +kernel
theorem dX6_hasPlace_13 : decode cX6_hasPlace 13 = .ok (.aload_n 0, 1) := by decide +kernel
theorem dX6_hasPlace_14 : decode cX6_hasPlace 14 = .ok (.getfield 29, 3) := by decide +kernel
theorem dX6_hasPlace_17 : decode cX6_hasPlace 17 = .ok (.if_icmp .ge 7, 3) := by decide +kernel
theorem dX6_hasPlace_20 : decode cX6_hasPlace 20 = .ok (.iconst 1, 1) := by decide +kernel
theorem dX6_hasPlace_21 : decode cX6_hasPlace 21 = .ok (.goto 4, 3) := by decide +kernel
theorem dX6_hasPlace_24 : decode cX6_hasPlace 24 = .ok (.iconst 0, 1) := by decide +kernel
theorem dX6_hasPlace_25 : decode cX6_hasPlace 25 = .ok (.ireturn, 1) := by decide +kernel
theorem dX6_freshAt_0 : decode cX6_freshAt 0 = .ok (.aload_n 0, 1) := by decide +kernel
theorem dX6_freshAt_1 : decode cX6_freshAt 1 = .ok (.getfield 18, 3) := by decide +kernel
theorem dX6_freshAt_4 : decode cX6_freshAt 4 = .ok (.iload_n 1, 1) := by decide +kernel
theorem dX6_freshAt_5 : decode cX6_freshAt 5 = .ok (.iaload, 1) := by decide +kernel
theorem dX6_freshAt_6 : decode cX6_freshAt 6 = .ok (.iload_n 2, 1) := by decide +kernel
theorem dX6_freshAt_7 : decode cX6_freshAt 7 = .ok (.aload_n 0, 1) := by decide +kernel
theorem dX6_freshAt_8 : decode cX6_freshAt 8 = .ok (.getfield 21, 3) := by decide +kernel
theorem dX6_freshAt_11 : decode cX6_freshAt 11 = .ok (.iload_n 1, 1) := by decide +kernel
theorem dX6_freshAt_12 : decode cX6_freshAt 12 = .ok (.iaload, 1) := by decide +kernel
theorem dX6_freshAt_13 : decode cX6_freshAt 13 = .ok (.imul, 1) := by decide +kernel
theorem dX6_freshAt_14 : decode cX6_freshAt 14 = .ok (.isub, 1) := by decide +kernel
theorem dX6_freshAt_15 : decode cX6_freshAt 15 = .ok (.istore_n 3, 1) := by decide +kernel
theorem dX6_freshAt_16 : decode cX6_freshAt 16 = .ok (.iload_n 3, 1) := by decide +kernel
theorem dX6_freshAt_17 : decode cX6_freshAt 17 = .ok (.ifCond .le 7, 3) := by decide +kernel
theorem dX6_freshAt_20 : decode cX6_freshAt 20 = .ok (.iload_n 3, 1) := by decide +kernel
theorem dX6_freshAt_21 : decode cX6_freshAt 21 = .ok (.goto 4, 3) := by decide +kernel
theorem dX6_freshAt_24 : decode cX6_freshAt 24 = .ok (.iconst 0, 1) := by decide +kernel
theorem dX6_freshAt_25 : decode cX6_freshAt 25 = .ok (.ireturn, 1) := by decide +kernel
theorem dX6_allFish_0 : decode cX6_allFish 0 = .ok (.iconst 0, 1) := by decide +kernel
theorem dX6_allFish_1 : decode cX6_allFish 1 = .ok (.istore_n 1, 1) := by decide +kernel
theorem dX6_allFish_2 : decode cX6_allFish 2 = .ok (.iconst 0, 1) := by decide +kernel
theorem dX6_allFish_3 : decode cX6_allFish 3 = .ok (.istore_n 2, 1) := by decide +kernel
theorem dX6_allFish_4 : decode cX6_allFish 4 = .ok (.iload_n 2, 1) := by decide +kernel
theorem dX6_allFish_5 : decode cX6_allFish 5 = .ok (.aload_n 0, 1) := by decide +kernel
theorem dX6_allFish_6 : decode cX6_allFish 6 = .ok (.getfield 35, 3) := by decide +kernel
theorem dX6_allFish_9 : decode cX6_allFish 9 = .ok (.if_icmp .ge 18, 3) := by decide +kernel
theorem dX6_allFish_12 : decode cX6_allFish 12 = .ok (.iload_n 1, 1) := by decide +kernel
theorem dX6_allFish_13 : decode cX6_allFish 13 = .ok (.aload_n 0, 1) := by decide +kernel
theorem dX6_allFish_14 : decode cX6_allFish 14 = .ok (.getfield 9, 3) := by decide +kernel
theorem dX6_allFish_17 : decode cX6_allFish 17 = .ok (.iload_n 2, 1) := by decide +kernel
theorem dX6_allFish_18 : decode cX6_allFish 18 = .ok (.iaload, 1) := by decide +kernel
theorem dX6_allFish_19 : decode cX6_allFish 19 = .ok (.iadd, 1) := by decide +kernel
theorem dX6_allFish_20 : decode cX6_allFish 20 = .ok (.istore_n 1, 1) := by decide +kernel
theorem dX6_allFish_21 : decode cX6_allFish 21 = .ok (.iinc 2 1, 3) := by decide +kernel
theorem dX6_allFish_24 : decode cX6_allFish 24 = .ok (.goto (-20), 3) := by decide +kernel
theorem dX6_allFish_27 : decode cX6_allFish 27 = .ok (.iload_n 1, 1) := by decide +kernel
theorem dX6_allFish_28 : decode cX6_allFish 28 = .ok (.ireturn, 1) := by decide +kernel
theorem dX6_costOfAll_0 : decode cX6_costOfAll 0 = .ok (.iconst 0, 1) := by decide +kernel
theorem dX6_costOfAll_1 : decode cX6_costOfAll 1 = .ok (.istore_n 1, 1) := by decide +kernel
theorem dX6_costOfAll_2 : decode cX6_costOfAll 2 = .ok (.iconst 0, 1) := by decide +kernel
theorem dX6_costOfAll_3 : decode cX6_costOfAll 3 = .ok (.istore_n 2, 1) := by decide +kernel
theorem dX6_costOfAll_4 : decode cX6_costOfAll 4 = .ok (.iload_n 2, 1) := by decide +kernel
theorem dX6_costOfAll_5 : decode cX6_costOfAll 5 = .ok (.aload_n 0, 1) := by decide +kernel
theorem dX6_costOfAll_6 : decode cX6_costOfAll 6 = .ok (.getfield 35, 3) := by decide +kernel
theorem dX6_costOfAll_9 : decode cX6_costOfAll 9 = .ok (.if_icmp .ge 25, 3) := by decide +kernel
theorem dX6_costOfAll_12 : decode cX6_costOfAll 12 = .ok (.iload_n 1, 1) := by decide +kernel
theorem dX6_costOfAll_13 : decode cX6_costOfAll 13 = .ok (.aload_n 0, 1) := by decide +kernel
theorem dX6_costOfAll_14 : decode cX6_costOfAll 14 = .ok (.getfield 9, 3) := by decide +kernel
theorem dX6_costOfAll_17 : decode cX6_costOfAll 17 = .ok (.iload_n 2, 1) := by decide +kernel
theorem dX6_costOfAll_18 : decode cX6_costOfAll 18 = .ok (.iaload, 1) := by decide +kernel
theorem dX6_costOfAll_19 : decode cX6_costOfAll 19 = .ok (.aload_n 0, 1) := by decide +kernel
theorem dX6_costOfAll_20 : decode cX6_costOfAll 20 = .ok (.getfield 15, 3) := by decide +kernel
theorem dX6_costOfAll_23 : decode cX6_costOfAll 23 = .ok (.iload_n 2, 1) := by decide +kernel
theorem dX6_costOfAll_24 : decode cX6_costOfAll 24 = .ok (.iaload, 1) := by decide +kernel
theorem dX6_costOfAll_25 : decode cX6_costOfAll 25 = .ok (.imul, 1) := by decide +kernel
theorem dX6_costOfAll_26 : decode cX6_costOfAll 26 = .ok (.iadd, 1) := by decide +kernel
theorem dX6_costOfAll_27 : decode cX6_costOfAll 27 = .ok (.istore_n 1, 1) := by decide +kernel
theorem dX6_costOfAll_28 : decode cX6_costOfAll 28 = .ok (.iinc 2 1, 3) := by decide +kernel
theorem dX6_costOfAll_31 : decode cX6_costOfAll 31 = .ok (.goto (-27), 3) := by decide +kernel
theorem dX6_costOfAll_34 : decode cX6_costOfAll 34 = .ok (.iload_n 1, 1) := by decide +kernel
theorem dX6_costOfAll_35 : decode cX6_costOfAll 35 = .ok (.ireturn, 1) := by decide +kernel
theorem dX6_isCheaperNext_0 : decode cX6_isCheaperNext 0 = .ok (.iload_n 2, 1) := by decide +kernel
theorem dX6_isCheaperNext_1 : decode cX6_isCheaperNext 1 = .ok (.iconst 1, 1) := by decide +kernel
theorem dX6_isCheaperNext_2 : decode cX6_isCheaperNext 2 = .ok (.iadd, 1) := by decide +kernel
theorem dX6_isCheaperNext_3 : decode cX6_isCheaperNext 3 = .ok (.aload_n 0, 1) := by decide +kernel
theorem dX6_isCheaperNext_4 : decode cX6_isCheaperNext 4 = .ok (.getfield 29, 3) := by decide +kernel
theorem dX6_isCheaperNext_7 : decode cX6_isCheaperNext 7 = .ok (.if_icmp .ge 28, 3) := by decide +kernel
theorem dX6_isCheaperNext_10 : decode cX6_isCheaperNext 10 = .ok (.aload_n 0, 1) := by decide +kernel
theorem dX6_isCheaperNext_11 : decode cX6_isCheaperNext 11 = .ok (.getfield 26, 3) := by decide +kernel
theorem dX6_isCheaperNext_14 : decode cX6_isCheaperNext 14 = .ok (.iload_n 1, 1) := by decide +kernel
theorem dX6_isCheaperNext_15 : decode cX6_isCheaperNext 15 = .ok (.aaload, 1) := by decide +kernel
theorem dX6_isCheaperNext_16 : decode cX6_isCheaperNext 16 = .ok (.iload_n 2, 1) := by decide +kernel
theorem dX6_isCheaperNext_17 : decode cX6_isCheaperNext 17 = .ok (.iconst 1, 1) := by decide +kernel
theorem dX6_isCheaperNext_18 : decode cX6_isCheaperNext 18 = .ok (.iadd, 1) := by decide +kernel
theorem dX6_isCheaperNext_19 : decode cX6_isCheaperNext 19 = .ok (.iaload, 1) := by decide +kernel
theorem dX6_isCheaperNext_20 : decode cX6_isCheaperNext 20 = .ok (.aload_n 0, 1) := by decide +kernel
theorem dX6_isCheaperNext_21 : decode cX6_isCheaperNext 21 = .ok (.getfield 26, 3) := by decide +kernel
theorem dX6_isCheaperNext_24 : decode cX6_isCheaperNext 24 = .ok (.iload_n 1, 1) := by decide +kernel
theorem dX6_isCheaperNext_25 : decode cX6_isCheaperNext 25 = .ok (.aaload, 1) := by decide +kernel
theorem dX6_isCheaperNext_26 : decode cX6_isCheaperNext 26 = .ok (.iload_n 2, 1) := by decide +kernel
theorem dX6_isCheaperNext_27 : decode cX6_isCheaperNext 27 = .ok (.iaload, 1) := by decide +kernel
theorem dX6_isCheaperNext_28 : decode cX6_isCheaperNext 28 = .ok (.if_icmp .ge 7, 3) := by decide +kernel
theorem dX6_isCheaperNext_31 : decode cX6_isCheaperNext 31 = .ok (.iconst 1, 1) := by decide +kernel
theorem dX6_isCheaperNext_32 : decode cX6_isCheaperNext 32 = .ok (.goto 4, 3) := by decide +kernel
theorem dX6_isCheaperNext_35 : decode cX6_isCheaperNext 35 = .ok (.iconst 0, 1) := by decide +kernel
theorem dX6_isCheaperNext_36 : decode cX6_isCheaperNext 36 = .ok (.ireturn, 1) := by decide +kernel
theorem dX6_takeOffFrom_0 : decode cX6_takeOffFrom 0 = .ok (.iconst 0, 1) := by decide +kernel
theorem dX6_takeOffFrom_1 : decode cX6_takeOffFrom 1 = .ok (.istore 4, 2) := by decide +kernel
theorem dX6_takeOffFrom_3 : decode cX6_takeOffFrom 3 = .ok (.iload 4, 2) := by decide +kernel
theorem dX6_takeOffFrom_5 : decode cX6_takeOffFrom 5 = .ok (.aload_n 0, 1) := by decide +kernel
theorem dX6_takeOffFrom_6 : decode cX6_takeOffFrom 6 = .ok (.getfield 35, 3) := by decide +kernel
theorem dX6_takeOffFrom_9 : decode cX6_takeOffFrom 9 = .ok (.if_icmp .ge 68, 3) := by decide +kernel
theorem dX6_takeOffFrom_12 : decode cX6_takeOffFrom 12 = .ok (.iconst 0, 1) := by decide +kernel
theorem dX6_takeOffFrom_13 : decode cX6_takeOffFrom 13 = .ok (.istore 5, 2) := by decide +kernel
theorem dX6_takeOffFrom_15 : decode cX6_takeOffFrom 15 = .ok (.iload 5, 2) := by decide +kernel
theorem dX6_takeOffFrom_17 : decode cX6_takeOffFrom 17 = .ok (.aload_n 0, 1) := by decide +kernel
theorem dX6_takeOffFrom_18 : decode cX6_takeOffFrom 18 = .ok (.getfield 29, 3) := by decide +kernel
theorem dX6_takeOffFrom_21 : decode cX6_takeOffFrom 21 = .ok (.if_icmp .ge 50, 3) := by decide +kernel
theorem dX6_takeOffFrom_24 : decode cX6_takeOffFrom 24 = .ok (.aload_n 1, 1) := by decide +kernel
theorem dX6_takeOffFrom_25 : decode cX6_takeOffFrom 25 = .ok (.getfield 26, 3) := by decide +kernel
theorem dX6_takeOffFrom_28 : decode cX6_takeOffFrom 28 = .ok (.iload 4, 2) := by decide +kernel
theorem dX6_takeOffFrom_30 : decode cX6_takeOffFrom 30 = .ok (.aaload, 1) := by decide +kernel
theorem dX6_takeOffFrom_31 : decode cX6_takeOffFrom 31 = .ok (.iload 5, 2) := by decide +kernel
theorem dX6_takeOffFrom_33 : decode cX6_takeOffFrom 33 = .ok (.iaload, 1) := by decide +kernel
theorem dX6_takeOffFrom_34 : decode cX6_takeOffFrom 34 = .ok (.istore 6, 2) := by decide +kernel
theorem dX6_takeOffFrom_36 : decode cX6_takeOffFrom 36 = .ok (.aload_n 0, 1) := by decide +kernel
theorem dX6_takeOffFrom_37 : decode cX6_takeOffFrom 37 = .ok (.getfield 26, 3) := by decide +kernel
theorem dX6_takeOffFrom_40 : decode cX6_takeOffFrom 40 = .ok (.iload 4, 2) := by decide +kernel
theorem dX6_takeOffFrom_42 : decode cX6_takeOffFrom 42 = .ok (.aaload, 1) := by decide +kernel
theorem dX6_takeOffFrom_43 : decode cX6_takeOffFrom 43 = .ok (.iload 5, 2) := by decide +kernel
theorem dX6_takeOffFrom_45 : decode cX6_takeOffFrom 45 = .ok (.iload 5, 2) := by decide +kernel
theorem dX6_takeOffFrom_47 : decode cX6_takeOffFrom 47 = .ok (.iload_n 2, 1) := by decide +kernel
theorem dX6_takeOffFrom_48 : decode cX6_takeOffFrom 48 = .ok (.if_icmp .ge 8, 3) := by decide +kernel
theorem dX6_takeOffFrom_51 : decode cX6_takeOffFrom 51 = .ok (.iload 6, 2) := by decide +kernel
theorem dX6_takeOffFrom_53 : decode cX6_takeOffFrom 53 = .ok (.goto 11, 3) := by decide +kernel
theorem dX6_takeOffFrom_56 : decode cX6_takeOffFrom 56 = .ok (.iconst 0, 1) := by decide +kernel
theorem dX6_takeOffFrom_57 : decode cX6_takeOffFrom 57 = .ok (.iload 6, 2) := by decide +kernel
theorem dX6_takeOffFrom_59 : decode cX6_takeOffFrom 59 = .ok (.iload_n 3, 1) := by decide +kernel
theorem dX6_takeOffFrom_60 : decode cX6_takeOffFrom 60 = .ok (.isub, 1) := by decide +kernel
theorem dX6_takeOffFrom_61 : decode cX6_takeOffFrom 61 = .ok (.invokestatic 55, 3) := by decide +kernel
theorem dX6_takeOffFrom_64 : decode cX6_takeOffFrom 64 = .ok (.iastore, 1) := by decide +kernel
theorem dX6_takeOffFrom_65 : decode cX6_takeOffFrom 65 = .ok (.iinc 5 1, 3) := by decide +kernel
theorem dX6_takeOffFrom_68 : decode cX6_takeOffFrom 68 = .ok (.goto (-53), 3) := by decide +kernel
theorem dX6_takeOffFrom_71 : decode cX6_takeOffFrom 71 = .ok (.iinc 4 1, 3) := by decide +kernel
theorem dX6_takeOffFrom_74 : decode cX6_takeOffFrom 74 = .ok (.goto (-71), 3) := by decide +kernel
theorem dX6_takeOffFrom_77 : decode cX6_takeOffFrom 77 = .ok (.return_, 1) := by decide +kernel
theorem dX7_firstFault_0 : decode cX7_firstFault 0 = .ok (.iconst 0, 1) := by decide +kernel
theorem dX7_firstFault_1 : decode cX7_firstFault 1 = .ok (.istore_n 3, 1) := by decide +kernel
theorem dX7_firstFault_2 : decode cX7_firstFault 2 = .ok (.iload_n 3, 1) := by decide +kernel
theorem dX7_firstFault_3 : decode cX7_firstFault 3 = .ok (.iload_n 2, 1) := by decide +kernel
theorem dX7_firstFault_4 : decode cX7_firstFault 4 = .ok (.if_icmp .ge 23, 3) := by decide +kernel
theorem dX7_firstFault_7 : decode cX7_firstFault 7 = .ok (.aload_n 0, 1) := by decide +kernel
theorem dX7_firstFault_8 : decode cX7_firstFault 8 = .ok (.iload_n 1, 1) := by decide +kernel
theorem dX7_firstFault_9 : decode cX7_firstFault 9 = .ok (.iload_n 3, 1) := by decide +kernel
theorem dX7_firstFault_10 : decode cX7_firstFault 10 = .ok (.iadd, 1) := by decide +kernel
theorem dX7_firstFault_11 : decode cX7_firstFault 11 = .ok (.iaload, 1) := by decide +kernel
theorem dX7_firstFault_12 : decode cX7_firstFault 12 = .ok (.iload_n 3, 1) := by decide +kernel
theorem dX7_firstFault_13 : decode cX7_firstFault 13 = .ok (.invokestatic 9, 3) := by decide +kernel
theorem dX7_firstFault_16 : decode cX7_firstFault 16 = .ok (.ifCond .ne 5, 3) := by decide +kernel
theorem dX7_firstFault_19 : decode cX7_firstFault 19 = .ok (.iload_n 3, 1) := by decide +kernel
theorem dX7_firstFault_20 : decode cX7_firstFault 20 = .ok (.ireturn, 1) := by decide +kernel
theorem dX7_firstFault_21 : decode cX7_firstFault 21 = .ok (.iinc 3 1, 3) := by decide +kernel
theorem dX7_firstFault_24 : decode cX7_firstFault 24 = .ok (.goto (-22), 3) := by decide +kernel
theorem dX7_firstFault_27 : decode cX7_firstFault 27 = .ok (.iload_n 2, 1) := by decide +kernel
theorem dX7_firstFault_28 : decode cX7_firstFault 28 = .ok (.iconst 2, 1) := by decide +kernel
theorem dX7_firstFault_29 : decode cX7_firstFault 29 = .ok (.if_icmp .le 16, 3) := by decide +kernel
theorem dX7_firstFault_32 : decode cX7_firstFault 32 = .ok (.iload_n 2, 1) := by decide +kernel
theorem dX7_firstFault_33 : decode cX7_firstFault 33 = .ok (.iconst 2, 1) := by decide +kernel
theorem dX7_firstFault_34 : decode cX7_firstFault 34 = .ok (.isub, 1) := by decide +kernel
theorem dX7_firstFault_35 : decode cX7_firstFault 35 = .ok (.bipush 6, 2) := by decide +kernel
theorem dX7_firstFault_37 : decode cX7_firstFault 37 = .ok (.irem, 1) := by decide +kernel
theorem dX7_firstFault_38 : decode cX7_firstFault 38 = .ok (.ifCond .ne 7, 3) := by decide +kernel
theorem dX7_firstFault_41 : decode cX7_firstFault 41 = .ok (.iconst 1, 1) := by decide +kernel
theorem dX7_firstFault_42 : decode cX7_firstFault 42 = .ok (.goto 4, 3) := by decide +kernel
theorem dX7_firstFault_45 : decode cX7_firstFault 45 = .ok (.iconst 0, 1) := by decide +kernel
theorem dX7_firstFault_46 : decode cX7_firstFault 46 = .ok (.istore_n 3, 1) := by decide +kernel
theorem dX7_firstFault_47 : decode cX7_firstFault 47 = .ok (.iload_n 3, 1) := by decide +kernel
theorem dX7_firstFault_48 : decode cX7_firstFault 48 = .ok (.ifCond .eq 8, 3) := by decide +kernel
theorem dX7_firstFault_51 : decode cX7_firstFault 51 = .ok (.bipush (-9), 2) := by decide +kernel
theorem dX7_firstFault_53 : decode cX7_firstFault 53 = .ok (.goto 4, 3) := by decide +kernel
theorem dX7_firstFault_56 : decode cX7_firstFault 56 = .ok (.iload_n 2, 1) := by decide +kernel
theorem dX7_firstFault_57 : decode cX7_firstFault 57 = .ok (.ireturn, 1) := by decide +kernel
theorem dX7_goesOn_0 : decode cX7_goesOn 0 = .ok (.iload_n 1, 1) := by decide +kernel
theorem dX7_goesOn_1 : decode cX7_goesOn 1 = .ok (.ifCond .ne 15, 3) := by decide +kernel
theorem dX7_goesOn_4 : decode cX7_goesOn 4 = .ok (.iload_n 0, 1) := by decide +kernel
theorem dX7_goesOn_5 : decode cX7_goesOn 5 = .ok (.bipush 104, 2) := by decide +kernel
theorem dX7_goesOn_7 : decode cX7_goesOn 7 = .ok (.if_icmp .ne 7, 3) := by decide +kernel
theorem dX7_goesOn_10 : decode cX7_goesOn 10 = .ok (.iconst 1, 1) := by decide +kernel
theorem dX7_goesOn_11 : decode cX7_goesOn 11 = .ok (.goto 4, 3) := by decide +kernel
theorem dX7_goesOn_14 : decode cX7_goesOn 14 = .ok (.iconst 0, 1) := by decide +kernel
theorem dX7_goesOn_15 : decode cX7_goesOn 15 = .ok (.ireturn, 1) := by decide +kernel
theorem dX7_goesOn_16 : decode cX7_goesOn 16 = .ok (.iload_n 1, 1) := by decide +kernel
theorem dX7_goesOn_17 : decode cX7_goesOn 17 = .ok (.iconst 1, 1) := by decide +kernel
theorem dX7_goesOn_18 : decode cX7_goesOn 18 = .ok (.if_icmp .ne 12, 3) := by decide +kernel
theorem dX7_goesOn_21 : decode cX7_goesOn 21 = .ok (.iload_n 0, 1) := by decide +kernel
theorem dX7_goesOn_22 : decode cX7_goesOn 22 = .ok (.bipush 49, 2) := by decide +kernel
theorem dX7_goesOn_24 : decode cX7_goesOn 24 = .ok (.bipush 56, 2) := by decide +kernel
theorem dX7_goesOn_26 : decode cX7_goesOn 26 = .ok (.invokestatic 15, 3) := by decide +kernel
theorem dX7_goesOn_29 : decode cX7_goesOn 29 = .ok (.ireturn, 1) := by decide +kernel
theorem dX7_goesOn_30 : decode cX7_goesOn 30 = .ok (.iload_n 1, 1) := by decide +kernel
theorem dX7_goesOn_31 : decode cX7_goesOn 31 = .ok (.bipush 26, 2) := by decide +kernel
theorem dX7_goesOn_33 : decode cX7_goesOn 33 = .ok (.if_icmp .lt 5, 3) := by decide +kernel
theorem dX7_goesOn_36 : decode cX7_goesOn 36 = .ok (.iconst 0, 1) := by decide +kernel
theorem dX7_goesOn_37 : decode cX7_goesOn 37 = .ok (.ireturn, 1) := by decide +kernel
theorem dX7_goesOn_38 : decode cX7_goesOn 38 = .ok (.iload_n 1, 1) := by decide +kernel
theorem dX7_goesOn_39 : decode cX7_goesOn 39 = .ok (.iconst 2, 1) := by decide +kernel
theorem dX7_goesOn_40 : decode cX7_goesOn 40 = .ok (.isub, 1) := by decide +kernel
theorem dX7_goesOn_41 : decode cX7_goesOn 41 = .ok (.bipush 6, 2) := by decide +kernel
theorem dX7_goesOn_43 : decode cX7_goesOn 43 = .ok (.irem, 1) := by decide +kernel
theorem dX7_goesOn_44 : decode cX7_goesOn 44 = .ok (.lookupswitch 69 #[(0, 36), (1, 48), (5, 60)], 36) := by decide +kernel
theorem dX7_goesOn_80 : decode cX7_goesOn 80 = .ok (.iload_n 0, 1) := by decide +kernel
theorem dX7_goesOn_81 : decode cX7_goesOn 81 = .ok (.bipush 59, 2) := by decide +kernel
theorem dX7_goesOn_83 : decode cX7_goesOn 83 = .ok (.if_icmp .ne 7, 3) := by decide +kernel
theorem dX7_goesOn_86 : decode cX7_goesOn 86 = .ok (.iconst 1, 1) := by decide +kernel
theorem dX7_goesOn_87 : decode cX7_goesOn 87 = .ok (.goto 4, 3) := by decide +kernel
theorem dX7_goesOn_90 : decode cX7_goesOn 90 = .ok (.iconst 0, 1) := by decide +kernel
theorem dX7_goesOn_91 : decode cX7_goesOn 91 = .ok (.ireturn, 1) := by decide +kernel
theorem dX7_goesOn_92 : decode cX7_goesOn 92 = .ok (.iload_n 0, 1) := by decide +kernel
theorem dX7_goesOn_93 : decode cX7_goesOn 93 = .ok (.bipush 102, 2) := by decide +kernel
theorem dX7_goesOn_95 : decode cX7_goesOn 95 = .ok (.if_icmp .ne 7, 3) := by decide +kernel
theorem dX7_goesOn_98 : decode cX7_goesOn 98 = .ok (.iconst 1, 1) := by decide +kernel
theorem dX7_goesOn_99 : decode cX7_goesOn 99 = .ok (.goto 4, 3) := by decide +kernel
theorem dX7_goesOn_102 : decode cX7_goesOn 102 = .ok (.iconst 0, 1) := by decide +kernel
theorem dX7_goesOn_103 : decode cX7_goesOn 103 = .ok (.ireturn, 1) := by decide +kernel
theorem dX7_goesOn_104 : decode cX7_goesOn 104 = .ok (.iload_n 0, 1) := by decide +kernel
theorem dX7_goesOn_105 : decode cX7_goesOn 105 = .ok (.bipush 48, 2) := by decide +kernel
theorem dX7_goesOn_107 : decode cX7_goesOn 107 = .ok (.bipush 51, 2) := by decide +kernel
theorem dX7_goesOn_109 : decode cX7_goesOn 109 = .ok (.invokestatic 15, 3) := by decide +kernel
theorem dX7_goesOn_112 : decode cX7_goesOn 112 = .ok (.ireturn, 1) := by decide +kernel
theorem dX7_goesOn_113 : decode cX7_goesOn 113 = .ok (.iload_n 0, 1) := by decide +kernel
theorem dX7_goesOn_114 : decode cX7_goesOn 114 = .ok (.bipush 48, 2) := by decide +kernel
theorem dX7_goesOn_116 : decode cX7_goesOn 116 = .ok (.bipush 57, 2) := by decide +kernel
theorem dX7_goesOn_118 : decode cX7_goesOn 118 = .ok (.invokestatic 15, 3) := by decide +kernel
theorem dX7_goesOn_121 : decode cX7_goesOn 121 = .ok (.ireturn, 1) := by decide +kernel

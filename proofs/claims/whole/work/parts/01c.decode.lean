theorem dX8_init_0 : decode cX8_init 0 = .ok (.aload_n 0, 1) := by decide +kernel
theorem dX8_init_1 : decode cX8_init 1 = .ok (.invokespecial 3, 3) := by decide +kernel
theorem dX8_init_4 : decode cX8_init 4 = .ok (.aload_n 0, 1) := by decide +kernel
theorem dX8_init_5 : decode cX8_init 5 = .ok (.new 9, 3) := by decide +kernel
theorem dX8_init_8 : decode cX8_init 8 = .ok (.dup, 1) := by decide +kernel
theorem dX8_init_9 : decode cX8_init 9 = .ok (.invokespecial 11, 3) := by decide +kernel
theorem dX8_init_12 : decode cX8_init 12 = .ok (.putfield 12, 3) := by decide +kernel
theorem dX8_init_15 : decode cX8_init 15 = .ok (.aload_n 0, 1) := by decide +kernel
theorem dX8_init_16 : decode cX8_init 16 = .ok (.new 18, 3) := by decide +kernel
theorem dX8_init_19 : decode cX8_init 19 = .ok (.dup, 1) := by decide +kernel
theorem dX8_init_20 : decode cX8_init 20 = .ok (.invokespecial 20, 3) := by decide +kernel
theorem dX8_init_23 : decode cX8_init 23 = .ok (.putfield 21, 3) := by decide +kernel
theorem dX8_init_26 : decode cX8_init 26 = .ok (.aload_n 0, 1) := by decide +kernel
theorem dX8_init_27 : decode cX8_init 27 = .ok (.new 25, 3) := by decide +kernel
theorem dX8_init_30 : decode cX8_init 30 = .ok (.dup, 1) := by decide +kernel
theorem dX8_init_31 : decode cX8_init 31 = .ok (.invokespecial 27, 3) := by decide +kernel
theorem dX8_init_34 : decode cX8_init 34 = .ok (.putfield 28, 3) := by decide +kernel
theorem dX8_init_37 : decode cX8_init 37 = .ok (.aload_n 0, 1) := by decide +kernel
theorem dX8_init_38 : decode cX8_init 38 = .ok (.new 32, 3) := by decide +kernel
theorem dX8_init_41 : decode cX8_init 41 = .ok (.dup, 1) := by decide +kernel
theorem dX8_init_42 : decode cX8_init 42 = .ok (.invokespecial 34, 3) := by decide +kernel
theorem dX8_init_45 : decode cX8_init 45 = .ok (.putfield 35, 3) := by decide +kernel
theorem dX8_init_48 : decode cX8_init 48 = .ok (.aload_n 0, 1) := by decide +kernel
theorem dX8_init_49 : decode cX8_init 49 = .ok (.new 39, 3) := by decide +kernel
theorem dX8_init_52 : decode cX8_init 52 = .ok (.dup, 1) := by decide +kernel
theorem dX8_init_53 : decode cX8_init 53 = .ok (.invokespecial 41, 3) := by decide +kernel
theorem dX8_init_56 : decode cX8_init 56 = .ok (.putfield 42, 3) := by decide +kernel
theorem dX8_init_59 : decode cX8_init 59 = .ok (.return_, 1) := by decide +kernel
theorem dX8_stall_0 : decode cX8_stall 0 = .ok (.aload_n 0, 1) := by decide +kernel
theorem dX8_stall_1 : decode cX8_stall 1 = .ok (.iload_n 1, 1) := by decide +kernel
theorem dX8_stall_2 : decode cX8_stall 2 = .ok (.iload_n 2, 1) := by decide +kernel
theorem dX8_stall_3 : decode cX8_stall 3 = .ok (.iload_n 3, 1) := by decide +kernel
theorem dX8_stall_4 : decode cX8_stall 4 = .ok (.iload 4, 2) := by decide +kernel
theorem dX8_stall_6 : decode cX8_stall 6 = .ok (.invokevirtual 46, 3) := by decide +kernel
theorem dX8_stall_9 : decode cX8_stall 9 = .ok (.istore 5, 2) := by decide +kernel
theorem dX8_stall_11 : decode cX8_stall 11 = .ok (.iload 5, 2) := by decide +kernel
theorem dX8_stall_13 : decode cX8_stall 13 = .ok (.ifCond .eq 6, 3) := by decide +kernel
theorem dX8_stall_16 : decode cX8_stall 16 = .ok (.iload 5, 2) := by decide +kernel
theorem dX8_stall_18 : decode cX8_stall 18 = .ok (.ireturn, 1) := by decide +kernel
theorem dX8_stall_19 : decode cX8_stall 19 = .ok (.aload_n 0, 1) := by decide +kernel
theorem dX8_stall_20 : decode cX8_stall 20 = .ok (.getfield 28, 3) := by decide +kernel
theorem dX8_stall_23 : decode cX8_stall 23 = .ok (.getfield 50, 3) := by decide +kernel
theorem dX8_stall_26 : decode cX8_stall 26 = .ok (.iload_n 1, 1) := by decide +kernel
theorem dX8_stall_27 : decode cX8_stall 27 = .ok (.aaload, 1) := by decide +kernel
theorem dX8_stall_28 : decode cX8_stall 28 = .ok (.iload_n 3, 1) := by decide +kernel
theorem dX8_stall_29 : decode cX8_stall 29 = .ok (.iload 4, 2) := by decide +kernel
theorem dX8_stall_31 : decode cX8_stall 31 = .ok (.invokestatic 54, 3) := by decide +kernel
theorem dX8_stall_34 : decode cX8_stall 34 = .ok (.istore 6, 2) := by decide +kernel
theorem dX8_stall_36 : decode cX8_stall 36 = .ok (.iload 6, 2) := by decide +kernel
theorem dX8_stall_38 : decode cX8_stall 38 = .ok (.bipush (-9), 2) := by decide +kernel
theorem dX8_stall_40 : decode cX8_stall 40 = .ok (.if_icmp .eq 9, 3) := by decide +kernel
theorem dX8_stall_43 : decode cX8_stall 43 = .ok (.bipush (-100), 2) := by decide +kernel
theorem dX8_stall_45 : decode cX8_stall 45 = .ok (.iload 6, 2) := by decide +kernel
theorem dX8_stall_47 : decode cX8_stall 47 = .ok (.isub, 1) := by decide +kernel
theorem dX8_stall_48 : decode cX8_stall 48 = .ok (.ireturn, 1) := by decide +kernel
theorem dX8_stall_49 : decode cX8_stall 49 = .ok (.aload_n 0, 1) := by decide +kernel
theorem dX8_stall_50 : decode cX8_stall 50 = .ok (.getfield 12, 3) := by decide +kernel
theorem dX8_stall_53 : decode cX8_stall 53 = .ok (.getfield 60, 3) := by decide +kernel
theorem dX8_stall_56 : decode cX8_stall 56 = .ok (.aload_n 0, 1) := by decide +kernel
theorem dX8_stall_57 : decode cX8_stall 57 = .ok (.getfield 28, 3) := by decide +kernel
theorem dX8_stall_60 : decode cX8_stall 60 = .ok (.getfield 50, 3) := by decide +kernel
theorem dX8_stall_63 : decode cX8_stall 63 = .ok (.iload_n 1, 1) := by decide +kernel
theorem dX8_stall_64 : decode cX8_stall 64 = .ok (.aaload, 1) := by decide +kernel
theorem dX8_stall_65 : decode cX8_stall 65 = .ok (.iload_n 3, 1) := by decide +kernel
theorem dX8_stall_66 : decode cX8_stall 66 = .ok (.iload 4, 2) := by decide +kernel
theorem dX8_stall_68 : decode cX8_stall 68 = .ok (.invokevirtual 64, 3) := by decide +kernel
theorem dX8_stall_71 : decode cX8_stall 71 = .ok (.aload_n 0, 1) := by decide +kernel
theorem dX8_stall_72 : decode cX8_stall 72 = .ok (.getfield 12, 3) := by decide +kernel
theorem dX8_stall_75 : decode cX8_stall 75 = .ok (.getfield 70, 3) := by decide +kernel
theorem dX8_stall_78 : decode cX8_stall 78 = .ok (.iconst 0, 1) := by decide +kernel
theorem dX8_stall_79 : decode cX8_stall 79 = .ok (.putfield 74, 3) := by decide +kernel
theorem dX8_stall_82 : decode cX8_stall 82 = .ok (.aload_n 0, 1) := by decide +kernel
theorem dX8_stall_83 : decode cX8_stall 83 = .ok (.getfield 12, 3) := by decide +kernel
theorem dX8_stall_86 : decode cX8_stall 86 = .ok (.getfield 60, 3) := by decide +kernel
theorem dX8_stall_89 : decode cX8_stall 89 = .ok (.getfield 80, 3) := by decide +kernel
theorem dX8_stall_92 : decode cX8_stall 92 = .ok (.ireturn, 1) := by decide +kernel
theorem dX8_ofSort_0 : decode cX8_ofSort 0 = .ok (.aload_n 0, 1) := by decide +kernel
theorem dX8_ofSort_1 : decode cX8_ofSort 1 = .ok (.getfield 12, 3) := by decide +kernel
theorem dX8_ofSort_4 : decode cX8_ofSort 4 = .ok (.getfield 60, 3) := by decide +kernel
theorem dX8_ofSort_7 : decode cX8_ofSort 7 = .ok (.astore_n 3, 1) := by decide +kernel
theorem dX8_ofSort_8 : decode cX8_ofSort 8 = .ok (.aload_n 3, 1) := by decide +kernel
theorem dX8_ofSort_9 : decode cX8_ofSort 9 = .ok (.iload_n 1, 1) := by decide +kernel
theorem dX8_ofSort_10 : decode cX8_ofSort 10 = .ok (.invokevirtual 83, 3) := by decide +kernel
theorem dX8_ofSort_13 : decode cX8_ofSort 13 = .ok (.ifCond .ne 5, 3) := by decide +kernel
theorem dX8_ofSort_16 : decode cX8_ofSort 16 = .ok (.iconst (-1), 1) := by decide +kernel
theorem dX8_ofSort_17 : decode cX8_ofSort 17 = .ok (.ireturn, 1) := by decide +kernel
theorem dX8_ofSort_18 : decode cX8_ofSort 18 = .ok (.iload_n 2, 1) := by decide +kernel
theorem dX8_ofSort_19 : decode cX8_ofSort 19 = .ok (.tableswitch 57 0 3 #[29, 36, 43, 50], 29) := by decide +kernel
theorem dX8_ofSort_48 : decode cX8_ofSort 48 = .ok (.aload_n 3, 1) := by decide +kernel
theorem dX8_ofSort_49 : decode cX8_ofSort 49 = .ok (.getfield 87, 3) := by decide +kernel
theorem dX8_ofSort_52 : decode cX8_ofSort 52 = .ok (.iload_n 1, 1) := by decide +kernel
theorem dX8_ofSort_53 : decode cX8_ofSort 53 = .ok (.iaload, 1) := by decide +kernel
theorem dX8_ofSort_54 : decode cX8_ofSort 54 = .ok (.ireturn, 1) := by decide +kernel
theorem dX8_ofSort_55 : decode cX8_ofSort 55 = .ok (.aload_n 3, 1) := by decide +kernel
theorem dX8_ofSort_56 : decode cX8_ofSort 56 = .ok (.getfield 91, 3) := by decide +kernel
theorem dX8_ofSort_59 : decode cX8_ofSort 59 = .ok (.iload_n 1, 1) := by decide +kernel
theorem dX8_ofSort_60 : decode cX8_ofSort 60 = .ok (.iaload, 1) := by decide +kernel
theorem dX8_ofSort_61 : decode cX8_ofSort 61 = .ok (.ireturn, 1) := by decide +kernel
theorem dX8_ofSort_62 : decode cX8_ofSort 62 = .ok (.aload_n 3, 1) := by decide +kernel
theorem dX8_ofSort_63 : decode cX8_ofSort 63 = .ok (.getfield 94, 3) := by decide +kernel
theorem dX8_ofSort_66 : decode cX8_ofSort 66 = .ok (.iload_n 1, 1) := by decide +kernel
theorem dX8_ofSort_67 : decode cX8_ofSort 67 = .ok (.iaload, 1) := by decide +kernel
theorem dX8_ofSort_68 : decode cX8_ofSort 68 = .ok (.ireturn, 1) := by decide +kernel
theorem dX8_ofSort_69 : decode cX8_ofSort 69 = .ok (.aload_n 3, 1) := by decide +kernel
theorem dX8_ofSort_70 : decode cX8_ofSort 70 = .ok (.getfield 97, 3) := by decide +kernel
theorem dX8_ofSort_73 : decode cX8_ofSort 73 = .ok (.iload_n 1, 1) := by decide +kernel
theorem dX8_ofSort_74 : decode cX8_ofSort 74 = .ok (.iaload, 1) := by decide +kernel
theorem dX8_ofSort_75 : decode cX8_ofSort 75 = .ok (.ireturn, 1) := by decide +kernel
theorem dX8_ofSort_76 : decode cX8_ofSort 76 = .ok (.bipush (-2), 2) := by decide +kernel
theorem dX8_ofSort_78 : decode cX8_ofSort 78 = .ok (.ireturn, 1) := by decide +kernel
theorem dX8_fresh_0 : decode cX8_fresh 0 = .ok (.aload_n 0, 1) := by decide +kernel
theorem dX8_fresh_1 : decode cX8_fresh 1 = .ok (.getfield 12, 3) := by decide +kernel
theorem dX8_fresh_4 : decode cX8_fresh 4 = .ok (.getfield 60, 3) := by decide +kernel
theorem dX8_fresh_7 : decode cX8_fresh 7 = .ok (.iload_n 1, 1) := by decide +kernel
theorem dX8_fresh_8 : decode cX8_fresh 8 = .ok (.iload_n 2, 1) := by decide +kernel
theorem dX8_fresh_9 : decode cX8_fresh 9 = .ok (.invokevirtual 100, 3) := by decide +kernel
theorem dX8_fresh_12 : decode cX8_fresh 12 = .ok (.ifCond .ne 5, 3) := by decide +kernel
theorem dX8_fresh_15 : decode cX8_fresh 15 = .ok (.iconst (-1), 1) := by decide +kernel
theorem dX8_fresh_16 : decode cX8_fresh 16 = .ok (.ireturn, 1) := by decide +kernel
theorem dX8_fresh_17 : decode cX8_fresh 17 = .ok (.aload_n 0, 1) := by decide +kernel
theorem dX8_fresh_18 : decode cX8_fresh 18 = .ok (.getfield 12, 3) := by decide +kernel
theorem dX8_fresh_21 : decode cX8_fresh 21 = .ok (.getfield 60, 3) := by decide +kernel
theorem dX8_fresh_24 : decode cX8_fresh 24 = .ok (.iload_n 1, 1) := by decide +kernel
theorem dX8_fresh_25 : decode cX8_fresh 25 = .ok (.iload_n 2, 1) := by decide +kernel
theorem dX8_fresh_26 : decode cX8_fresh 26 = .ok (.invokevirtual 104, 3) := by decide +kernel
theorem dX8_fresh_29 : decode cX8_fresh 29 = .ok (.ireturn, 1) := by decide +kernel
theorem dX8_fish_0 : decode cX8_fish 0 = .ok (.aload_n 0, 1) := by decide +kernel
theorem dX8_fish_1 : decode cX8_fish 1 = .ok (.getfield 12, 3) := by decide +kernel
theorem dX8_fish_4 : decode cX8_fish 4 = .ok (.getfield 60, 3) := by decide +kernel
theorem dX8_fish_7 : decode cX8_fish 7 = .ok (.iload_n 1, 1) := by decide +kernel
theorem dX8_fish_8 : decode cX8_fish 8 = .ok (.invokevirtual 83, 3) := by decide +kernel
theorem dX8_fish_11 : decode cX8_fish 11 = .ok (.ifCond .ne 5, 3) := by decide +kernel
theorem dX8_fish_14 : decode cX8_fish 14 = .ok (.iconst (-1), 1) := by decide +kernel
theorem dX8_fish_15 : decode cX8_fish 15 = .ok (.ireturn, 1) := by decide +kernel
theorem dX8_fish_16 : decode cX8_fish 16 = .ok (.iload_n 2, 1) := by decide +kernel
theorem dX8_fish_17 : decode cX8_fish 17 = .ok (.iconst 0, 1) := by decide +kernel
theorem dX8_fish_18 : decode cX8_fish 18 = .ok (.bipush 9, 2) := by decide +kernel
theorem dX8_fish_20 : decode cX8_fish 20 = .ok (.invokestatic 108, 3) := by decide +kernel
theorem dX8_fish_23 : decode cX8_fish 23 = .ok (.ifCond .ne 6, 3) := by decide +kernel
theorem dX8_fish_26 : decode cX8_fish 26 = .ok (.bipush (-2), 2) := by decide +kernel
theorem dX8_fish_28 : decode cX8_fish 28 = .ok (.ireturn, 1) := by decide +kernel
theorem dX8_fish_29 : decode cX8_fish 29 = .ok (.aload_n 0, 1) := by decide +kernel
theorem dX8_fish_30 : decode cX8_fish 30 = .ok (.getfield 12, 3) := by decide +kernel
theorem dX8_fish_33 : decode cX8_fish 33 = .ok (.getfield 60, 3) := by decide +kernel
theorem dX8_fish_36 : decode cX8_fish 36 = .ok (.getfield 87, 3) := by decide +kernel
theorem dX8_fish_39 : decode cX8_fish 39 = .ok (.iload_n 1, 1) := by decide +kernel
theorem dX8_fish_40 : decode cX8_fish 40 = .ok (.iaload, 1) := by decide +kernel
theorem dX8_fish_41 : decode cX8_fish 41 = .ok (.istore_n 3, 1) := by decide +kernel
theorem dX8_fish_42 : decode cX8_fish 42 = .ok (.aload_n 0, 1) := by decide +kernel
theorem dX8_fish_43 : decode cX8_fish 43 = .ok (.getfield 12, 3) := by decide +kernel
theorem dX8_fish_46 : decode cX8_fish 46 = .ok (.getfield 60, 3) := by decide +kernel
theorem dX8_fish_49 : decode cX8_fish 49 = .ok (.getfield 87, 3) := by decide +kernel
theorem dX8_fish_52 : decode cX8_fish 52 = .ok (.iload_n 1, 1) := by decide +kernel
theorem dX8_fish_53 : decode cX8_fish 53 = .ok (.iload_n 2, 1) := by decide +kernel
theorem dX8_fish_54 : decode cX8_fish 54 = .ok (.iastore, 1) := by decide +kernel
theorem dX8_fish_55 : decode cX8_fish 55 = .ok (.iload_n 3, 1) := by decide +kernel
theorem dX8_fish_56 : decode cX8_fish 56 = .ok (.ireturn, 1) := by decide +kernel
theorem dX8_slate_0 : decode cX8_slate 0 = .ok (.aload_n 0, 1) := by decide +kernel
theorem dX8_slate_1 : decode cX8_slate 1 = .ok (.getfield 12, 3) := by decide +kernel
theorem dX8_slate_4 : decode cX8_slate 4 = .ok (.getfield 60, 3) := by decide +kernel
theorem dX8_slate_7 : decode cX8_slate 7 = .ok (.iload_n 1, 1) := by decide +kernel
theorem dX8_slate_8 : decode cX8_slate 8 = .ok (.iload_n 2, 1) := by decide +kernel
theorem dX8_slate_9 : decode cX8_slate 9 = .ok (.invokevirtual 100, 3) := by decide +kernel
theorem dX8_slate_12 : decode cX8_slate 12 = .ok (.ifCond .ne 5, 3) := by decide +kernel
theorem dX8_slate_15 : decode cX8_slate 15 = .ok (.iconst (-1), 1) := by decide +kernel
theorem dX8_slate_16 : decode cX8_slate 16 = .ok (.ireturn, 1) := by decide +kernel
theorem dX8_slate_17 : decode cX8_slate 17 = .ok (.aload_n 0, 1) := by decide +kernel
theorem dX8_slate_18 : decode cX8_slate 18 = .ok (.getfield 12, 3) := by decide +kernel
theorem dX8_slate_21 : decode cX8_slate 21 = .ok (.getfield 60, 3) := by decide +kernel
theorem dX8_slate_24 : decode cX8_slate 24 = .ok (.getfield 112, 3) := by decide +kernel
theorem dX8_slate_27 : decode cX8_slate 27 = .ok (.iload_n 1, 1) := by decide +kernel
theorem dX8_slate_28 : decode cX8_slate 28 = .ok (.aaload, 1) := by decide +kernel
theorem dX8_slate_29 : decode cX8_slate 29 = .ok (.iload_n 2, 1) := by decide +kernel
theorem dX8_slate_30 : decode cX8_slate 30 = .ok (.iaload, 1) := by decide +kernel
theorem dX8_slate_31 : decode cX8_slate 31 = .ok (.ireturn, 1) := by decide +kernel
theorem dX8_write_0 : decode cX8_write 0 = .ok (.aload_n 0, 1) := by decide +kernel
theorem dX8_write_1 : decode cX8_write 1 = .ok (.getfield 12, 3) := by decide +kernel
theorem dX8_write_4 : decode cX8_write 4 = .ok (.getfield 60, 3) := by decide +kernel
theorem dX8_write_7 : decode cX8_write 7 = .ok (.iload_n 1, 1) := by decide +kernel
theorem dX8_write_8 : decode cX8_write 8 = .ok (.iload_n 2, 1) := by decide +kernel
theorem dX8_write_9 : decode cX8_write 9 = .ok (.invokevirtual 100, 3) := by decide +kernel
theorem dX8_write_12 : decode cX8_write 12 = .ok (.ifCond .ne 5, 3) := by decide +kernel
theorem dX8_write_15 : decode cX8_write 15 = .ok (.iconst (-1), 1) := by decide +kernel
theorem dX8_write_16 : decode cX8_write 16 = .ok (.ireturn, 1) := by decide +kernel
theorem dX8_write_17 : decode cX8_write 17 = .ok (.iload_n 3, 1) := by decide +kernel
theorem dX8_write_18 : decode cX8_write 18 = .ok (.iconst 0, 1) := by decide +kernel
theorem dX8_write_19 : decode cX8_write 19 = .ok (.bipush 30, 2) := by decide +kernel
theorem dX8_write_21 : decode cX8_write 21 = .ok (.invokestatic 108, 3) := by decide +kernel
theorem dX8_write_24 : decode cX8_write 24 = .ok (.ifCond .ne 6, 3) := by decide +kernel
theorem dX8_write_27 : decode cX8_write 27 = .ok (.bipush (-2), 2) := by decide +kernel
theorem dX8_write_29 : decode cX8_write 29 = .ok (.ireturn, 1) := by decide +kernel
theorem dX8_write_30 : decode cX8_write 30 = .ok (.aload_n 0, 1) := by decide +kernel
theorem dX8_write_31 : decode cX8_write 31 = .ok (.getfield 12, 3) := by decide +kernel
theorem dX8_write_34 : decode cX8_write 34 = .ok (.getfield 60, 3) := by decide +kernel
theorem dX8_write_37 : decode cX8_write 37 = .ok (.getfield 112, 3) := by decide +kernel
theorem dX8_write_40 : decode cX8_write 40 = .ok (.iload_n 1, 1) := by decide +kernel
theorem dX8_write_41 : decode cX8_write 41 = .ok (.aaload, 1) := by decide +kernel
theorem dX8_write_42 : decode cX8_write 42 = .ok (.iload_n 2, 1) := by decide +kernel
theorem dX8_write_43 : decode cX8_write 43 = .ok (.iaload, 1) := by decide +kernel
theorem dX8_write_44 : decode cX8_write 44 = .ok (.istore 4, 2) := by decide +kernel
theorem dX8_write_46 : decode cX8_write 46 = .ok (.aload_n 0, 1) := by decide +kernel
theorem dX8_write_47 : decode cX8_write 47 = .ok (.getfield 12, 3) := by decide +kernel
theorem dX8_write_50 : decode cX8_write 50 = .ok (.getfield 60, 3) := by decide +kernel
theorem dX8_write_53 : decode cX8_write 53 = .ok (.getfield 112, 3) := by decide +kernel
theorem dX8_write_56 : decode cX8_write 56 = .ok (.iload_n 1, 1) := by decide +kernel
theorem dX8_write_57 : decode cX8_write 57 = .ok (.aaload, 1) := by decide +kernel
theorem dX8_write_58 : decode cX8_write 58 = .ok (.iload_n 2, 1) := by decide +kernel
theorem dX8_write_59 : decode cX8_write 59 = .ok (.iload_n 3, 1) := by decide +kernel
theorem dX8_write_60 : decode cX8_write 60 = .ok (.iastore, 1) := by decide +kernel
theorem dX8_write_61 : decode cX8_write 61 = .ok (.iload 4, 2) := by decide +kernel
theorem dX8_write_63 : decode cX8_write 63 = .ok (.ireturn, 1) := by decide +kernel
theorem dX8_copyOut_0 : decode cX8_copyOut 0 = .ok (.aload_n 0, 1) := by decide +kernel
theorem dX8_copyOut_1 : decode cX8_copyOut 1 = .ok (.iconst 0, 1) := by decide +kernel
theorem dX8_copyOut_2 : decode cX8_copyOut 2 = .ok (.putfield 115, 3) := by decide +kernel
theorem dX8_copyOut_5 : decode cX8_copyOut 5 = .ok (.aload_n 0, 1) := by decide +kernel
theorem dX8_copyOut_6 : decode cX8_copyOut 6 = .ok (.getfield 12, 3) := by decide +kernel
theorem dX8_copyOut_9 : decode cX8_copyOut 9 = .ok (.getfield 60, 3) := by decide +kernel
theorem dX8_copyOut_12 : decode cX8_copyOut 12 = .ok (.iload_n 1, 1) := by decide +kernel
theorem dX8_copyOut_13 : decode cX8_copyOut 13 = .ok (.invokevirtual 83, 3) := by decide +kernel
theorem dX8_copyOut_16 : decode cX8_copyOut 16 = .ok (.ifCond .ne 5, 3) := by decide +kernel
theorem dX8_copyOut_19 : decode cX8_copyOut 19 = .ok (.iconst (-1), 1) := by decide +kernel
theorem dX8_copyOut_20 : decode cX8_copyOut 20 = .ok (.ireturn, 1) := by decide +kernel
theorem dX8_copyOut_21 : decode cX8_copyOut 21 = .ok (.aload_n 0, 1) := by decide +kernel
theorem dX8_copyOut_22 : decode cX8_copyOut 22 = .ok (.iload_n 2, 1) := by decide +kernel
theorem dX8_copyOut_23 : decode cX8_copyOut 23 = .ok (.iload_n 3, 1) := by decide +kernel
theorem dX8_copyOut_24 : decode cX8_copyOut 24 = .ok (.iload 4, 2) := by decide +kernel
theorem dX8_copyOut_26 : decode cX8_copyOut 26 = .ok (.iload 5, 2) := by decide +kernel
theorem dX8_copyOut_28 : decode cX8_copyOut 28 = .ok (.invokevirtual 46, 3) := by decide +kernel
theorem dX8_copyOut_31 : decode cX8_copyOut 31 = .ok (.istore 6, 2) := by decide +kernel
theorem dX8_copyOut_33 : decode cX8_copyOut 33 = .ok (.iload 6, 2) := by decide +kernel
theorem dX8_copyOut_35 : decode cX8_copyOut 35 = .ok (.ifCond .eq 6, 3) := by decide +kernel
theorem dX8_copyOut_38 : decode cX8_copyOut 38 = .ok (.iload 6, 2) := by decide +kernel
theorem dX8_copyOut_40 : decode cX8_copyOut 40 = .ok (.ireturn, 1) := by decide +kernel
theorem dX8_copyOut_41 : decode cX8_copyOut 41 = .ok (.iload 5, 2) := by decide +kernel
theorem dX8_copyOut_43 : decode cX8_copyOut 43 = .ok (.iconst 1, 1) := by decide +kernel
theorem dX8_copyOut_44 : decode cX8_copyOut 44 = .ok (.aload_n 0, 1) := by decide +kernel
theorem dX8_copyOut_45 : decode cX8_copyOut 45 = .ok (.getfield 12, 3) := by decide +kernel
theorem dX8_copyOut_48 : decode cX8_copyOut 48 = .ok (.getfield 60, 3) := by decide +kernel
theorem dX8_copyOut_51 : decode cX8_copyOut 51 = .ok (.getfield 118, 3) := by decide +kernel
theorem dX8_copyOut_54 : decode cX8_copyOut 54 = .ok (.invokestatic 108, 3) := by decide +kernel
theorem dX8_copyOut_57 : decode cX8_copyOut 57 = .ok (.ifCond .eq 25, 3) := by decide +kernel
theorem dX8_copyOut_60 : decode cX8_copyOut 60 = .ok (.aload_n 0, 1) := by decide +kernel
theorem dX8_copyOut_61 : decode cX8_copyOut 61 = .ok (.getfield 28, 3) := by decide +kernel
theorem dX8_copyOut_64 : decode cX8_copyOut 64 = .ok (.getfield 50, 3) := by decide +kernel
theorem dX8_copyOut_67 : decode cX8_copyOut 67 = .ok (.iload_n 2, 1) := by decide +kernel
theorem dX8_copyOut_68 : decode cX8_copyOut 68 = .ok (.aaload, 1) := by decide +kernel
theorem dX8_copyOut_69 : decode cX8_copyOut 69 = .ok (.iload 4, 2) := by decide +kernel
theorem dX8_copyOut_71 : decode cX8_copyOut 71 = .ok (.iload 5, 2) := by decide +kernel
theorem dX8_copyOut_73 : decode cX8_copyOut 73 = .ok (.iconst 0, 1) := by decide +kernel
theorem dX8_copyOut_74 : decode cX8_copyOut 74 = .ok (.bipush 30, 2) := by decide +kernel
theorem dX8_copyOut_76 : decode cX8_copyOut 76 = .ok (.invokestatic 121, 3) := by decide +kernel
theorem dX8_copyOut_79 : decode cX8_copyOut 79 = .ok (.ifCond .ne 6, 3) := by decide +kernel
theorem dX8_copyOut_82 : decode cX8_copyOut 82 = .ok (.bipush (-2), 2) := by decide +kernel
theorem dX8_copyOut_84 : decode cX8_copyOut 84 = .ok (.ireturn, 1) := by decide +kernel
theorem dX8_copyOut_85 : decode cX8_copyOut 85 = .ok (.aload_n 0, 1) := by decide +kernel
theorem dX8_copyOut_86 : decode cX8_copyOut 86 = .ok (.getfield 28, 3) := by decide +kernel
theorem dX8_copyOut_89 : decode cX8_copyOut 89 = .ok (.getfield 50, 3) := by decide +kernel
theorem dX8_copyOut_92 : decode cX8_copyOut 92 = .ok (.iload_n 2, 1) := by decide +kernel
theorem dX8_copyOut_93 : decode cX8_copyOut 93 = .ok (.aaload, 1) := by decide +kernel
theorem dX8_copyOut_94 : decode cX8_copyOut 94 = .ok (.iload 4, 2) := by decide +kernel
theorem dX8_copyOut_96 : decode cX8_copyOut 96 = .ok (.aload_n 0, 1) := by decide +kernel
theorem dX8_copyOut_97 : decode cX8_copyOut 97 = .ok (.getfield 12, 3) := by decide +kernel
theorem dX8_copyOut_100 : decode cX8_copyOut 100 = .ok (.getfield 60, 3) := by decide +kernel
theorem dX8_copyOut_103 : decode cX8_copyOut 103 = .ok (.getfield 112, 3) := by decide +kernel
theorem dX8_copyOut_106 : decode cX8_copyOut 106 = .ok (.iload_n 1, 1) := by decide +kernel
theorem dX8_copyOut_107 : decode cX8_copyOut 107 = .ok (.aaload, 1) := by decide +kernel
theorem dX8_copyOut_108 : decode cX8_copyOut 108 = .ok (.iconst 0, 1) := by decide +kernel
theorem dX8_copyOut_109 : decode cX8_copyOut 109 = .ok (.iload 5, 2) := by decide +kernel
theorem dX8_copyOut_111 : decode cX8_copyOut 111 = .ok (.invokestatic 125, 3) := by decide +kernel
theorem dX8_copyOut_114 : decode cX8_copyOut 114 = .ok (.iload 5, 2) := by decide +kernel
theorem dX8_copyOut_116 : decode cX8_copyOut 116 = .ok (.ireturn, 1) := by decide +kernel
theorem dX8_soup_0 : decode cX8_soup 0 = .ok (.iload_n 1, 1) := by decide +kernel
theorem dX8_soup_1 : decode cX8_soup 1 = .ok (.iconst 0, 1) := by decide +kernel
theorem dX8_soup_2 : decode cX8_soup 2 = .ok (.bipush 9, 2) := by decide +kernel
theorem dX8_soup_4 : decode cX8_soup 4 = .ok (.invokestatic 108, 3) := by decide +kernel
theorem dX8_soup_7 : decode cX8_soup 7 = .ok (.ifCond .ne 6, 3) := by decide +kernel
theorem dX8_soup_10 : decode cX8_soup 10 = .ok (.bipush (-2), 2) := by decide +kernel
theorem dX8_soup_12 : decode cX8_soup 12 = .ok (.ireturn, 1) := by decide +kernel
theorem dX8_soup_13 : decode cX8_soup 13 = .ok (.aload_n 0, 1) := by decide +kernel
theorem dX8_soup_14 : decode cX8_soup 14 = .ok (.getfield 12, 3) := by decide +kernel
theorem dX8_soup_17 : decode cX8_soup 17 = .ok (.getfield 60, 3) := by decide +kernel
theorem dX8_soup_20 : decode cX8_soup 20 = .ok (.invokevirtual 131, 3) := by decide +kernel
theorem dX8_soup_23 : decode cX8_soup 23 = .ok (.ifCond .ne 6, 3) := by decide +kernel
theorem dX8_soup_26 : decode cX8_soup 26 = .ok (.bipush (-3), 2) := by decide +kernel
theorem dX8_soup_28 : decode cX8_soup 28 = .ok (.ireturn, 1) := by decide +kernel
theorem dX8_soup_29 : decode cX8_soup 29 = .ok (.aload_n 0, 1) := by decide +kernel
theorem dX8_soup_30 : decode cX8_soup 30 = .ok (.getfield 12, 3) := by decide +kernel
theorem dX8_soup_33 : decode cX8_soup 33 = .ok (.getfield 60, 3) := by decide +kernel
theorem dX8_soup_36 : decode cX8_soup 36 = .ok (.getfield 135, 3) := by decide +kernel
theorem dX8_soup_39 : decode cX8_soup 39 = .ok (.istore_n 2, 1) := by decide +kernel
theorem dX8_soup_40 : decode cX8_soup 40 = .ok (.aload_n 0, 1) := by decide +kernel
theorem dX8_soup_41 : decode cX8_soup 41 = .ok (.getfield 12, 3) := by decide +kernel
theorem dX8_soup_44 : decode cX8_soup 44 = .ok (.getfield 60, 3) := by decide +kernel
theorem dX8_soup_47 : decode cX8_soup 47 = .ok (.iload_n 1, 1) := by decide +kernel
theorem dX8_soup_48 : decode cX8_soup 48 = .ok (.putfield 135, 3) := by decide +kernel
theorem dX8_soup_51 : decode cX8_soup 51 = .ok (.iload_n 2, 1) := by decide +kernel
theorem dX8_soup_52 : decode cX8_soup 52 = .ok (.ireturn, 1) := by decide +kernel
theorem dX8_beside_0 : decode cX8_beside 0 = .ok (.aload_n 0, 1) := by decide +kernel
theorem dX8_beside_1 : decode cX8_beside 1 = .ok (.getfield 12, 3) := by decide +kernel
theorem dX8_beside_4 : decode cX8_beside 4 = .ok (.getfield 60, 3) := by decide +kernel
theorem dX8_beside_7 : decode cX8_beside 7 = .ok (.invokevirtual 131, 3) := by decide +kernel
theorem dX8_beside_10 : decode cX8_beside 10 = .ok (.ifCond .ne 6, 3) := by decide +kernel
theorem dX8_beside_13 : decode cX8_beside 13 = .ok (.bipush (-3), 2) := by decide +kernel
theorem dX8_beside_15 : decode cX8_beside 15 = .ok (.ireturn, 1) := by decide +kernel
theorem dX8_beside_16 : decode cX8_beside 16 = .ok (.aload_n 0, 1) := by decide +kernel
theorem dX8_beside_17 : decode cX8_beside 17 = .ok (.getfield 12, 3) := by decide +kernel
theorem dX8_beside_20 : decode cX8_beside 20 = .ok (.getfield 60, 3) := by decide +kernel
theorem dX8_beside_23 : decode cX8_beside 23 = .ok (.getfield 138, 3) := by decide +kernel
theorem dX8_beside_26 : decode cX8_beside 26 = .ok (.istore_n 2, 1) := by decide +kernel
theorem dX8_beside_27 : decode cX8_beside 27 = .ok (.aload_n 0, 1) := by decide +kernel
theorem dX8_beside_28 : decode cX8_beside 28 = .ok (.getfield 12, 3) := by decide +kernel
theorem dX8_beside_31 : decode cX8_beside 31 = .ok (.getfield 60, 3) := by decide +kernel
theorem dX8_beside_34 : decode cX8_beside 34 = .ok (.iload_n 1, 1) := by decide +kernel
theorem dX8_beside_35 : decode cX8_beside 35 = .ok (.putfield 138, 3) := by decide +kernel
theorem dX8_beside_38 : decode cX8_beside 38 = .ok (.iload_n 2, 1) := by decide +kernel
theorem dX8_beside_39 : decode cX8_beside 39 = .ok (.iload_n 1, 1) := by decide +kernel
theorem dX8_beside_40 : decode cX8_beside 40 = .ok (.if_icmp .ne 7, 3) := by decide +kernel
theorem dX8_beside_43 : decode cX8_beside 43 = .ok (.iconst 0, 1) := by decide +kernel
theorem dX8_beside_44 : decode cX8_beside 44 = .ok (.goto 4, 3) := by decide +kernel
theorem dX8_beside_47 : decode cX8_beside 47 = .ok (.iconst 1, 1) := by decide +kernel
theorem dX8_beside_48 : decode cX8_beside 48 = .ok (.ireturn, 1) := by decide +kernel
theorem dX8_buyer_0 : decode cX8_buyer 0 = .ok (.aload_n 0, 1) := by decide +kernel
theorem dX8_buyer_1 : decode cX8_buyer 1 = .ok (.getfield 12, 3) := by decide +kernel
theorem dX8_buyer_4 : decode cX8_buyer 4 = .ok (.getfield 60, 3) := by decide +kernel
theorem dX8_buyer_7 : decode cX8_buyer 7 = .ok (.iload_n 2, 1) := by decide +kernel
theorem dX8_buyer_8 : decode cX8_buyer 8 = .ok (.iload 4, 2) := by decide +kernel
theorem dX8_buyer_10 : decode cX8_buyer 10 = .ok (.invokevirtual 100, 3) := by decide +kernel
theorem dX8_buyer_13 : decode cX8_buyer 13 = .ok (.ifCond .ne 5, 3) := by decide +kernel
theorem dX8_buyer_16 : decode cX8_buyer 16 = .ok (.iconst (-1), 1) := by decide +kernel
theorem dX8_buyer_17 : decode cX8_buyer 17 = .ok (.ireturn, 1) := by decide +kernel
theorem dX8_buyer_18 : decode cX8_buyer 18 = .ok (.iload_n 1, 1) := by decide +kernel
theorem dX8_buyer_19 : decode cX8_buyer 19 = .ok (.iconst 0, 1) := by decide +kernel
theorem dX8_buyer_20 : decode cX8_buyer 20 = .ok (.iconst 2, 1) := by decide +kernel
theorem dX8_buyer_21 : decode cX8_buyer 21 = .ok (.invokestatic 108, 3) := by decide +kernel
theorem dX8_buyer_24 : decode cX8_buyer 24 = .ok (.ifCond .eq 13, 3) := by decide +kernel
theorem dX8_buyer_27 : decode cX8_buyer 27 = .ok (.iload_n 3, 1) := by decide +kernel
theorem dX8_buyer_28 : decode cX8_buyer 28 = .ok (.iconst 0, 1) := by decide +kernel
theorem dX8_buyer_29 : decode cX8_buyer 29 = .ok (.bipush 40, 2) := by decide +kernel
theorem dX8_buyer_31 : decode cX8_buyer 31 = .ok (.invokestatic 108, 3) := by decide +kernel
theorem dX8_buyer_34 : decode cX8_buyer 34 = .ok (.ifCond .ne 6, 3) := by decide +kernel
theorem dX8_buyer_37 : decode cX8_buyer 37 = .ok (.bipush (-2), 2) := by decide +kernel
theorem dX8_buyer_39 : decode cX8_buyer 39 = .ok (.ireturn, 1) := by decide +kernel
theorem dX8_buyer_40 : decode cX8_buyer 40 = .ok (.aload_n 0, 1) := by decide +kernel
theorem dX8_buyer_41 : decode cX8_buyer 41 = .ok (.getfield 12, 3) := by decide +kernel
theorem dX8_buyer_44 : decode cX8_buyer 44 = .ok (.getfield 70, 3) := by decide +kernel
theorem dX8_buyer_47 : decode cX8_buyer 47 = .ok (.getfield 74, 3) := by decide +kernel
theorem dX8_buyer_50 : decode cX8_buyer 50 = .ok (.bipush 10, 2) := by decide +kernel
theorem dX8_buyer_52 : decode cX8_buyer 52 = .ok (.if_icmp .lt 6, 3) := by decide +kernel
theorem dX8_buyer_55 : decode cX8_buyer 55 = .ok (.bipush (-4), 2) := by decide +kernel
theorem dX8_buyer_57 : decode cX8_buyer 57 = .ok (.ireturn, 1) := by decide +kernel
theorem dX8_buyer_58 : decode cX8_buyer 58 = .ok (.aload_n 0, 1) := by decide +kernel
theorem dX8_buyer_59 : decode cX8_buyer 59 = .ok (.getfield 12, 3) := by decide +kernel
theorem dX8_buyer_62 : decode cX8_buyer 62 = .ok (.getfield 70, 3) := by decide +kernel
theorem dX8_buyer_65 : decode cX8_buyer 65 = .ok (.iload_n 1, 1) := by decide +kernel
theorem dX8_buyer_66 : decode cX8_buyer 66 = .ok (.iload_n 2, 1) := by decide +kernel
theorem dX8_buyer_67 : decode cX8_buyer 67 = .ok (.iload_n 3, 1) := by decide +kernel
theorem dX8_buyer_68 : decode cX8_buyer 68 = .ok (.iload 4, 2) := by decide +kernel
theorem dX8_buyer_70 : decode cX8_buyer 70 = .ok (.invokevirtual 142, 3) := by decide +kernel
theorem dX8_buyer_73 : decode cX8_buyer 73 = .ok (.ireturn, 1) := by decide +kernel
theorem dX8_ofBuyer_0 : decode cX8_ofBuyer 0 = .ok (.aload_n 0, 1) := by decide +kernel
theorem dX8_ofBuyer_1 : decode cX8_ofBuyer 1 = .ok (.getfield 12, 3) := by decide +kernel
theorem dX8_ofBuyer_4 : decode cX8_ofBuyer 4 = .ok (.getfield 70, 3) := by decide +kernel
theorem dX8_ofBuyer_7 : decode cX8_ofBuyer 7 = .ok (.astore_n 3, 1) := by decide +kernel
theorem dX8_ofBuyer_8 : decode cX8_ofBuyer 8 = .ok (.aload_n 3, 1) := by decide +kernel
theorem dX8_ofBuyer_9 : decode cX8_ofBuyer 9 = .ok (.iload_n 1, 1) := by decide +kernel
theorem dX8_ofBuyer_10 : decode cX8_ofBuyer 10 = .ok (.invokevirtual 145, 3) := by decide +kernel
theorem dX8_ofBuyer_13 : decode cX8_ofBuyer 13 = .ok (.ifCond .ne 5, 3) := by decide +kernel
theorem dX8_ofBuyer_16 : decode cX8_ofBuyer 16 = .ok (.iconst (-1), 1) := by decide +kernel
theorem dX8_ofBuyer_17 : decode cX8_ofBuyer 17 = .ok (.ireturn, 1) := by decide +kernel
theorem dX8_ofBuyer_18 : decode cX8_ofBuyer 18 = .ok (.iload_n 2, 1) := by decide +kernel
theorem dX8_ofBuyer_19 : decode cX8_ofBuyer 19 = .ok (.tableswitch 57 0 3 #[29, 36, 43, 50], 29) := by decide +kernel
theorem dX8_ofBuyer_48 : decode cX8_ofBuyer 48 = .ok (.aload_n 3, 1) := by decide +kernel
theorem dX8_ofBuyer_49 : decode cX8_ofBuyer 49 = .ok (.getfield 148, 3) := by decide +kernel
theorem dX8_ofBuyer_52 : decode cX8_ofBuyer 52 = .ok (.iload_n 1, 1) := by decide +kernel
theorem dX8_ofBuyer_53 : decode cX8_ofBuyer 53 = .ok (.iaload, 1) := by decide +kernel
theorem dX8_ofBuyer_54 : decode cX8_ofBuyer 54 = .ok (.ireturn, 1) := by decide +kernel
theorem dX8_ofBuyer_55 : decode cX8_ofBuyer 55 = .ok (.aload_n 3, 1) := by decide +kernel
theorem dX8_ofBuyer_56 : decode cX8_ofBuyer 56 = .ok (.getfield 151, 3) := by decide +kernel
theorem dX8_ofBuyer_59 : decode cX8_ofBuyer 59 = .ok (.iload_n 1, 1) := by decide +kernel
theorem dX8_ofBuyer_60 : decode cX8_ofBuyer 60 = .ok (.iaload, 1) := by decide +kernel
theorem dX8_ofBuyer_61 : decode cX8_ofBuyer 61 = .ok (.ireturn, 1) := by decide +kernel
theorem dX8_ofBuyer_62 : decode cX8_ofBuyer 62 = .ok (.aload_n 3, 1) := by decide +kernel
theorem dX8_ofBuyer_63 : decode cX8_ofBuyer 63 = .ok (.getfield 154, 3) := by decide +kernel
theorem dX8_ofBuyer_66 : decode cX8_ofBuyer 66 = .ok (.iload_n 1, 1) := by decide +kernel
theorem dX8_ofBuyer_67 : decode cX8_ofBuyer 67 = .ok (.iaload, 1) := by decide +kernel
theorem dX8_ofBuyer_68 : decode cX8_ofBuyer 68 = .ok (.ireturn, 1) := by decide +kernel
theorem dX8_ofBuyer_69 : decode cX8_ofBuyer 69 = .ok (.aload_n 3, 1) := by decide +kernel
theorem dX8_ofBuyer_70 : decode cX8_ofBuyer 70 = .ok (.getfield 157, 3) := by decide +kernel
theorem dX8_ofBuyer_73 : decode cX8_ofBuyer 73 = .ok (.iload_n 1, 1) := by decide +kernel
theorem dX8_ofBuyer_74 : decode cX8_ofBuyer 74 = .ok (.iaload, 1) := by decide +kernel
theorem dX8_ofBuyer_75 : decode cX8_ofBuyer 75 = .ok (.ireturn, 1) := by decide +kernel
theorem dX8_ofBuyer_76 : decode cX8_ofBuyer 76 = .ok (.bipush (-2), 2) := by decide +kernel
theorem dX8_ofBuyer_78 : decode cX8_ofBuyer 78 = .ok (.ireturn, 1) := by decide +kernel
theorem dX8_worth_0 : decode cX8_worth 0 = .ok (.aload_n 0, 1) := by decide +kernel
theorem dX8_worth_1 : decode cX8_worth 1 = .ok (.getfield 12, 3) := by decide +kernel
theorem dX8_worth_4 : decode cX8_worth 4 = .ok (.getfield 70, 3) := by decide +kernel
theorem dX8_worth_7 : decode cX8_worth 7 = .ok (.iload_n 1, 1) := by decide +kernel
theorem dX8_worth_8 : decode cX8_worth 8 = .ok (.invokevirtual 145, 3) := by decide +kernel
theorem dX8_worth_11 : decode cX8_worth 11 = .ok (.ifCond .eq 18, 3) := by decide +kernel
theorem dX8_worth_14 : decode cX8_worth 14 = .ok (.aload_n 0, 1) := by decide +kernel
theorem dX8_worth_15 : decode cX8_worth 15 = .ok (.getfield 12, 3) := by decide +kernel
theorem dX8_worth_18 : decode cX8_worth 18 = .ok (.getfield 60, 3) := by decide +kernel
theorem dX8_worth_21 : decode cX8_worth 21 = .ok (.iload_n 2, 1) := by decide +kernel
theorem dX8_worth_22 : decode cX8_worth 22 = .ok (.iload_n 3, 1) := by decide +kernel
theorem dX8_worth_23 : decode cX8_worth 23 = .ok (.invokevirtual 100, 3) := by decide +kernel
theorem dX8_worth_26 : decode cX8_worth 26 = .ok (.ifCond .ne 5, 3) := by decide +kernel
theorem dX8_worth_29 : decode cX8_worth 29 = .ok (.iconst (-1), 1) := by decide +kernel
theorem dX8_worth_30 : decode cX8_worth 30 = .ok (.ireturn, 1) := by decide +kernel
theorem dX8_worth_31 : decode cX8_worth 31 = .ok (.aload_n 0, 1) := by decide +kernel
theorem dX8_worth_32 : decode cX8_worth 32 = .ok (.getfield 12, 3) := by decide +kernel
theorem dX8_worth_35 : decode cX8_worth 35 = .ok (.invokevirtual 160, 3) := by decide +kernel
theorem dX8_worth_38 : decode cX8_worth 38 = .ok (.aload_n 0, 1) := by decide +kernel
theorem dX8_worth_39 : decode cX8_worth 39 = .ok (.getfield 12, 3) := by decide +kernel
theorem dX8_worth_42 : decode cX8_worth 42 = .ok (.iload_n 1, 1) := by decide +kernel
theorem dX8_worth_43 : decode cX8_worth 43 = .ok (.iload_n 2, 1) := by decide +kernel
theorem dX8_worth_44 : decode cX8_worth 44 = .ok (.iload_n 3, 1) := by decide +kernel
theorem dX8_worth_45 : decode cX8_worth 45 = .ok (.invokevirtual 163, 3) := by decide +kernel
theorem dX8_worth_48 : decode cX8_worth 48 = .ok (.ireturn, 1) := by decide +kernel
theorem dX8_day_0 : decode cX8_day 0 = .ok (.iload_n 1, 1) := by decide +kernel
theorem dX8_day_1 : decode cX8_day 1 = .ok (.iconst 0, 1) := by decide +kernel
theorem dX8_day_2 : decode cX8_day 2 = .ok (.iconst 3, 1) := by decide +kernel
theorem dX8_day_3 : decode cX8_day 3 = .ok (.invokestatic 108, 3) := by decide +kernel
theorem dX8_day_6 : decode cX8_day 6 = .ok (.ifCond .ne 6, 3) := by decide +kernel
theorem dX8_day_9 : decode cX8_day 9 = .ok (.bipush (-2), 2) := by decide +kernel
theorem dX8_day_11 : decode cX8_day 11 = .ok (.ireturn, 1) := by decide +kernel
theorem dX8_day_12 : decode cX8_day 12 = .ok (.aload_n 0, 1) := by decide +kernel
theorem dX8_day_13 : decode cX8_day 13 = .ok (.getfield 12, 3) := by decide +kernel
theorem dX8_day_16 : decode cX8_day 16 = .ok (.getfield 60, 3) := by decide +kernel
theorem dX8_day_19 : decode cX8_day 19 = .ok (.invokevirtual 131, 3) := by decide +kernel
theorem dX8_day_22 : decode cX8_day 22 = .ok (.ifCond .ne 6, 3) := by decide +kernel
theorem dX8_day_25 : decode cX8_day 25 = .ok (.bipush (-3), 2) := by decide +kernel
theorem dX8_day_27 : decode cX8_day 27 = .ok (.ireturn, 1) := by decide +kernel
theorem dX8_day_28 : decode cX8_day 28 = .ok (.aload_n 0, 1) := by decide +kernel
theorem dX8_day_29 : decode cX8_day 29 = .ok (.getfield 12, 3) := by decide +kernel
theorem dX8_day_32 : decode cX8_day 32 = .ok (.invokevirtual 167, 3) := by decide +kernel
theorem dX8_day_35 : decode cX8_day 35 = .ok (.iload_n 1, 1) := by decide +kernel
theorem dX8_day_36 : decode cX8_day 36 = .ok (.tableswitch 63 0 2 #[28, 36, 55], 28) := by decide +kernel
theorem dX8_day_64 : decode cX8_day 64 = .ok (.aload_n 0, 1) := by decide +kernel
theorem dX8_day_65 : decode cX8_day 65 = .ok (.getfield 12, 3) := by decide +kernel
theorem dX8_day_68 : decode cX8_day 68 = .ok (.getfield 170, 3) := by decide +kernel
theorem dX8_day_71 : decode cX8_day 71 = .ok (.ireturn, 1) := by decide +kernel
theorem dX8_day_72 : decode cX8_day 72 = .ok (.aload_n 0, 1) := by decide +kernel
theorem dX8_day_73 : decode cX8_day 73 = .ok (.getfield 12, 3) := by decide +kernel
theorem dX8_day_76 : decode cX8_day 76 = .ok (.getfield 60, 3) := by decide +kernel
theorem dX8_day_79 : decode cX8_day 79 = .ok (.invokevirtual 173, 3) := by decide +kernel
theorem dX8_day_82 : decode cX8_day 82 = .ok (.aload_n 0, 1) := by decide +kernel
theorem dX8_day_83 : decode cX8_day 83 = .ok (.getfield 12, 3) := by decide +kernel
theorem dX8_day_86 : decode cX8_day 86 = .ok (.invokevirtual 177, 3) := by decide +kernel
theorem dX8_day_89 : decode cX8_day 89 = .ok (.isub, 1) := by decide +kernel
theorem dX8_day_90 : decode cX8_day 90 = .ok (.ireturn, 1) := by decide +kernel
theorem dX8_day_91 : decode cX8_day 91 = .ok (.aload_n 0, 1) := by decide +kernel
theorem dX8_day_92 : decode cX8_day 92 = .ok (.getfield 12, 3) := by decide +kernel
theorem dX8_day_95 : decode cX8_day 95 = .ok (.invokevirtual 177, 3) := by decide +kernel
theorem dX8_day_98 : decode cX8_day 98 = .ok (.ireturn, 1) := by decide +kernel
theorem dX8_day_99 : decode cX8_day 99 = .ok (.aload_n 0, 1) := by decide +kernel
theorem dX8_day_100 : decode cX8_day 100 = .ok (.getfield 12, 3) := by decide +kernel
theorem dX8_day_103 : decode cX8_day 103 = .ok (.invokevirtual 180, 3) := by decide +kernel
theorem dX8_day_106 : decode cX8_day 106 = .ok (.ireturn, 1) := by decide +kernel
theorem dX8_bought_0 : decode cX8_bought 0 = .ok (.aload_n 0, 1) := by decide +kernel
theorem dX8_bought_1 : decode cX8_bought 1 = .ok (.getfield 12, 3) := by decide +kernel
theorem dX8_bought_4 : decode cX8_bought 4 = .ok (.getfield 70, 3) := by decide +kernel
theorem dX8_bought_7 : decode cX8_bought 7 = .ok (.iload_n 1, 1) := by decide +kernel
theorem dX8_bought_8 : decode cX8_bought 8 = .ok (.invokevirtual 145, 3) := by decide +kernel
theorem dX8_bought_11 : decode cX8_bought 11 = .ok (.ifCond .ne 5, 3) := by decide +kernel
theorem dX8_bought_14 : decode cX8_bought 14 = .ok (.iconst (-1), 1) := by decide +kernel
theorem dX8_bought_15 : decode cX8_bought 15 = .ok (.ireturn, 1) := by decide +kernel
theorem dX8_bought_16 : decode cX8_bought 16 = .ok (.iload_n 2, 1) := by decide +kernel
theorem dX8_bought_17 : decode cX8_bought 17 = .ok (.iconst 0, 1) := by decide +kernel
theorem dX8_bought_18 : decode cX8_bought 18 = .ok (.iconst 3, 1) := by decide +kernel
theorem dX8_bought_19 : decode cX8_bought 19 = .ok (.invokestatic 108, 3) := by decide +kernel
theorem dX8_bought_22 : decode cX8_bought 22 = .ok (.ifCond .ne 6, 3) := by decide +kernel
theorem dX8_bought_25 : decode cX8_bought 25 = .ok (.bipush (-2), 2) := by decide +kernel
theorem dX8_bought_27 : decode cX8_bought 27 = .ok (.ireturn, 1) := by decide +kernel
theorem dX8_bought_28 : decode cX8_bought 28 = .ok (.aload_n 0, 1) := by decide +kernel
theorem dX8_bought_29 : decode cX8_bought 29 = .ok (.getfield 12, 3) := by decide +kernel
theorem dX8_bought_32 : decode cX8_bought 32 = .ok (.invokevirtual 167, 3) := by decide +kernel
theorem dX8_bought_35 : decode cX8_bought 35 = .ok (.iload_n 2, 1) := by decide +kernel
theorem dX8_bought_36 : decode cX8_bought 36 = .ok (.tableswitch 58 0 2 #[28, 38, 48], 28) := by decide +kernel
theorem dX8_bought_64 : decode cX8_bought 64 = .ok (.aload_n 0, 1) := by decide +kernel
theorem dX8_bought_65 : decode cX8_bought 65 = .ok (.getfield 12, 3) := by decide +kernel
theorem dX8_bought_68 : decode cX8_bought 68 = .ok (.getfield 183, 3) := by decide +kernel
theorem dX8_bought_71 : decode cX8_bought 71 = .ok (.iload_n 1, 1) := by decide +kernel
theorem dX8_bought_72 : decode cX8_bought 72 = .ok (.iaload, 1) := by decide +kernel
theorem dX8_bought_73 : decode cX8_bought 73 = .ok (.ireturn, 1) := by decide +kernel
theorem dX8_bought_74 : decode cX8_bought 74 = .ok (.aload_n 0, 1) := by decide +kernel
theorem dX8_bought_75 : decode cX8_bought 75 = .ok (.getfield 12, 3) := by decide +kernel
theorem dX8_bought_78 : decode cX8_bought 78 = .ok (.getfield 186, 3) := by decide +kernel
theorem dX8_bought_81 : decode cX8_bought 81 = .ok (.iload_n 1, 1) := by decide +kernel
theorem dX8_bought_82 : decode cX8_bought 82 = .ok (.iaload, 1) := by decide +kernel
theorem dX8_bought_83 : decode cX8_bought 83 = .ok (.ireturn, 1) := by decide +kernel
theorem dX8_bought_84 : decode cX8_bought 84 = .ok (.aload_n 0, 1) := by decide +kernel
theorem dX8_bought_85 : decode cX8_bought 85 = .ok (.getfield 12, 3) := by decide +kernel
theorem dX8_bought_88 : decode cX8_bought 88 = .ok (.getfield 189, 3) := by decide +kernel
theorem dX8_bought_91 : decode cX8_bought 91 = .ok (.iload_n 1, 1) := by decide +kernel
theorem dX8_bought_92 : decode cX8_bought 92 = .ok (.iaload, 1) := by decide +kernel
theorem dX8_bought_93 : decode cX8_bought 93 = .ok (.ireturn, 1) := by decide +kernel
theorem dX8_bought_94 : decode cX8_bought 94 = .ok (.aload_n 0, 1) := by decide +kernel
theorem dX8_bought_95 : decode cX8_bought 95 = .ok (.getfield 12, 3) := by decide +kernel
theorem dX8_bought_98 : decode cX8_bought 98 = .ok (.getfield 192, 3) := by decide +kernel
theorem dX8_bought_101 : decode cX8_bought 101 = .ok (.iload_n 1, 1) := by decide +kernel
theorem dX8_bought_102 : decode cX8_bought 102 = .ok (.iaload, 1) := by decide +kernel
theorem dX8_bought_103 : decode cX8_bought 103 = .ok (.ireturn, 1) := by decide +kernel
theorem dX8_sold_0 : decode cX8_sold 0 = .ok (.aload_n 0, 1) := by decide +kernel
theorem dX8_sold_1 : decode cX8_sold 1 = .ok (.getfield 12, 3) := by decide +kernel
theorem dX8_sold_4 : decode cX8_sold 4 = .ok (.getfield 60, 3) := by decide +kernel
theorem dX8_sold_7 : decode cX8_sold 7 = .ok (.iload_n 1, 1) := by decide +kernel
theorem dX8_sold_8 : decode cX8_sold 8 = .ok (.invokevirtual 83, 3) := by decide +kernel
theorem dX8_sold_11 : decode cX8_sold 11 = .ok (.ifCond .ne 5, 3) := by decide +kernel
theorem dX8_sold_14 : decode cX8_sold 14 = .ok (.iconst (-1), 1) := by decide +kernel
theorem dX8_sold_15 : decode cX8_sold 15 = .ok (.ireturn, 1) := by decide +kernel
theorem dX8_sold_16 : decode cX8_sold 16 = .ok (.iload_n 2, 1) := by decide +kernel
theorem dX8_sold_17 : decode cX8_sold 17 = .ok (.iconst 0, 1) := by decide +kernel
theorem dX8_sold_18 : decode cX8_sold 18 = .ok (.iconst 2, 1) := by decide +kernel
theorem dX8_sold_19 : decode cX8_sold 19 = .ok (.invokestatic 108, 3) := by decide +kernel
theorem dX8_sold_22 : decode cX8_sold 22 = .ok (.ifCond .ne 6, 3) := by decide +kernel
theorem dX8_sold_25 : decode cX8_sold 25 = .ok (.bipush (-2), 2) := by decide +kernel
theorem dX8_sold_27 : decode cX8_sold 27 = .ok (.ireturn, 1) := by decide +kernel
theorem dX8_sold_28 : decode cX8_sold 28 = .ok (.aload_n 0, 1) := by decide +kernel
theorem dX8_sold_29 : decode cX8_sold 29 = .ok (.getfield 12, 3) := by decide +kernel
theorem dX8_sold_32 : decode cX8_sold 32 = .ok (.invokevirtual 167, 3) := by decide +kernel
theorem dX8_sold_35 : decode cX8_sold 35 = .ok (.iload_n 2, 1) := by decide +kernel
theorem dX8_sold_36 : decode cX8_sold 36 = .ok (.lookupswitch 48 #[(0, 28), (1, 38)], 28) := by decide +kernel
theorem dX8_sold_64 : decode cX8_sold 64 = .ok (.aload_n 0, 1) := by decide +kernel
theorem dX8_sold_65 : decode cX8_sold 65 = .ok (.getfield 12, 3) := by decide +kernel
theorem dX8_sold_68 : decode cX8_sold 68 = .ok (.getfield 195, 3) := by decide +kernel
theorem dX8_sold_71 : decode cX8_sold 71 = .ok (.iload_n 1, 1) := by decide +kernel
theorem dX8_sold_72 : decode cX8_sold 72 = .ok (.iaload, 1) := by decide +kernel
theorem dX8_sold_73 : decode cX8_sold 73 = .ok (.ireturn, 1) := by decide +kernel
theorem dX8_sold_74 : decode cX8_sold 74 = .ok (.aload_n 0, 1) := by decide +kernel
theorem dX8_sold_75 : decode cX8_sold 75 = .ok (.getfield 12, 3) := by decide +kernel
theorem dX8_sold_78 : decode cX8_sold 78 = .ok (.getfield 198, 3) := by decide +kernel
theorem dX8_sold_81 : decode cX8_sold 81 = .ok (.iload_n 1, 1) := by decide +kernel
theorem dX8_sold_82 : decode cX8_sold 82 = .ok (.iaload, 1) := by decide +kernel
theorem dX8_sold_83 : decode cX8_sold 83 = .ok (.ireturn, 1) := by decide +kernel
theorem dX8_sold_84 : decode cX8_sold 84 = .ok (.aload_n 0, 1) := by decide +kernel
theorem dX8_sold_85 : decode cX8_sold 85 = .ok (.getfield 12, 3) := by decide +kernel
theorem dX8_sold_88 : decode cX8_sold 88 = .ok (.getfield 201, 3) := by decide +kernel
theorem dX8_sold_91 : decode cX8_sold 91 = .ok (.iload_n 1, 1) := by decide +kernel
theorem dX8_sold_92 : decode cX8_sold 92 = .ok (.iaload, 1) := by decide +kernel
theorem dX8_sold_93 : decode cX8_sold 93 = .ok (.ireturn, 1) := by decide +kernel
theorem dX8_best_0 : decode cX8_best 0 = .ok (.aload_n 0, 1) := by decide +kernel
theorem dX8_best_1 : decode cX8_best 1 = .ok (.getfield 12, 3) := by decide +kernel
theorem dX8_best_4 : decode cX8_best 4 = .ok (.getfield 60, 3) := by decide +kernel
theorem dX8_best_7 : decode cX8_best 7 = .ok (.iload_n 1, 1) := by decide +kernel
theorem dX8_best_8 : decode cX8_best 8 = .ok (.iload_n 2, 1) := by decide +kernel
theorem dX8_best_9 : decode cX8_best 9 = .ok (.invokevirtual 100, 3) := by decide +kernel
theorem dX8_best_12 : decode cX8_best 12 = .ok (.ifCond .ne 5, 3) := by decide +kernel
theorem dX8_best_15 : decode cX8_best 15 = .ok (.iconst (-1), 1) := by decide +kernel
theorem dX8_best_16 : decode cX8_best 16 = .ok (.ireturn, 1) := by decide +kernel
theorem dX8_best_17 : decode cX8_best 17 = .ok (.iload_n 3, 1) := by decide +kernel
theorem dX8_best_18 : decode cX8_best 18 = .ok (.iconst 0, 1) := by decide +kernel
theorem dX8_best_19 : decode cX8_best 19 = .ok (.iconst 1, 1) := by decide +kernel
theorem dX8_best_20 : decode cX8_best 20 = .ok (.invokestatic 108, 3) := by decide +kernel
theorem dX8_best_23 : decode cX8_best 23 = .ok (.ifCond .ne 6, 3) := by decide +kernel
theorem dX8_best_26 : decode cX8_best 26 = .ok (.bipush (-2), 2) := by decide +kernel
theorem dX8_best_28 : decode cX8_best 28 = .ok (.ireturn, 1) := by decide +kernel
theorem dX8_best_29 : decode cX8_best 29 = .ok (.aload_n 0, 1) := by decide +kernel
theorem dX8_best_30 : decode cX8_best 30 = .ok (.getfield 21, 3) := by decide +kernel
theorem dX8_best_33 : decode cX8_best 33 = .ok (.aload_n 0, 1) := by decide +kernel
theorem dX8_best_34 : decode cX8_best 34 = .ok (.getfield 12, 3) := by decide +kernel
theorem dX8_best_37 : decode cX8_best 37 = .ok (.iload_n 1, 1) := by decide +kernel
theorem dX8_best_38 : decode cX8_best 38 = .ok (.iload_n 2, 1) := by decide +kernel
theorem dX8_best_39 : decode cX8_best 39 = .ok (.invokevirtual 204, 3) := by decide +kernel
theorem dX8_best_42 : decode cX8_best 42 = .ok (.iload_n 3, 1) := by decide +kernel
theorem dX8_best_43 : decode cX8_best 43 = .ok (.ifCond .ne 13, 3) := by decide +kernel
theorem dX8_best_46 : decode cX8_best 46 = .ok (.aload_n 0, 1) := by decide +kernel
theorem dX8_best_47 : decode cX8_best 47 = .ok (.getfield 21, 3) := by decide +kernel
theorem dX8_best_50 : decode cX8_best 50 = .ok (.getfield 208, 3) := by decide +kernel
theorem dX8_best_53 : decode cX8_best 53 = .ok (.goto 10, 3) := by decide +kernel
theorem dX8_best_56 : decode cX8_best 56 = .ok (.aload_n 0, 1) := by decide +kernel
theorem dX8_best_57 : decode cX8_best 57 = .ok (.getfield 21, 3) := by decide +kernel
theorem dX8_best_60 : decode cX8_best 60 = .ok (.getfield 211, 3) := by decide +kernel
theorem dX8_best_63 : decode cX8_best 63 = .ok (.ireturn, 1) := by decide +kernel
theorem dX8_takeOff_0 : decode cX8_takeOff 0 = .ok (.iload_n 1, 1) := by decide +kernel
theorem dX8_takeOff_1 : decode cX8_takeOff 1 = .ok (.iconst 0, 1) := by decide +kernel
theorem dX8_takeOff_2 : decode cX8_takeOff 2 = .ok (.iconst 2, 1) := by decide +kernel
theorem dX8_takeOff_3 : decode cX8_takeOff 3 = .ok (.invokestatic 108, 3) := by decide +kernel
theorem dX8_takeOff_6 : decode cX8_takeOff 6 = .ok (.ifCond .ne 6, 3) := by decide +kernel
theorem dX8_takeOff_9 : decode cX8_takeOff 9 = .ok (.bipush (-2), 2) := by decide +kernel
theorem dX8_takeOff_11 : decode cX8_takeOff 11 = .ok (.ireturn, 1) := by decide +kernel
theorem dX8_takeOff_12 : decode cX8_takeOff 12 = .ok (.aload_n 0, 1) := by decide +kernel
theorem dX8_takeOff_13 : decode cX8_takeOff 13 = .ok (.getfield 12, 3) := by decide +kernel
theorem dX8_takeOff_16 : decode cX8_takeOff 16 = .ok (.getfield 60, 3) := by decide +kernel
theorem dX8_takeOff_19 : decode cX8_takeOff 19 = .ok (.invokevirtual 131, 3) := by decide +kernel
theorem dX8_takeOff_22 : decode cX8_takeOff 22 = .ok (.ifCond .ne 6, 3) := by decide +kernel
theorem dX8_takeOff_25 : decode cX8_takeOff 25 = .ok (.bipush (-3), 2) := by decide +kernel
theorem dX8_takeOff_27 : decode cX8_takeOff 27 = .ok (.ireturn, 1) := by decide +kernel
theorem dX8_takeOff_28 : decode cX8_takeOff 28 = .ok (.aload_n 0, 1) := by decide +kernel
theorem dX8_takeOff_29 : decode cX8_takeOff 29 = .ok (.getfield 21, 3) := by decide +kernel
theorem dX8_takeOff_32 : decode cX8_takeOff 32 = .ok (.aload_n 0, 1) := by decide +kernel
theorem dX8_takeOff_33 : decode cX8_takeOff 33 = .ok (.getfield 12, 3) := by decide +kernel
theorem dX8_takeOff_36 : decode cX8_takeOff 36 = .ok (.invokevirtual 213, 3) := by decide +kernel
theorem dX8_takeOff_39 : decode cX8_takeOff 39 = .ok (.iload_n 1, 1) := by decide +kernel
theorem dX8_takeOff_40 : decode cX8_takeOff 40 = .ok (.lookupswitch 44 #[(0, 28), (1, 36)], 28) := by decide +kernel
theorem dX8_takeOff_68 : decode cX8_takeOff 68 = .ok (.aload_n 0, 1) := by decide +kernel
theorem dX8_takeOff_69 : decode cX8_takeOff 69 = .ok (.getfield 21, 3) := by decide +kernel
theorem dX8_takeOff_72 : decode cX8_takeOff 72 = .ok (.getfield 211, 3) := by decide +kernel
theorem dX8_takeOff_75 : decode cX8_takeOff 75 = .ok (.ireturn, 1) := by decide +kernel
theorem dX8_takeOff_76 : decode cX8_takeOff 76 = .ok (.aload_n 0, 1) := by decide +kernel
theorem dX8_takeOff_77 : decode cX8_takeOff 77 = .ok (.getfield 21, 3) := by decide +kernel
theorem dX8_takeOff_80 : decode cX8_takeOff 80 = .ok (.getfield 217, 3) := by decide +kernel
theorem dX8_takeOff_83 : decode cX8_takeOff 83 = .ok (.ireturn, 1) := by decide +kernel
theorem dX8_takeOff_84 : decode cX8_takeOff 84 = .ok (.aload_n 0, 1) := by decide +kernel
theorem dX8_takeOff_85 : decode cX8_takeOff 85 = .ok (.getfield 21, 3) := by decide +kernel
theorem dX8_takeOff_88 : decode cX8_takeOff 88 = .ok (.getfield 208, 3) := by decide +kernel
theorem dX8_takeOff_91 : decode cX8_takeOff 91 = .ok (.ireturn, 1) := by decide +kernel
theorem dX8_fetch_0 : decode cX8_fetch 0 = .ok (.iload_n 1, 1) := by decide +kernel
theorem dX8_fetch_1 : decode cX8_fetch 1 = .ok (.iconst (-1), 1) := by decide +kernel
theorem dX8_fetch_2 : decode cX8_fetch 2 = .ok (.iconst 3, 1) := by decide +kernel
theorem dX8_fetch_3 : decode cX8_fetch 3 = .ok (.invokestatic 108, 3) := by decide +kernel
theorem dX8_fetch_6 : decode cX8_fetch 6 = .ok (.ifCond .ne 5, 3) := by decide +kernel
theorem dX8_fetch_9 : decode cX8_fetch 9 = .ok (.iconst (-1), 1) := by decide +kernel
theorem dX8_fetch_10 : decode cX8_fetch 10 = .ok (.ireturn, 1) := by decide +kernel
theorem dX8_fetch_11 : decode cX8_fetch 11 = .ok (.aload_n 0, 1) := by decide +kernel
theorem dX8_fetch_12 : decode cX8_fetch 12 = .ok (.getfield 12, 3) := by decide +kernel
theorem dX8_fetch_15 : decode cX8_fetch 15 = .ok (.getfield 60, 3) := by decide +kernel
theorem dX8_fetch_18 : decode cX8_fetch 18 = .ok (.invokevirtual 131, 3) := by decide +kernel
theorem dX8_fetch_21 : decode cX8_fetch 21 = .ok (.ifCond .ne 6, 3) := by decide +kernel
theorem dX8_fetch_24 : decode cX8_fetch 24 = .ok (.bipush (-3), 2) := by decide +kernel
theorem dX8_fetch_26 : decode cX8_fetch 26 = .ok (.ireturn, 1) := by decide +kernel
theorem dX8_fetch_27 : decode cX8_fetch 27 = .ok (.iload_n 1, 1) := by decide +kernel
theorem dX8_fetch_28 : decode cX8_fetch 28 = .ok (.ifCond .lt 20, 3) := by decide +kernel
theorem dX8_fetch_31 : decode cX8_fetch 31 = .ok (.aload_n 0, 1) := by decide +kernel
theorem dX8_fetch_32 : decode cX8_fetch 32 = .ok (.getfield 12, 3) := by decide +kernel
theorem dX8_fetch_35 : decode cX8_fetch 35 = .ok (.getfield 60, 3) := by decide +kernel
theorem dX8_fetch_38 : decode cX8_fetch 38 = .ok (.iload_n 1, 1) := by decide +kernel
theorem dX8_fetch_39 : decode cX8_fetch 39 = .ok (.invokevirtual 83, 3) := by decide +kernel
theorem dX8_fetch_42 : decode cX8_fetch 42 = .ok (.ifCond .ne 6, 3) := by decide +kernel
theorem dX8_fetch_45 : decode cX8_fetch 45 = .ok (.bipush (-9), 2) := by decide +kernel
theorem dX8_fetch_47 : decode cX8_fetch 47 = .ok (.ireturn, 1) := by decide +kernel
theorem dX8_fetch_48 : decode cX8_fetch 48 = .ok (.aload_n 0, 1) := by decide +kernel
theorem dX8_fetch_49 : decode cX8_fetch 49 = .ok (.getfield 21, 3) := by decide +kernel
theorem dX8_fetch_52 : decode cX8_fetch 52 = .ok (.aload_n 0, 1) := by decide +kernel
theorem dX8_fetch_53 : decode cX8_fetch 53 = .ok (.getfield 12, 3) := by decide +kernel
theorem dX8_fetch_56 : decode cX8_fetch 56 = .ok (.invokevirtual 219, 3) := by decide +kernel
theorem dX8_fetch_59 : decode cX8_fetch 59 = .ok (.iload_n 1, 1) := by decide +kernel
theorem dX8_fetch_60 : decode cX8_fetch 60 = .ok (.ifCond .ge 13, 3) := by decide +kernel
theorem dX8_fetch_63 : decode cX8_fetch 63 = .ok (.aload_n 0, 1) := by decide +kernel
theorem dX8_fetch_64 : decode cX8_fetch 64 = .ok (.getfield 21, 3) := by decide +kernel
theorem dX8_fetch_67 : decode cX8_fetch 67 = .ok (.getfield 211, 3) := by decide +kernel
theorem dX8_fetch_70 : decode cX8_fetch 70 = .ok (.goto 12, 3) := by decide +kernel
theorem dX8_fetch_73 : decode cX8_fetch 73 = .ok (.aload_n 0, 1) := by decide +kernel
theorem dX8_fetch_74 : decode cX8_fetch 74 = .ok (.getfield 21, 3) := by decide +kernel
theorem dX8_fetch_77 : decode cX8_fetch 77 = .ok (.getfield 222, 3) := by decide +kernel
theorem dX8_fetch_80 : decode cX8_fetch 80 = .ok (.iload_n 1, 1) := by decide +kernel
theorem dX8_fetch_81 : decode cX8_fetch 81 = .ok (.iaload, 1) := by decide +kernel
theorem dX8_fetch_82 : decode cX8_fetch 82 = .ok (.ireturn, 1) := by decide +kernel
theorem dX8_carried_0 : decode cX8_carried 0 = .ok (.aload_n 0, 1) := by decide +kernel
theorem dX8_carried_1 : decode cX8_carried 1 = .ok (.getfield 12, 3) := by decide +kernel
theorem dX8_carried_4 : decode cX8_carried 4 = .ok (.getfield 60, 3) := by decide +kernel
theorem dX8_carried_7 : decode cX8_carried 7 = .ok (.iload_n 1, 1) := by decide +kernel
theorem dX8_carried_8 : decode cX8_carried 8 = .ok (.invokevirtual 83, 3) := by decide +kernel
theorem dX8_carried_11 : decode cX8_carried 11 = .ok (.ifCond .ne 5, 3) := by decide +kernel
theorem dX8_carried_14 : decode cX8_carried 14 = .ok (.iconst (-1), 1) := by decide +kernel
theorem dX8_carried_15 : decode cX8_carried 15 = .ok (.ireturn, 1) := by decide +kernel
theorem dX8_carried_16 : decode cX8_carried 16 = .ok (.aload_n 0, 1) := by decide +kernel
theorem dX8_carried_17 : decode cX8_carried 17 = .ok (.getfield 12, 3) := by decide +kernel
theorem dX8_carried_20 : decode cX8_carried 20 = .ok (.invokevirtual 167, 3) := by decide +kernel
theorem dX8_carried_23 : decode cX8_carried 23 = .ok (.aload_n 0, 1) := by decide +kernel
theorem dX8_carried_24 : decode cX8_carried 24 = .ok (.getfield 12, 3) := by decide +kernel
theorem dX8_carried_27 : decode cX8_carried 27 = .ok (.invokevirtual 180, 3) := by decide +kernel
theorem dX8_carried_30 : decode cX8_carried 30 = .ok (.aload_n 0, 1) := by decide +kernel
theorem dX8_carried_31 : decode cX8_carried 31 = .ok (.getfield 21, 3) := by decide +kernel
theorem dX8_carried_34 : decode cX8_carried 34 = .ok (.aload_n 0, 1) := by decide +kernel
theorem dX8_carried_35 : decode cX8_carried 35 = .ok (.getfield 12, 3) := by decide +kernel
theorem dX8_carried_38 : decode cX8_carried 38 = .ok (.iload_n 1, 1) := by decide +kernel
theorem dX8_carried_39 : decode cX8_carried 39 = .ok (.invokevirtual 225, 3) := by decide +kernel
theorem dX8_carried_42 : decode cX8_carried 42 = .ok (.isub, 1) := by decide +kernel
theorem dX8_carried_43 : decode cX8_carried 43 = .ok (.ireturn, 1) := by decide +kernel
theorem dX8_cook_0 : decode cX8_cook 0 = .ok (.aload_n 0, 1) := by decide +kernel
theorem dX8_cook_1 : decode cX8_cook 1 = .ok (.getfield 12, 3) := by decide +kernel
theorem dX8_cook_4 : decode cX8_cook 4 = .ok (.getfield 60, 3) := by decide +kernel
theorem dX8_cook_7 : decode cX8_cook 7 = .ok (.iload_n 1, 1) := by decide +kernel
theorem dX8_cook_8 : decode cX8_cook 8 = .ok (.iload_n 2, 1) := by decide +kernel
theorem dX8_cook_9 : decode cX8_cook 9 = .ok (.invokevirtual 100, 3) := by decide +kernel
theorem dX8_cook_12 : decode cX8_cook 12 = .ok (.ifCond .ne 5, 3) := by decide +kernel
theorem dX8_cook_15 : decode cX8_cook 15 = .ok (.iconst (-1), 1) := by decide +kernel
theorem dX8_cook_16 : decode cX8_cook 16 = .ok (.ireturn, 1) := by decide +kernel
theorem dX8_cook_17 : decode cX8_cook 17 = .ok (.iload_n 3, 1) := by decide +kernel
theorem dX8_cook_18 : decode cX8_cook 18 = .ok (.iconst 0, 1) := by decide +kernel
theorem dX8_cook_19 : decode cX8_cook 19 = .ok (.bipush 30, 2) := by decide +kernel
theorem dX8_cook_21 : decode cX8_cook 21 = .ok (.invokestatic 108, 3) := by decide +kernel
theorem dX8_cook_24 : decode cX8_cook 24 = .ok (.ifCond .ne 6, 3) := by decide +kernel
theorem dX8_cook_27 : decode cX8_cook 27 = .ok (.bipush (-2), 2) := by decide +kernel
theorem dX8_cook_29 : decode cX8_cook 29 = .ok (.ireturn, 1) := by decide +kernel
theorem dX8_cook_30 : decode cX8_cook 30 = .ok (.aload_n 0, 1) := by decide +kernel
theorem dX8_cook_31 : decode cX8_cook 31 = .ok (.getfield 12, 3) := by decide +kernel
theorem dX8_cook_34 : decode cX8_cook 34 = .ok (.invokevirtual 167, 3) := by decide +kernel
theorem dX8_cook_37 : decode cX8_cook 37 = .ok (.aload_n 0, 1) := by decide +kernel
theorem dX8_cook_38 : decode cX8_cook 38 = .ok (.getfield 21, 3) := by decide +kernel
theorem dX8_cook_41 : decode cX8_cook 41 = .ok (.aload_n 0, 1) := by decide +kernel
theorem dX8_cook_42 : decode cX8_cook 42 = .ok (.getfield 12, 3) := by decide +kernel
theorem dX8_cook_45 : decode cX8_cook 45 = .ok (.iload_n 1, 1) := by decide +kernel
theorem dX8_cook_46 : decode cX8_cook 46 = .ok (.iload_n 2, 1) := by decide +kernel
theorem dX8_cook_47 : decode cX8_cook 47 = .ok (.iload_n 3, 1) := by decide +kernel
theorem dX8_cook_48 : decode cX8_cook 48 = .ok (.invokevirtual 229, 3) := by decide +kernel
theorem dX8_cook_51 : decode cX8_cook 51 = .ok (.aload_n 0, 1) := by decide +kernel
theorem dX8_cook_52 : decode cX8_cook 52 = .ok (.getfield 12, 3) := by decide +kernel
theorem dX8_cook_55 : decode cX8_cook 55 = .ok (.invokevirtual 180, 3) := by decide +kernel
theorem dX8_cook_58 : decode cX8_cook 58 = .ok (.isub, 1) := by decide +kernel
theorem dX8_cook_59 : decode cX8_cook 59 = .ok (.ireturn, 1) := by decide +kernel
theorem dX8_mean_0 : decode cX8_mean 0 = .ok (.aload_n 0, 1) := by decide +kernel
theorem dX8_mean_1 : decode cX8_mean 1 = .ok (.iload_n 1, 1) := by decide +kernel
theorem dX8_mean_2 : decode cX8_mean 2 = .ok (.iload_n 2, 1) := by decide +kernel
theorem dX8_mean_3 : decode cX8_mean 3 = .ok (.iload_n 3, 1) := by decide +kernel
theorem dX8_mean_4 : decode cX8_mean 4 = .ok (.iload 4, 2) := by decide +kernel
theorem dX8_mean_6 : decode cX8_mean 6 = .ok (.invokevirtual 46, 3) := by decide +kernel
theorem dX8_mean_9 : decode cX8_mean 9 = .ok (.ifCond .ne 25, 3) := by decide +kernel
theorem dX8_mean_12 : decode cX8_mean 12 = .ok (.aload_n 0, 1) := by decide +kernel
theorem dX8_mean_13 : decode cX8_mean 13 = .ok (.getfield 35, 3) := by decide +kernel
theorem dX8_mean_16 : decode cX8_mean 16 = .ok (.aload_n 0, 1) := by decide +kernel
theorem dX8_mean_17 : decode cX8_mean 17 = .ok (.getfield 28, 3) := by decide +kernel
theorem dX8_mean_20 : decode cX8_mean 20 = .ok (.getfield 50, 3) := by decide +kernel
theorem dX8_mean_23 : decode cX8_mean 23 = .ok (.iload_n 1, 1) := by decide +kernel
theorem dX8_mean_24 : decode cX8_mean 24 = .ok (.aaload, 1) := by decide +kernel
theorem dX8_mean_25 : decode cX8_mean 25 = .ok (.iload_n 3, 1) := by decide +kernel
theorem dX8_mean_26 : decode cX8_mean 26 = .ok (.iload 4, 2) := by decide +kernel
theorem dX8_mean_28 : decode cX8_mean 28 = .ok (.invokevirtual 233, 3) := by decide +kernel
theorem dX8_mean_31 : decode cX8_mean 31 = .ok (.ifCond .ne 7, 3) := by decide +kernel
theorem dX8_mean_34 : decode cX8_mean 34 = .ok (.ldc2_w 237, 3) := by decide +kernel
theorem dX8_mean_37 : decode cX8_mean 37 = .ok (.lreturn, 1) := by decide +kernel
theorem dX8_mean_38 : decode cX8_mean 38 = .ok (.iload 5, 2) := by decide +kernel
theorem dX8_mean_40 : decode cX8_mean 40 = .ok (.iconst 0, 1) := by decide +kernel
theorem dX8_mean_41 : decode cX8_mean 41 = .ok (.bipush 20, 2) := by decide +kernel
theorem dX8_mean_43 : decode cX8_mean 43 = .ok (.invokestatic 108, 3) := by decide +kernel
theorem dX8_mean_46 : decode cX8_mean 46 = .ok (.ifCond .eq 25, 3) := by decide +kernel
theorem dX8_mean_49 : decode cX8_mean 49 = .ok (.iload 6, 2) := by decide +kernel
theorem dX8_mean_51 : decode cX8_mean 51 = .ok (.iload 7, 2) := by decide +kernel
theorem dX8_mean_53 : decode cX8_mean 53 = .ok (.iload 8, 2) := by decide +kernel
theorem dX8_mean_55 : decode cX8_mean 55 = .ok (.invokestatic 239, 3) := by decide +kernel
theorem dX8_mean_58 : decode cX8_mean 58 = .ok (.ifCond .eq 13, 3) := by decide +kernel
theorem dX8_mean_61 : decode cX8_mean 61 = .ok (.iload 9, 2) := by decide +kernel
theorem dX8_mean_63 : decode cX8_mean 63 = .ok (.iconst 0, 1) := by decide +kernel
theorem dX8_mean_64 : decode cX8_mean 64 = .ok (.iconst 1, 1) := by decide +kernel
theorem dX8_mean_65 : decode cX8_mean 65 = .ok (.invokestatic 108, 3) := by decide +kernel
theorem dX8_mean_68 : decode cX8_mean 68 = .ok (.ifCond .ne 7, 3) := by decide +kernel
theorem dX8_mean_71 : decode cX8_mean 71 = .ok (.ldc2_w 237, 3) := by decide +kernel
theorem dX8_mean_74 : decode cX8_mean 74 = .ok (.lreturn, 1) := by decide +kernel
theorem dX8_mean_75 : decode cX8_mean 75 = .ok (.aload_n 0, 1) := by decide +kernel
theorem dX8_mean_76 : decode cX8_mean 76 = .ok (.getfield 35, 3) := by decide +kernel
theorem dX8_mean_79 : decode cX8_mean 79 = .ok (.iload 5, 2) := by decide +kernel
theorem dX8_mean_81 : decode cX8_mean 81 = .ok (.iload 6, 2) := by decide +kernel
theorem dX8_mean_83 : decode cX8_mean 83 = .ok (.iload 7, 2) := by decide +kernel
theorem dX8_mean_85 : decode cX8_mean 85 = .ok (.iload 8, 2) := by decide +kernel
theorem dX8_mean_87 : decode cX8_mean 87 = .ok (.invokevirtual 242, 3) := by decide +kernel
theorem dX8_mean_90 : decode cX8_mean 90 = .ok (.i2l, 1) := by decide +kernel
theorem dX8_mean_91 : decode cX8_mean 91 = .ok (.aload_n 0, 1) := by decide +kernel
theorem dX8_mean_92 : decode cX8_mean 92 = .ok (.getfield 35, 3) := by decide +kernel
theorem dX8_mean_95 : decode cX8_mean 95 = .ok (.getfield 245, 3) := by decide +kernel
theorem dX8_mean_98 : decode cX8_mean 98 = .ok (.i2l, 1) := by decide +kernel
theorem dX8_mean_99 : decode cX8_mean 99 = .ok (.iload 9, 2) := by decide +kernel
theorem dX8_mean_101 : decode cX8_mean 101 = .ok (.invokestatic 248, 3) := by decide +kernel
theorem dX8_mean_104 : decode cX8_mean 104 = .ok (.lreturn, 1) := by decide +kernel
theorem dX8_howMany_0 : decode cX8_howMany 0 = .ok (.aload_n 0, 1) := by decide +kernel
theorem dX8_howMany_1 : decode cX8_howMany 1 = .ok (.iload_n 1, 1) := by decide +kernel
theorem dX8_howMany_2 : decode cX8_howMany 2 = .ok (.iload_n 2, 1) := by decide +kernel
theorem dX8_howMany_3 : decode cX8_howMany 3 = .ok (.iload_n 3, 1) := by decide +kernel
theorem dX8_howMany_4 : decode cX8_howMany 4 = .ok (.iload 4, 2) := by decide +kernel
theorem dX8_howMany_6 : decode cX8_howMany 6 = .ok (.invokevirtual 46, 3) := by decide +kernel
theorem dX8_howMany_9 : decode cX8_howMany 9 = .ok (.istore 8, 2) := by decide +kernel
theorem dX8_howMany_11 : decode cX8_howMany 11 = .ok (.iload 8, 2) := by decide +kernel
theorem dX8_howMany_13 : decode cX8_howMany 13 = .ok (.ifCond .eq 6, 3) := by decide +kernel
theorem dX8_howMany_16 : decode cX8_howMany 16 = .ok (.iload 8, 2) := by decide +kernel
theorem dX8_howMany_18 : decode cX8_howMany 18 = .ok (.ireturn, 1) := by decide +kernel
theorem dX8_howMany_19 : decode cX8_howMany 19 = .ok (.aload_n 0, 1) := by decide +kernel
theorem dX8_howMany_20 : decode cX8_howMany 20 = .ok (.getfield 35, 3) := by decide +kernel
theorem dX8_howMany_23 : decode cX8_howMany 23 = .ok (.aload_n 0, 1) := by decide +kernel
theorem dX8_howMany_24 : decode cX8_howMany 24 = .ok (.getfield 28, 3) := by decide +kernel
theorem dX8_howMany_27 : decode cX8_howMany 27 = .ok (.getfield 50, 3) := by decide +kernel
theorem dX8_howMany_30 : decode cX8_howMany 30 = .ok (.iload_n 1, 1) := by decide +kernel
theorem dX8_howMany_31 : decode cX8_howMany 31 = .ok (.aaload, 1) := by decide +kernel
theorem dX8_howMany_32 : decode cX8_howMany 32 = .ok (.iload_n 3, 1) := by decide +kernel
theorem dX8_howMany_33 : decode cX8_howMany 33 = .ok (.iload 4, 2) := by decide +kernel
theorem dX8_howMany_35 : decode cX8_howMany 35 = .ok (.invokevirtual 233, 3) := by decide +kernel
theorem dX8_howMany_38 : decode cX8_howMany 38 = .ok (.ifCond .eq 15, 3) := by decide +kernel
theorem dX8_howMany_41 : decode cX8_howMany 41 = .ok (.iload 5, 2) := by decide +kernel
theorem dX8_howMany_43 : decode cX8_howMany 43 = .ok (.iload 6, 2) := by decide +kernel
theorem dX8_howMany_45 : decode cX8_howMany 45 = .ok (.iload 7, 2) := by decide +kernel
theorem dX8_howMany_47 : decode cX8_howMany 47 = .ok (.invokestatic 239, 3) := by decide +kernel
theorem dX8_howMany_50 : decode cX8_howMany 50 = .ok (.ifCond .ne 6, 3) := by decide +kernel
theorem dX8_howMany_53 : decode cX8_howMany 53 = .ok (.bipush (-2), 2) := by decide +kernel
theorem dX8_howMany_55 : decode cX8_howMany 55 = .ok (.ireturn, 1) := by decide +kernel
theorem dX8_howMany_56 : decode cX8_howMany 56 = .ok (.aload_n 0, 1) := by decide +kernel
theorem dX8_howMany_57 : decode cX8_howMany 57 = .ok (.getfield 35, 3) := by decide +kernel
theorem dX8_howMany_60 : decode cX8_howMany 60 = .ok (.iload 5, 2) := by decide +kernel
theorem dX8_howMany_62 : decode cX8_howMany 62 = .ok (.iload 6, 2) := by decide +kernel
theorem dX8_howMany_64 : decode cX8_howMany 64 = .ok (.iload 7, 2) := by decide +kernel
theorem dX8_howMany_66 : decode cX8_howMany 66 = .ok (.invokevirtual 252, 3) := by decide +kernel
theorem dX8_howMany_69 : decode cX8_howMany 69 = .ok (.ireturn, 1) := by decide +kernel
theorem dX8_right_0 : decode cX8_right 0 = .ok (.aload_n 0, 1) := by decide +kernel
theorem dX8_right_1 : decode cX8_right 1 = .ok (.getfield 12, 3) := by decide +kernel
theorem dX8_right_4 : decode cX8_right 4 = .ok (.getfield 60, 3) := by decide +kernel
theorem dX8_right_7 : decode cX8_right 7 = .ok (.getfield 118, 3) := by decide +kernel
theorem dX8_right_10 : decode cX8_right 10 = .ok (.istore 4, 2) := by decide +kernel
theorem dX8_right_12 : decode cX8_right 12 = .ok (.iload_n 1, 1) := by decide +kernel
theorem dX8_right_13 : decode cX8_right 13 = .ok (.iconst 1, 1) := by decide +kernel
theorem dX8_right_14 : decode cX8_right 14 = .ok (.bipush 99, 2) := by decide +kernel
theorem dX8_right_16 : decode cX8_right 16 = .ok (.invokestatic 108, 3) := by decide +kernel
theorem dX8_right_19 : decode cX8_right 19 = .ok (.ifCond .eq 22, 3) := by decide +kernel
theorem dX8_right_22 : decode cX8_right 22 = .ok (.iload_n 2, 1) := by decide +kernel
theorem dX8_right_23 : decode cX8_right 23 = .ok (.iconst 1, 1) := by decide +kernel
theorem dX8_right_24 : decode cX8_right 24 = .ok (.iload 4, 2) := by decide +kernel
theorem dX8_right_26 : decode cX8_right 26 = .ok (.invokestatic 108, 3) := by decide +kernel
theorem dX8_right_29 : decode cX8_right 29 = .ok (.ifCond .eq 12, 3) := by decide +kernel
theorem dX8_right_32 : decode cX8_right 32 = .ok (.iload_n 3, 1) := by decide +kernel
theorem dX8_right_33 : decode cX8_right 33 = .ok (.iconst 0, 1) := by decide +kernel
theorem dX8_right_34 : decode cX8_right 34 = .ok (.iconst 1, 1) := by decide +kernel
theorem dX8_right_35 : decode cX8_right 35 = .ok (.invokestatic 108, 3) := by decide +kernel
theorem dX8_right_38 : decode cX8_right 38 = .ok (.ifCond .ne 7, 3) := by decide +kernel
theorem dX8_right_41 : decode cX8_right 41 = .ok (.ldc2_w 237, 3) := by decide +kernel
theorem dX8_right_44 : decode cX8_right 44 = .ok (.lreturn, 1) := by decide +kernel
theorem dX8_right_45 : decode cX8_right 45 = .ok (.iload_n 1, 1) := by decide +kernel
theorem dX8_right_46 : decode cX8_right 46 = .ok (.i2l, 1) := by decide +kernel
theorem dX8_right_47 : decode cX8_right 47 = .ok (.iload 4, 2) := by decide +kernel
theorem dX8_right_49 : decode cX8_right 49 = .ok (.i2l, 1) := by decide +kernel
theorem dX8_right_50 : decode cX8_right 50 = .ok (.lmul, 1) := by decide +kernel
theorem dX8_right_51 : decode cX8_right 51 = .ok (.iload_n 2, 1) := by decide +kernel
theorem dX8_right_52 : decode cX8_right 52 = .ok (.i2l, 1) := by decide +kernel
theorem dX8_right_53 : decode cX8_right 53 = .ok (.iload_n 3, 1) := by decide +kernel
theorem dX8_right_54 : decode cX8_right 54 = .ok (.invokestatic 248, 3) := by decide +kernel
theorem dX8_right_57 : decode cX8_right 57 = .ok (.lreturn, 1) := by decide +kernel
theorem dX8_rests_0 : decode cX8_rests 0 = .ok (.aload_n 0, 1) := by decide +kernel
theorem dX8_rests_1 : decode cX8_rests 1 = .ok (.iload_n 1, 1) := by decide +kernel
theorem dX8_rests_2 : decode cX8_rests 2 = .ok (.iload_n 2, 1) := by decide +kernel
theorem dX8_rests_3 : decode cX8_rests 3 = .ok (.iload_n 3, 1) := by decide +kernel
theorem dX8_rests_4 : decode cX8_rests 4 = .ok (.bipush 8, 2) := by decide +kernel
theorem dX8_rests_6 : decode cX8_rests 6 = .ok (.invokevirtual 46, 3) := by decide +kernel
theorem dX8_rests_9 : decode cX8_rests 9 = .ok (.istore 4, 2) := by decide +kernel
theorem dX8_rests_11 : decode cX8_rests 11 = .ok (.iload 4, 2) := by decide +kernel
theorem dX8_rests_13 : decode cX8_rests 13 = .ok (.ifCond .eq 6, 3) := by decide +kernel
theorem dX8_rests_16 : decode cX8_rests 16 = .ok (.iload 4, 2) := by decide +kernel
theorem dX8_rests_18 : decode cX8_rests 18 = .ok (.ireturn, 1) := by decide +kernel
theorem dX8_rests_19 : decode cX8_rests 19 = .ok (.aload_n 0, 1) := by decide +kernel
theorem dX8_rests_20 : decode cX8_rests 20 = .ok (.getfield 42, 3) := by decide +kernel
theorem dX8_rests_23 : decode cX8_rests 23 = .ok (.aload_n 0, 1) := by decide +kernel
theorem dX8_rests_24 : decode cX8_rests 24 = .ok (.getfield 28, 3) := by decide +kernel
theorem dX8_rests_27 : decode cX8_rests 27 = .ok (.getfield 50, 3) := by decide +kernel
theorem dX8_rests_30 : decode cX8_rests 30 = .ok (.iload_n 1, 1) := by decide +kernel
theorem dX8_rests_31 : decode cX8_rests 31 = .ok (.aaload, 1) := by decide +kernel
theorem dX8_rests_32 : decode cX8_rests 32 = .ok (.iload_n 3, 1) := by decide +kernel
theorem dX8_rests_33 : decode cX8_rests 33 = .ok (.invokevirtual 255, 3) := by decide +kernel
theorem dX8_rests_36 : decode cX8_rests 36 = .ok (.ifCond .ne 6, 3) := by decide +kernel
theorem dX8_rests_39 : decode cX8_rests 39 = .ok (.bipush (-2), 2) := by decide +kernel
theorem dX8_rests_41 : decode cX8_rests 41 = .ok (.ireturn, 1) := by decide +kernel
theorem dX8_rests_42 : decode cX8_rests 42 = .ok (.aload_n 0, 1) := by decide +kernel
theorem dX8_rests_43 : decode cX8_rests 43 = .ok (.getfield 42, 3) := by decide +kernel
theorem dX8_rests_46 : decode cX8_rests 46 = .ok (.invokevirtual 258, 3) := by decide +kernel
theorem dX8_rests_49 : decode cX8_rests 49 = .ok (.ireturn, 1) := by decide +kernel
theorem dX8_mixed_0 : decode cX8_mixed 0 = .ok (.aload_n 0, 1) := by decide +kernel
theorem dX8_mixed_1 : decode cX8_mixed 1 = .ok (.iload_n 1, 1) := by decide +kernel
theorem dX8_mixed_2 : decode cX8_mixed 2 = .ok (.iload_n 2, 1) := by decide +kernel
theorem dX8_mixed_3 : decode cX8_mixed 3 = .ok (.iload_n 3, 1) := by decide +kernel
theorem dX8_mixed_4 : decode cX8_mixed 4 = .ok (.bipush 8, 2) := by decide +kernel
theorem dX8_mixed_6 : decode cX8_mixed 6 = .ok (.invokevirtual 46, 3) := by decide +kernel
theorem dX8_mixed_9 : decode cX8_mixed 9 = .ok (.ifCond .ne 23, 3) := by decide +kernel
theorem dX8_mixed_12 : decode cX8_mixed 12 = .ok (.aload_n 0, 1) := by decide +kernel
theorem dX8_mixed_13 : decode cX8_mixed 13 = .ok (.getfield 42, 3) := by decide +kernel
theorem dX8_mixed_16 : decode cX8_mixed 16 = .ok (.aload_n 0, 1) := by decide +kernel
theorem dX8_mixed_17 : decode cX8_mixed 17 = .ok (.getfield 28, 3) := by decide +kernel
theorem dX8_mixed_20 : decode cX8_mixed 20 = .ok (.getfield 50, 3) := by decide +kernel
theorem dX8_mixed_23 : decode cX8_mixed 23 = .ok (.iload_n 1, 1) := by decide +kernel
theorem dX8_mixed_24 : decode cX8_mixed 24 = .ok (.aaload, 1) := by decide +kernel
theorem dX8_mixed_25 : decode cX8_mixed 25 = .ok (.iload_n 3, 1) := by decide +kernel
theorem dX8_mixed_26 : decode cX8_mixed 26 = .ok (.invokevirtual 255, 3) := by decide +kernel
theorem dX8_mixed_29 : decode cX8_mixed 29 = .ok (.ifCond .ne 7, 3) := by decide +kernel
theorem dX8_mixed_32 : decode cX8_mixed 32 = .ok (.ldc2_w 237, 3) := by decide +kernel
theorem dX8_mixed_35 : decode cX8_mixed 35 = .ok (.lreturn, 1) := by decide +kernel
theorem dX8_mixed_36 : decode cX8_mixed 36 = .ok (.iload 4, 2) := by decide +kernel
theorem dX8_mixed_38 : decode cX8_mixed 38 = .ok (.iconst 0, 1) := by decide +kernel
theorem dX8_mixed_39 : decode cX8_mixed 39 = .ok (.iconst 1, 1) := by decide +kernel
theorem dX8_mixed_40 : decode cX8_mixed 40 = .ok (.invokestatic 108, 3) := by decide +kernel
theorem dX8_mixed_43 : decode cX8_mixed 43 = .ok (.ifCond .eq 23, 3) := by decide +kernel
theorem dX8_mixed_46 : decode cX8_mixed 46 = .ok (.iload 5, 2) := by decide +kernel
theorem dX8_mixed_48 : decode cX8_mixed 48 = .ok (.iconst 0, 1) := by decide +kernel
theorem dX8_mixed_49 : decode cX8_mixed 49 = .ok (.iconst 1, 1) := by decide +kernel
theorem dX8_mixed_50 : decode cX8_mixed 50 = .ok (.invokestatic 108, 3) := by decide +kernel
theorem dX8_mixed_53 : decode cX8_mixed 53 = .ok (.ifCond .eq 13, 3) := by decide +kernel
theorem dX8_mixed_56 : decode cX8_mixed 56 = .ok (.aload_n 0, 1) := by decide +kernel
theorem dX8_mixed_57 : decode cX8_mixed 57 = .ok (.getfield 42, 3) := by decide +kernel
theorem dX8_mixed_60 : decode cX8_mixed 60 = .ok (.invokevirtual 261, 3) := by decide +kernel
theorem dX8_mixed_63 : decode cX8_mixed 63 = .ok (.ifCond .ne 7, 3) := by decide +kernel
theorem dX8_mixed_66 : decode cX8_mixed 66 = .ok (.ldc2_w 237, 3) := by decide +kernel
theorem dX8_mixed_69 : decode cX8_mixed 69 = .ok (.lreturn, 1) := by decide +kernel
theorem dX8_mixed_70 : decode cX8_mixed 70 = .ok (.iload 4, 2) := by decide +kernel
theorem dX8_mixed_72 : decode cX8_mixed 72 = .ok (.ifCond .ne 25, 3) := by decide +kernel
theorem dX8_mixed_75 : decode cX8_mixed 75 = .ok (.aload_n 0, 1) := by decide +kernel
theorem dX8_mixed_76 : decode cX8_mixed 76 = .ok (.getfield 42, 3) := by decide +kernel
theorem dX8_mixed_79 : decode cX8_mixed 79 = .ok (.invokevirtual 264, 3) := by decide +kernel
theorem dX8_mixed_82 : decode cX8_mixed 82 = .ok (.i2l, 1) := by decide +kernel
theorem dX8_mixed_83 : decode cX8_mixed 83 = .ok (.aload_n 0, 1) := by decide +kernel
theorem dX8_mixed_84 : decode cX8_mixed 84 = .ok (.getfield 42, 3) := by decide +kernel
theorem dX8_mixed_87 : decode cX8_mixed 87 = .ok (.invokevirtual 267, 3) := by decide +kernel
theorem dX8_mixed_90 : decode cX8_mixed 90 = .ok (.i2l, 1) := by decide +kernel
theorem dX8_mixed_91 : decode cX8_mixed 91 = .ok (.iload 5, 2) := by decide +kernel
theorem dX8_mixed_93 : decode cX8_mixed 93 = .ok (.invokestatic 248, 3) := by decide +kernel
theorem dX8_mixed_96 : decode cX8_mixed 96 = .ok (.lreturn, 1) := by decide +kernel
theorem dX8_mixed_97 : decode cX8_mixed 97 = .ok (.aload_n 0, 1) := by decide +kernel
theorem dX8_mixed_98 : decode cX8_mixed 98 = .ok (.getfield 42, 3) := by decide +kernel
theorem dX8_mixed_101 : decode cX8_mixed 101 = .ok (.invokevirtual 270, 3) := by decide +kernel
theorem dX8_mixed_104 : decode cX8_mixed 104 = .ok (.i2l, 1) := by decide +kernel
theorem dX8_mixed_105 : decode cX8_mixed 105 = .ok (.aload_n 0, 1) := by decide +kernel
theorem dX8_mixed_106 : decode cX8_mixed 106 = .ok (.getfield 42, 3) := by decide +kernel
theorem dX8_mixed_109 : decode cX8_mixed 109 = .ok (.invokevirtual 273, 3) := by decide +kernel
theorem dX8_mixed_112 : decode cX8_mixed 112 = .ok (.i2l, 1) := by decide +kernel
theorem dX8_mixed_113 : decode cX8_mixed 113 = .ok (.iload 5, 2) := by decide +kernel
theorem dX8_mixed_115 : decode cX8_mixed 115 = .ok (.invokestatic 248, 3) := by decide +kernel
theorem dX8_mixed_118 : decode cX8_mixed 118 = .ok (.lreturn, 1) := by decide +kernel
theorem dX8_sheet_0 : decode cX8_sheet 0 = .ok (.aload_n 0, 1) := by decide +kernel
theorem dX8_sheet_1 : decode cX8_sheet 1 = .ok (.iconst 0, 1) := by decide +kernel
theorem dX8_sheet_2 : decode cX8_sheet 2 = .ok (.putfield 115, 3) := by decide +kernel
theorem dX8_sheet_5 : decode cX8_sheet 5 = .ok (.aload_n 0, 1) := by decide +kernel
theorem dX8_sheet_6 : decode cX8_sheet 6 = .ok (.getfield 28, 3) := by decide +kernel
theorem dX8_sheet_9 : decode cX8_sheet 9 = .ok (.iload_n 1, 1) := by decide +kernel
theorem dX8_sheet_10 : decode cX8_sheet 10 = .ok (.invokevirtual 276, 3) := by decide +kernel
theorem dX8_sheet_13 : decode cX8_sheet 13 = .ok (.ifCond .ne 5, 3) := by decide +kernel
theorem dX8_sheet_16 : decode cX8_sheet 16 = .ok (.iconst (-1), 1) := by decide +kernel
theorem dX8_sheet_17 : decode cX8_sheet 17 = .ok (.ireturn, 1) := by decide +kernel
theorem dX8_sheet_18 : decode cX8_sheet 18 = .ok (.aload_n 0, 1) := by decide +kernel
theorem dX8_sheet_19 : decode cX8_sheet 19 = .ok (.getfield 28, 3) := by decide +kernel
theorem dX8_sheet_22 : decode cX8_sheet 22 = .ok (.iload_n 2, 1) := by decide +kernel
theorem dX8_sheet_23 : decode cX8_sheet 23 = .ok (.invokevirtual 279, 3) := by decide +kernel
theorem dX8_sheet_26 : decode cX8_sheet 26 = .ok (.ifCond .eq 9, 3) := by decide +kernel
theorem dX8_sheet_29 : decode cX8_sheet 29 = .ok (.iload_n 3, 1) := by decide +kernel
theorem dX8_sheet_30 : decode cX8_sheet 30 = .ok (.bipush 60, 2) := by decide +kernel
theorem dX8_sheet_32 : decode cX8_sheet 32 = .ok (.if_icmp .le 6, 3) := by decide +kernel
theorem dX8_sheet_35 : decode cX8_sheet 35 = .ok (.bipush (-2), 2) := by decide +kernel
theorem dX8_sheet_37 : decode cX8_sheet 37 = .ok (.ireturn, 1) := by decide +kernel
theorem dX8_sheet_38 : decode cX8_sheet 38 = .ok (.iload_n 3, 1) := by decide +kernel
theorem dX8_sheet_39 : decode cX8_sheet 39 = .ok (.ifCond .ge 9, 3) := by decide +kernel
theorem dX8_sheet_42 : decode cX8_sheet 42 = .ok (.aload_n 0, 1) := by decide +kernel
theorem dX8_sheet_43 : decode cX8_sheet 43 = .ok (.iconst 4, 1) := by decide +kernel
theorem dX8_sheet_44 : decode cX8_sheet 44 = .ok (.invokevirtual 282, 3) := by decide +kernel
theorem dX8_sheet_47 : decode cX8_sheet 47 = .ok (.ireturn, 1) := by decide +kernel
theorem dX8_sheet_48 : decode cX8_sheet 48 = .ok (.aload_n 0, 1) := by decide +kernel
theorem dX8_sheet_49 : decode cX8_sheet 49 = .ok (.getfield 28, 3) := by decide +kernel
theorem dX8_sheet_52 : decode cX8_sheet 52 = .ok (.iload_n 1, 1) := by decide +kernel
theorem dX8_sheet_53 : decode cX8_sheet 53 = .ok (.iload_n 2, 1) := by decide +kernel
theorem dX8_sheet_54 : decode cX8_sheet 54 = .ok (.iload_n 3, 1) := by decide +kernel
theorem dX8_sheet_55 : decode cX8_sheet 55 = .ok (.invokevirtual 286, 3) := by decide +kernel
theorem dX8_sheet_58 : decode cX8_sheet 58 = .ok (.iconst 1, 1) := by decide +kernel
theorem dX8_sheet_59 : decode cX8_sheet 59 = .ok (.ireturn, 1) := by decide +kernel
theorem dX8_lose_0 : decode cX8_lose 0 = .ok (.aload_n 0, 1) := by decide +kernel
theorem dX8_lose_1 : decode cX8_lose 1 = .ok (.getfield 28, 3) := by decide +kernel
theorem dX8_lose_4 : decode cX8_lose 4 = .ok (.iload_n 1, 1) := by decide +kernel
theorem dX8_lose_5 : decode cX8_lose 5 = .ok (.invokevirtual 276, 3) := by decide +kernel
theorem dX8_lose_8 : decode cX8_lose 8 = .ok (.ifCond .ne 5, 3) := by decide +kernel
theorem dX8_lose_11 : decode cX8_lose 11 = .ok (.iconst (-1), 1) := by decide +kernel
theorem dX8_lose_12 : decode cX8_lose 12 = .ok (.ireturn, 1) := by decide +kernel
theorem dX8_lose_13 : decode cX8_lose 13 = .ok (.aload_n 0, 1) := by decide +kernel
theorem dX8_lose_14 : decode cX8_lose 14 = .ok (.getfield 28, 3) := by decide +kernel
theorem dX8_lose_17 : decode cX8_lose 17 = .ok (.iload_n 1, 1) := by decide +kernel
theorem dX8_lose_18 : decode cX8_lose 18 = .ok (.invokevirtual 290, 3) := by decide +kernel
theorem dX8_lose_21 : decode cX8_lose 21 = .ok (.istore_n 2, 1) := by decide +kernel
theorem dX8_lose_22 : decode cX8_lose 22 = .ok (.aload_n 0, 1) := by decide +kernel
theorem dX8_lose_23 : decode cX8_lose 23 = .ok (.getfield 28, 3) := by decide +kernel
theorem dX8_lose_26 : decode cX8_lose 26 = .ok (.getfield 293, 3) := by decide +kernel
theorem dX8_lose_29 : decode cX8_lose 29 = .ok (.iload_n 1, 1) := by decide +kernel
theorem dX8_lose_30 : decode cX8_lose 30 = .ok (.iconst (-1), 1) := by decide +kernel
theorem dX8_lose_31 : decode cX8_lose 31 = .ok (.iastore, 1) := by decide +kernel
theorem dX8_lose_32 : decode cX8_lose 32 = .ok (.iload_n 2, 1) := by decide +kernel
theorem dX8_lose_33 : decode cX8_lose 33 = .ok (.ifCond .eq 7, 3) := by decide +kernel
theorem dX8_lose_36 : decode cX8_lose 36 = .ok (.iconst 1, 1) := by decide +kernel
theorem dX8_lose_37 : decode cX8_lose 37 = .ok (.goto 4, 3) := by decide +kernel
theorem dX8_lose_40 : decode cX8_lose 40 = .ok (.iconst 0, 1) := by decide +kernel
theorem dX8_lose_41 : decode cX8_lose 41 = .ok (.ireturn, 1) := by decide +kernel
theorem dX8_put_0 : decode cX8_put 0 = .ok (.aload_n 0, 1) := by decide +kernel
theorem dX8_put_1 : decode cX8_put 1 = .ok (.iconst 0, 1) := by decide +kernel
theorem dX8_put_2 : decode cX8_put 2 = .ok (.putfield 115, 3) := by decide +kernel
theorem dX8_put_5 : decode cX8_put 5 = .ok (.aload_n 0, 1) := by decide +kernel
theorem dX8_put_6 : decode cX8_put 6 = .ok (.getfield 28, 3) := by decide +kernel
theorem dX8_put_9 : decode cX8_put 9 = .ok (.iload_n 1, 1) := by decide +kernel
theorem dX8_put_10 : decode cX8_put 10 = .ok (.invokevirtual 276, 3) := by decide +kernel
theorem dX8_put_13 : decode cX8_put 13 = .ok (.ifCond .ne 5, 3) := by decide +kernel
theorem dX8_put_16 : decode cX8_put 16 = .ok (.iconst (-1), 1) := by decide +kernel
theorem dX8_put_17 : decode cX8_put 17 = .ok (.ireturn, 1) := by decide +kernel
theorem dX8_put_18 : decode cX8_put 18 = .ok (.aload_n 0, 1) := by decide +kernel
theorem dX8_put_19 : decode cX8_put 19 = .ok (.getfield 28, 3) := by decide +kernel
theorem dX8_put_22 : decode cX8_put 22 = .ok (.iload_n 1, 1) := by decide +kernel
theorem dX8_put_23 : decode cX8_put 23 = .ok (.invokevirtual 290, 3) := by decide +kernel
theorem dX8_put_26 : decode cX8_put 26 = .ok (.ifCond .ne 9, 3) := by decide +kernel
theorem dX8_put_29 : decode cX8_put 29 = .ok (.aload_n 0, 1) := by decide +kernel
theorem dX8_put_30 : decode cX8_put 30 = .ok (.iconst 1, 1) := by decide +kernel
theorem dX8_put_31 : decode cX8_put 31 = .ok (.invokevirtual 282, 3) := by decide +kernel
theorem dX8_put_34 : decode cX8_put 34 = .ok (.ireturn, 1) := by decide +kernel
theorem dX8_put_35 : decode cX8_put 35 = .ok (.aload_n 0, 1) := by decide +kernel
theorem dX8_put_36 : decode cX8_put 36 = .ok (.getfield 28, 3) := by decide +kernel
theorem dX8_put_39 : decode cX8_put 39 = .ok (.iload_n 1, 1) := by decide +kernel
theorem dX8_put_40 : decode cX8_put 40 = .ok (.iload_n 2, 1) := by decide +kernel
theorem dX8_put_41 : decode cX8_put 41 = .ok (.iconst 1, 1) := by decide +kernel
theorem dX8_put_42 : decode cX8_put 42 = .ok (.invokevirtual 296, 3) := by decide +kernel
theorem dX8_put_45 : decode cX8_put 45 = .ok (.ifCond .ne 9, 3) := by decide +kernel
theorem dX8_put_48 : decode cX8_put 48 = .ok (.aload_n 0, 1) := by decide +kernel
theorem dX8_put_49 : decode cX8_put 49 = .ok (.iconst 3, 1) := by decide +kernel
theorem dX8_put_50 : decode cX8_put 50 = .ok (.invokevirtual 282, 3) := by decide +kernel
theorem dX8_put_53 : decode cX8_put 53 = .ok (.ireturn, 1) := by decide +kernel
theorem dX8_put_54 : decode cX8_put 54 = .ok (.aload_n 0, 1) := by decide +kernel
theorem dX8_put_55 : decode cX8_put 55 = .ok (.getfield 28, 3) := by decide +kernel
theorem dX8_put_58 : decode cX8_put 58 = .ok (.getfield 50, 3) := by decide +kernel
theorem dX8_put_61 : decode cX8_put 61 = .ok (.iload_n 1, 1) := by decide +kernel
theorem dX8_put_62 : decode cX8_put 62 = .ok (.aaload, 1) := by decide +kernel
theorem dX8_put_63 : decode cX8_put 63 = .ok (.iload_n 2, 1) := by decide +kernel
theorem dX8_put_64 : decode cX8_put 64 = .ok (.iload_n 3, 1) := by decide +kernel
theorem dX8_put_65 : decode cX8_put 65 = .ok (.aload_n 0, 1) := by decide +kernel
theorem dX8_put_66 : decode cX8_put 66 = .ok (.getfield 28, 3) := by decide +kernel
theorem dX8_put_69 : decode cX8_put 69 = .ok (.getfield 299, 3) := by decide +kernel
theorem dX8_put_72 : decode cX8_put 72 = .ok (.iload_n 1, 1) := by decide +kernel
theorem dX8_put_73 : decode cX8_put 73 = .ok (.iaload, 1) := by decide +kernel
theorem dX8_put_74 : decode cX8_put 74 = .ok (.invokestatic 302, 3) := by decide +kernel
theorem dX8_put_77 : decode cX8_put 77 = .ok (.iastore, 1) := by decide +kernel
theorem dX8_put_78 : decode cX8_put 78 = .ok (.iconst 1, 1) := by decide +kernel
theorem dX8_put_79 : decode cX8_put 79 = .ok (.ireturn, 1) := by decide +kernel
theorem dX8_cell_0 : decode cX8_cell 0 = .ok (.aload_n 0, 1) := by decide +kernel
theorem dX8_cell_1 : decode cX8_cell 1 = .ok (.iload_n 1, 1) := by decide +kernel
theorem dX8_cell_2 : decode cX8_cell 2 = .ok (.iload_n 3, 1) := by decide +kernel
theorem dX8_cell_3 : decode cX8_cell 3 = .ok (.iload_n 2, 1) := by decide +kernel
theorem dX8_cell_4 : decode cX8_cell 4 = .ok (.iconst 1, 1) := by decide +kernel
theorem dX8_cell_5 : decode cX8_cell 5 = .ok (.invokevirtual 46, 3) := by decide +kernel
theorem dX8_cell_8 : decode cX8_cell 8 = .ok (.ifCond .eq 7, 3) := by decide +kernel
theorem dX8_cell_11 : decode cX8_cell 11 = .ok (.ldc2_w 237, 3) := by decide +kernel
theorem dX8_cell_14 : decode cX8_cell 14 = .ok (.lreturn, 1) := by decide +kernel
theorem dX8_cell_15 : decode cX8_cell 15 = .ok (.aload_n 0, 1) := by decide +kernel
theorem dX8_cell_16 : decode cX8_cell 16 = .ok (.getfield 28, 3) := by decide +kernel
theorem dX8_cell_19 : decode cX8_cell 19 = .ok (.getfield 50, 3) := by decide +kernel
theorem dX8_cell_22 : decode cX8_cell 22 = .ok (.iload_n 1, 1) := by decide +kernel
theorem dX8_cell_23 : decode cX8_cell 23 = .ok (.aaload, 1) := by decide +kernel
theorem dX8_cell_24 : decode cX8_cell 24 = .ok (.iload_n 2, 1) := by decide +kernel
theorem dX8_cell_25 : decode cX8_cell 25 = .ok (.iaload, 1) := by decide +kernel
theorem dX8_cell_26 : decode cX8_cell 26 = .ok (.i2l, 1) := by decide +kernel
theorem dX8_cell_27 : decode cX8_cell 27 = .ok (.lreturn, 1) := by decide +kernel
theorem dX8_copy_0 : decode cX8_copy 0 = .ok (.aload_n 0, 1) := by decide +kernel
theorem dX8_copy_1 : decode cX8_copy 1 = .ok (.iconst 0, 1) := by decide +kernel
theorem dX8_copy_2 : decode cX8_copy 2 = .ok (.putfield 115, 3) := by decide +kernel
theorem dX8_copy_5 : decode cX8_copy 5 = .ok (.aload_n 0, 1) := by decide +kernel
theorem dX8_copy_6 : decode cX8_copy 6 = .ok (.getfield 28, 3) := by decide +kernel
theorem dX8_copy_9 : decode cX8_copy 9 = .ok (.iload_n 1, 1) := by decide +kernel
theorem dX8_copy_10 : decode cX8_copy 10 = .ok (.invokevirtual 276, 3) := by decide +kernel
theorem dX8_copy_13 : decode cX8_copy 13 = .ok (.ifCond .eq 14, 3) := by decide +kernel
theorem dX8_copy_16 : decode cX8_copy 16 = .ok (.aload_n 0, 1) := by decide +kernel
theorem dX8_copy_17 : decode cX8_copy 17 = .ok (.getfield 28, 3) := by decide +kernel
theorem dX8_copy_20 : decode cX8_copy 20 = .ok (.iload_n 3, 1) := by decide +kernel
theorem dX8_copy_21 : decode cX8_copy 21 = .ok (.invokevirtual 276, 3) := by decide +kernel
theorem dX8_copy_24 : decode cX8_copy 24 = .ok (.ifCond .ne 5, 3) := by decide +kernel
theorem dX8_copy_27 : decode cX8_copy 27 = .ok (.iconst (-1), 1) := by decide +kernel
theorem dX8_copy_28 : decode cX8_copy 28 = .ok (.ireturn, 1) := by decide +kernel
theorem dX8_copy_29 : decode cX8_copy 29 = .ok (.aload_n 0, 1) := by decide +kernel
theorem dX8_copy_30 : decode cX8_copy 30 = .ok (.getfield 28, 3) := by decide +kernel
theorem dX8_copy_33 : decode cX8_copy 33 = .ok (.iload_n 1, 1) := by decide +kernel
theorem dX8_copy_34 : decode cX8_copy 34 = .ok (.invokevirtual 290, 3) := by decide +kernel
theorem dX8_copy_37 : decode cX8_copy 37 = .ok (.ifCond .eq 14, 3) := by decide +kernel
theorem dX8_copy_40 : decode cX8_copy 40 = .ok (.aload_n 0, 1) := by decide +kernel
theorem dX8_copy_41 : decode cX8_copy 41 = .ok (.getfield 28, 3) := by decide +kernel
theorem dX8_copy_44 : decode cX8_copy 44 = .ok (.iload_n 3, 1) := by decide +kernel
theorem dX8_copy_45 : decode cX8_copy 45 = .ok (.invokevirtual 290, 3) := by decide +kernel
theorem dX8_copy_48 : decode cX8_copy 48 = .ok (.ifCond .ne 9, 3) := by decide +kernel
theorem dX8_copy_51 : decode cX8_copy 51 = .ok (.aload_n 0, 1) := by decide +kernel
theorem dX8_copy_52 : decode cX8_copy 52 = .ok (.iconst 1, 1) := by decide +kernel
theorem dX8_copy_53 : decode cX8_copy 53 = .ok (.invokevirtual 282, 3) := by decide +kernel
theorem dX8_copy_56 : decode cX8_copy 56 = .ok (.ireturn, 1) := by decide +kernel
theorem dX8_copy_57 : decode cX8_copy 57 = .ok (.aload_n 0, 1) := by decide +kernel
theorem dX8_copy_58 : decode cX8_copy 58 = .ok (.getfield 28, 3) := by decide +kernel
theorem dX8_copy_61 : decode cX8_copy 61 = .ok (.getfield 299, 3) := by decide +kernel
theorem dX8_copy_64 : decode cX8_copy 64 = .ok (.iload_n 1, 1) := by decide +kernel
theorem dX8_copy_65 : decode cX8_copy 65 = .ok (.iaload, 1) := by decide +kernel
theorem dX8_copy_66 : decode cX8_copy 66 = .ok (.aload_n 0, 1) := by decide +kernel
theorem dX8_copy_67 : decode cX8_copy 67 = .ok (.getfield 28, 3) := by decide +kernel
theorem dX8_copy_70 : decode cX8_copy 70 = .ok (.getfield 299, 3) := by decide +kernel
theorem dX8_copy_73 : decode cX8_copy 73 = .ok (.iload_n 3, 1) := by decide +kernel
theorem dX8_copy_74 : decode cX8_copy 74 = .ok (.iaload, 1) := by decide +kernel
theorem dX8_copy_75 : decode cX8_copy 75 = .ok (.if_icmp .eq 9, 3) := by decide +kernel
theorem dX8_copy_78 : decode cX8_copy 78 = .ok (.aload_n 0, 1) := by decide +kernel
theorem dX8_copy_79 : decode cX8_copy 79 = .ok (.iconst 2, 1) := by decide +kernel
theorem dX8_copy_80 : decode cX8_copy 80 = .ok (.invokevirtual 282, 3) := by decide +kernel
theorem dX8_copy_83 : decode cX8_copy 83 = .ok (.ireturn, 1) := by decide +kernel
theorem dX8_copy_84 : decode cX8_copy 84 = .ok (.aload_n 0, 1) := by decide +kernel
theorem dX8_copy_85 : decode cX8_copy 85 = .ok (.getfield 28, 3) := by decide +kernel
theorem dX8_copy_88 : decode cX8_copy 88 = .ok (.iload_n 1, 1) := by decide +kernel
theorem dX8_copy_89 : decode cX8_copy 89 = .ok (.iload_n 2, 1) := by decide +kernel
theorem dX8_copy_90 : decode cX8_copy 90 = .ok (.iload 5, 2) := by decide +kernel
theorem dX8_copy_92 : decode cX8_copy 92 = .ok (.invokevirtual 296, 3) := by decide +kernel
theorem dX8_copy_95 : decode cX8_copy 95 = .ok (.ifCond .eq 18, 3) := by decide +kernel
theorem dX8_copy_98 : decode cX8_copy 98 = .ok (.aload_n 0, 1) := by decide +kernel
theorem dX8_copy_99 : decode cX8_copy 99 = .ok (.getfield 28, 3) := by decide +kernel
theorem dX8_copy_102 : decode cX8_copy 102 = .ok (.iload_n 3, 1) := by decide +kernel
theorem dX8_copy_103 : decode cX8_copy 103 = .ok (.iload 4, 2) := by decide +kernel
theorem dX8_copy_105 : decode cX8_copy 105 = .ok (.iload 5, 2) := by decide +kernel
theorem dX8_copy_107 : decode cX8_copy 107 = .ok (.invokevirtual 296, 3) := by decide +kernel
theorem dX8_copy_110 : decode cX8_copy 110 = .ok (.ifCond .ne 9, 3) := by decide +kernel
theorem dX8_copy_113 : decode cX8_copy 113 = .ok (.aload_n 0, 1) := by decide +kernel
theorem dX8_copy_114 : decode cX8_copy 114 = .ok (.iconst 3, 1) := by decide +kernel
theorem dX8_copy_115 : decode cX8_copy 115 = .ok (.invokevirtual 282, 3) := by decide +kernel
theorem dX8_copy_118 : decode cX8_copy 118 = .ok (.ireturn, 1) := by decide +kernel
theorem dX8_copy_119 : decode cX8_copy 119 = .ok (.aload_n 0, 1) := by decide +kernel
theorem dX8_copy_120 : decode cX8_copy 120 = .ok (.getfield 28, 3) := by decide +kernel
theorem dX8_copy_123 : decode cX8_copy 123 = .ok (.getfield 50, 3) := by decide +kernel
theorem dX8_copy_126 : decode cX8_copy 126 = .ok (.iload_n 1, 1) := by decide +kernel
theorem dX8_copy_127 : decode cX8_copy 127 = .ok (.aaload, 1) := by decide +kernel
theorem dX8_copy_128 : decode cX8_copy 128 = .ok (.iload_n 2, 1) := by decide +kernel
theorem dX8_copy_129 : decode cX8_copy 129 = .ok (.aload_n 0, 1) := by decide +kernel
theorem dX8_copy_130 : decode cX8_copy 130 = .ok (.getfield 28, 3) := by decide +kernel
theorem dX8_copy_133 : decode cX8_copy 133 = .ok (.getfield 50, 3) := by decide +kernel
theorem dX8_copy_136 : decode cX8_copy 136 = .ok (.iload_n 3, 1) := by decide +kernel
theorem dX8_copy_137 : decode cX8_copy 137 = .ok (.aaload, 1) := by decide +kernel
theorem dX8_copy_138 : decode cX8_copy 138 = .ok (.iload 4, 2) := by decide +kernel
theorem dX8_copy_140 : decode cX8_copy 140 = .ok (.iload 5, 2) := by decide +kernel
theorem dX8_copy_142 : decode cX8_copy 142 = .ok (.invokestatic 125, 3) := by decide +kernel
theorem dX8_copy_145 : decode cX8_copy 145 = .ok (.iload 5, 2) := by decide +kernel
theorem dX8_copy_147 : decode cX8_copy 147 = .ok (.ireturn, 1) := by decide +kernel
theorem dX8_tell_0 : decode cX8_tell 0 = .ok (.aload_n 0, 1) := by decide +kernel
theorem dX8_tell_1 : decode cX8_tell 1 = .ok (.getfield 12, 3) := by decide +kernel
theorem dX8_tell_4 : decode cX8_tell 4 = .ok (.getfield 70, 3) := by decide +kernel
theorem dX8_tell_7 : decode cX8_tell 7 = .ok (.iload_n 1, 1) := by decide +kernel
theorem dX8_tell_8 : decode cX8_tell 8 = .ok (.invokevirtual 145, 3) := by decide +kernel
theorem dX8_tell_11 : decode cX8_tell 11 = .ok (.ifCond .ne 5, 3) := by decide +kernel
theorem dX8_tell_14 : decode cX8_tell 14 = .ok (.iconst (-1), 1) := by decide +kernel
theorem dX8_tell_15 : decode cX8_tell 15 = .ok (.ireturn, 1) := by decide +kernel
theorem dX8_tell_16 : decode cX8_tell 16 = .ok (.aload_n 0, 1) := by decide +kernel
theorem dX8_tell_17 : decode cX8_tell 17 = .ok (.getfield 12, 3) := by decide +kernel
theorem dX8_tell_20 : decode cX8_tell 20 = .ok (.getfield 70, 3) := by decide +kernel
theorem dX8_tell_23 : decode cX8_tell 23 = .ok (.getfield 148, 3) := by decide +kernel
theorem dX8_tell_26 : decode cX8_tell 26 = .ok (.iload_n 1, 1) := by decide +kernel
theorem dX8_tell_27 : decode cX8_tell 27 = .ok (.iaload, 1) := by decide +kernel
theorem dX8_tell_28 : decode cX8_tell 28 = .ok (.lookupswitch 40 #[(1, 34), (2, 28)], 28) := by decide +kernel
theorem dX8_tell_56 : decode cX8_tell 56 = .ok (.aload_n 0, 1) := by decide +kernel
theorem dX8_tell_57 : decode cX8_tell 57 = .ok (.iload_n 1, 1) := by decide +kernel
theorem dX8_tell_58 : decode cX8_tell 58 = .ok (.invokevirtual 305, 3) := by decide +kernel
theorem dX8_tell_61 : decode cX8_tell 61 = .ok (.ireturn, 1) := by decide +kernel
theorem dX8_tell_62 : decode cX8_tell 62 = .ok (.aload_n 0, 1) := by decide +kernel
theorem dX8_tell_63 : decode cX8_tell 63 = .ok (.iload_n 1, 1) := by decide +kernel
theorem dX8_tell_64 : decode cX8_tell 64 = .ok (.invokevirtual 308, 3) := by decide +kernel
theorem dX8_tell_67 : decode cX8_tell 67 = .ok (.ireturn, 1) := by decide +kernel
theorem dX8_tell_68 : decode cX8_tell 68 = .ok (.aload_n 0, 1) := by decide +kernel
theorem dX8_tell_69 : decode cX8_tell 69 = .ok (.iload_n 1, 1) := by decide +kernel
theorem dX8_tell_70 : decode cX8_tell 70 = .ok (.invokevirtual 311, 3) := by decide +kernel
theorem dX8_tell_73 : decode cX8_tell 73 = .ok (.ireturn, 1) := by decide +kernel
theorem dX8_greet_0 : decode cX8_greet 0 = .ok (.aload_n 0, 1) := by decide +kernel
theorem dX8_greet_1 : decode cX8_greet 1 = .ok (.getfield 12, 3) := by decide +kernel
theorem dX8_greet_4 : decode cX8_greet 4 = .ok (.getfield 70, 3) := by decide +kernel
theorem dX8_greet_7 : decode cX8_greet 7 = .ok (.iload_n 1, 1) := by decide +kernel
theorem dX8_greet_8 : decode cX8_greet 8 = .ok (.invokevirtual 145, 3) := by decide +kernel
theorem dX8_greet_11 : decode cX8_greet 11 = .ok (.ifCond .ne 5, 3) := by decide +kernel
theorem dX8_greet_14 : decode cX8_greet 14 = .ok (.iconst (-1), 1) := by decide +kernel
theorem dX8_greet_15 : decode cX8_greet 15 = .ok (.ireturn, 1) := by decide +kernel
theorem dX8_greet_16 : decode cX8_greet 16 = .ok (.aload_n 0, 1) := by decide +kernel
theorem dX8_greet_17 : decode cX8_greet 17 = .ok (.getfield 12, 3) := by decide +kernel
theorem dX8_greet_20 : decode cX8_greet 20 = .ok (.getfield 70, 3) := by decide +kernel
theorem dX8_greet_23 : decode cX8_greet 23 = .ok (.getfield 148, 3) := by decide +kernel
theorem dX8_greet_26 : decode cX8_greet 26 = .ok (.iload_n 1, 1) := by decide +kernel
theorem dX8_greet_27 : decode cX8_greet 27 = .ok (.iaload, 1) := by decide +kernel
theorem dX8_greet_28 : decode cX8_greet 28 = .ok (.iconst 2, 1) := by decide +kernel
theorem dX8_greet_29 : decode cX8_greet 29 = .ok (.if_icmp .ne 11, 3) := by decide +kernel
theorem dX8_greet_32 : decode cX8_greet 32 = .ok (.aload_n 0, 1) := by decide +kernel
theorem dX8_greet_33 : decode cX8_greet 33 = .ok (.iconst 5, 1) := by decide +kernel
theorem dX8_greet_34 : decode cX8_greet 34 = .ok (.invokevirtual 314, 3) := by decide +kernel
theorem dX8_greet_37 : decode cX8_greet 37 = .ok (.bipush 60, 2) := by decide +kernel
theorem dX8_greet_39 : decode cX8_greet 39 = .ok (.ireturn, 1) := by decide +kernel
theorem dX8_greet_40 : decode cX8_greet 40 = .ok (.aload_n 0, 1) := by decide +kernel
theorem dX8_greet_41 : decode cX8_greet 41 = .ok (.iconst 4, 1) := by decide +kernel
theorem dX8_greet_42 : decode cX8_greet 42 = .ok (.invokevirtual 314, 3) := by decide +kernel
theorem dX8_greet_45 : decode cX8_greet 45 = .ok (.iload_n 1, 1) := by decide +kernel
theorem dX8_greet_46 : decode cX8_greet 46 = .ok (.ireturn, 1) := by decide +kernel
theorem dX8_as_0 : decode cX8_as 0 = .ok (.aload_n 0, 1) := by decide +kernel
theorem dX8_as_1 : decode cX8_as 1 = .ok (.iconst 0, 1) := by decide +kernel
theorem dX8_as_2 : decode cX8_as 2 = .ok (.putfield 115, 3) := by decide +kernel
theorem dX8_as_5 : decode cX8_as 5 = .ok (.aload_n 0, 1) := by decide +kernel
theorem dX8_as_6 : decode cX8_as 6 = .ok (.getfield 12, 3) := by decide +kernel
theorem dX8_as_9 : decode cX8_as 9 = .ok (.getfield 70, 3) := by decide +kernel
theorem dX8_as_12 : decode cX8_as 12 = .ok (.iload_n 1, 1) := by decide +kernel
theorem dX8_as_13 : decode cX8_as 13 = .ok (.invokevirtual 145, 3) := by decide +kernel
theorem dX8_as_16 : decode cX8_as 16 = .ok (.ifCond .ne 5, 3) := by decide +kernel
theorem dX8_as_19 : decode cX8_as 19 = .ok (.iconst (-1), 1) := by decide +kernel
theorem dX8_as_20 : decode cX8_as 20 = .ok (.ireturn, 1) := by decide +kernel
theorem dX8_as_21 : decode cX8_as 21 = .ok (.iload_n 2, 1) := by decide +kernel
theorem dX8_as_22 : decode cX8_as 22 = .ok (.iconst 0, 1) := by decide +kernel
theorem dX8_as_23 : decode cX8_as 23 = .ok (.iconst 2, 1) := by decide +kernel
theorem dX8_as_24 : decode cX8_as 24 = .ok (.invokestatic 108, 3) := by decide +kernel
theorem dX8_as_27 : decode cX8_as 27 = .ok (.ifCond .ne 6, 3) := by decide +kernel
theorem dX8_as_30 : decode cX8_as 30 = .ok (.bipush (-2), 2) := by decide +kernel
theorem dX8_as_32 : decode cX8_as 32 = .ok (.ireturn, 1) := by decide +kernel
theorem dX8_as_33 : decode cX8_as 33 = .ok (.aload_n 0, 1) := by decide +kernel
theorem dX8_as_34 : decode cX8_as 34 = .ok (.getfield 12, 3) := by decide +kernel
theorem dX8_as_37 : decode cX8_as 37 = .ok (.getfield 70, 3) := by decide +kernel
theorem dX8_as_40 : decode cX8_as 40 = .ok (.getfield 148, 3) := by decide +kernel
theorem dX8_as_43 : decode cX8_as 43 = .ok (.iload_n 1, 1) := by decide +kernel
theorem dX8_as_44 : decode cX8_as 44 = .ok (.iaload, 1) := by decide +kernel
theorem dX8_as_45 : decode cX8_as 45 = .ok (.iload_n 2, 1) := by decide +kernel
theorem dX8_as_46 : decode cX8_as 46 = .ok (.if_icmp .lt 7, 3) := by decide +kernel
theorem dX8_as_49 : decode cX8_as 49 = .ok (.iconst 1, 1) := by decide +kernel
theorem dX8_as_50 : decode cX8_as 50 = .ok (.goto 8, 3) := by decide +kernel
theorem dX8_as_53 : decode cX8_as 53 = .ok (.aload_n 0, 1) := by decide +kernel
theorem dX8_as_54 : decode cX8_as 54 = .ok (.iconst 2, 1) := by decide +kernel
theorem dX8_as_55 : decode cX8_as 55 = .ok (.invokevirtual 282, 3) := by decide +kernel
theorem dX8_as_58 : decode cX8_as 58 = .ok (.ireturn, 1) := by decide +kernel
theorem dX8_trace_0 : decode cX8_trace 0 = .ok (.aload_n 0, 1) := by decide +kernel
theorem dX8_trace_1 : decode cX8_trace 1 = .ok (.getfield 318, 3) := by decide +kernel
theorem dX8_trace_4 : decode cX8_trace 4 = .ok (.ireturn, 1) := by decide +kernel
theorem dX8_fault_0 : decode cX8_fault 0 = .ok (.aload_n 0, 1) := by decide +kernel
theorem dX8_fault_1 : decode cX8_fault 1 = .ok (.getfield 115, 3) := by decide +kernel
theorem dX8_fault_4 : decode cX8_fault 4 = .ok (.ireturn, 1) := by decide +kernel
theorem dX8_many_0 : decode cX8_many 0 = .ok (.iload_n 1, 1) := by decide +kernel
theorem dX8_many_1 : decode cX8_many 1 = .ok (.tableswitch 98 0 4 #[35, 46, 57, 68, 79], 35) := by decide +kernel
theorem dX8_many_36 : decode cX8_many 36 = .ok (.aload_n 0, 1) := by decide +kernel
theorem dX8_many_37 : decode cX8_many 37 = .ok (.getfield 12, 3) := by decide +kernel
theorem dX8_many_40 : decode cX8_many 40 = .ok (.getfield 60, 3) := by decide +kernel
theorem dX8_many_43 : decode cX8_many 43 = .ok (.getfield 118, 3) := by decide +kernel
theorem dX8_many_46 : decode cX8_many 46 = .ok (.ireturn, 1) := by decide +kernel
theorem dX8_many_47 : decode cX8_many 47 = .ok (.aload_n 0, 1) := by decide +kernel
theorem dX8_many_48 : decode cX8_many 48 = .ok (.getfield 12, 3) := by decide +kernel
theorem dX8_many_51 : decode cX8_many 51 = .ok (.getfield 60, 3) := by decide +kernel
theorem dX8_many_54 : decode cX8_many 54 = .ok (.getfield 80, 3) := by decide +kernel
theorem dX8_many_57 : decode cX8_many 57 = .ok (.ireturn, 1) := by decide +kernel
theorem dX8_many_58 : decode cX8_many 58 = .ok (.aload_n 0, 1) := by decide +kernel
theorem dX8_many_59 : decode cX8_many 59 = .ok (.getfield 12, 3) := by decide +kernel
theorem dX8_many_62 : decode cX8_many 62 = .ok (.getfield 70, 3) := by decide +kernel
theorem dX8_many_65 : decode cX8_many 65 = .ok (.getfield 74, 3) := by decide +kernel
theorem dX8_many_68 : decode cX8_many 68 = .ok (.ireturn, 1) := by decide +kernel
theorem dX8_many_69 : decode cX8_many 69 = .ok (.aload_n 0, 1) := by decide +kernel
theorem dX8_many_70 : decode cX8_many 70 = .ok (.getfield 12, 3) := by decide +kernel
theorem dX8_many_73 : decode cX8_many 73 = .ok (.getfield 60, 3) := by decide +kernel
theorem dX8_many_76 : decode cX8_many 76 = .ok (.invokevirtual 173, 3) := by decide +kernel
theorem dX8_many_79 : decode cX8_many 79 = .ok (.ireturn, 1) := by decide +kernel
theorem dX8_many_80 : decode cX8_many 80 = .ok (.aload_n 0, 1) := by decide +kernel
theorem dX8_many_81 : decode cX8_many 81 = .ok (.getfield 12, 3) := by decide +kernel
theorem dX8_many_84 : decode cX8_many 84 = .ok (.getfield 60, 3) := by decide +kernel
theorem dX8_many_87 : decode cX8_many 87 = .ok (.getfield 138, 3) := by decide +kernel
theorem dX8_many_90 : decode cX8_many 90 = .ok (.ifCond .eq 7, 3) := by decide +kernel
theorem dX8_many_93 : decode cX8_many 93 = .ok (.iconst 1, 1) := by decide +kernel
theorem dX8_many_94 : decode cX8_many 94 = .ok (.goto 4, 3) := by decide +kernel
theorem dX8_many_97 : decode cX8_many 97 = .ok (.iconst 0, 1) := by decide +kernel
theorem dX8_many_98 : decode cX8_many 98 = .ok (.ireturn, 1) := by decide +kernel
theorem dX8_many_99 : decode cX8_many 99 = .ok (.bipush (-2), 2) := by decide +kernel
theorem dX8_many_101 : decode cX8_many 101 = .ok (.ireturn, 1) := by decide +kernel
theorem dX8_tellAsBuyer_0 : decode cX8_tellAsBuyer 0 = .ok (.aload_n 0, 1) := by decide +kernel
theorem dX8_tellAsBuyer_1 : decode cX8_tellAsBuyer 1 = .ok (.iconst 1, 1) := by decide +kernel
theorem dX8_tellAsBuyer_2 : decode cX8_tellAsBuyer 2 = .ok (.invokevirtual 314, 3) := by decide +kernel
theorem dX8_tellAsBuyer_5 : decode cX8_tellAsBuyer 5 = .ok (.aload_n 0, 1) := by decide +kernel
theorem dX8_tellAsBuyer_6 : decode cX8_tellAsBuyer 6 = .ok (.getfield 12, 3) := by decide +kernel
theorem dX8_tellAsBuyer_9 : decode cX8_tellAsBuyer 9 = .ok (.getfield 70, 3) := by decide +kernel
theorem dX8_tellAsBuyer_12 : decode cX8_tellAsBuyer 12 = .ok (.getfield 154, 3) := by decide +kernel
theorem dX8_tellAsBuyer_15 : decode cX8_tellAsBuyer 15 = .ok (.iload_n 1, 1) := by decide +kernel
theorem dX8_tellAsBuyer_16 : decode cX8_tellAsBuyer 16 = .ok (.iaload, 1) := by decide +kernel
theorem dX8_tellAsBuyer_17 : decode cX8_tellAsBuyer 17 = .ok (.ireturn, 1) := by decide +kernel
theorem dX8_tellAsChoosing_0 : decode cX8_tellAsChoosing 0 = .ok (.aload_n 0, 1) := by decide +kernel
theorem dX8_tellAsChoosing_1 : decode cX8_tellAsChoosing 1 = .ok (.iconst 2, 1) := by decide +kernel
theorem dX8_tellAsChoosing_2 : decode cX8_tellAsChoosing 2 = .ok (.invokevirtual 314, 3) := by decide +kernel
theorem dX8_tellAsChoosing_5 : decode cX8_tellAsChoosing 5 = .ok (.aload_n 0, 1) := by decide +kernel
theorem dX8_tellAsChoosing_6 : decode cX8_tellAsChoosing 6 = .ok (.iload_n 1, 1) := by decide +kernel
theorem dX8_tellAsChoosing_7 : decode cX8_tellAsChoosing 7 = .ok (.invokevirtual 311, 3) := by decide +kernel
theorem dX8_tellAsChoosing_10 : decode cX8_tellAsChoosing 10 = .ok (.bipush 100, 2) := by decide +kernel
theorem dX8_tellAsChoosing_12 : decode cX8_tellAsChoosing 12 = .ok (.iadd, 1) := by decide +kernel
theorem dX8_tellAsChoosing_13 : decode cX8_tellAsChoosing 13 = .ok (.ireturn, 1) := by decide +kernel
theorem dX8_tellAsWaiting_0 : decode cX8_tellAsWaiting 0 = .ok (.aload_n 0, 1) := by decide +kernel
theorem dX8_tellAsWaiting_1 : decode cX8_tellAsWaiting 1 = .ok (.iconst 3, 1) := by decide +kernel
theorem dX8_tellAsWaiting_2 : decode cX8_tellAsWaiting 2 = .ok (.invokevirtual 314, 3) := by decide +kernel
theorem dX8_tellAsWaiting_5 : decode cX8_tellAsWaiting 5 = .ok (.aload_n 0, 1) := by decide +kernel
theorem dX8_tellAsWaiting_6 : decode cX8_tellAsWaiting 6 = .ok (.iload_n 1, 1) := by decide +kernel
theorem dX8_tellAsWaiting_7 : decode cX8_tellAsWaiting 7 = .ok (.invokevirtual 308, 3) := by decide +kernel
theorem dX8_tellAsWaiting_10 : decode cX8_tellAsWaiting 10 = .ok (.istore_n 2, 1) := by decide +kernel
theorem dX8_tellAsWaiting_11 : decode cX8_tellAsWaiting 11 = .ok (.iload_n 2, 1) := by decide +kernel
theorem dX8_tellAsWaiting_12 : decode cX8_tellAsWaiting 12 = .ok (.aload_n 0, 1) := by decide +kernel
theorem dX8_tellAsWaiting_13 : decode cX8_tellAsWaiting 13 = .ok (.iload_n 1, 1) := by decide +kernel
theorem dX8_tellAsWaiting_14 : decode cX8_tellAsWaiting 14 = .ok (.invokevirtual 311, 3) := by decide +kernel
theorem dX8_tellAsWaiting_17 : decode cX8_tellAsWaiting 17 = .ok (.iadd, 1) := by decide +kernel
theorem dX8_tellAsWaiting_18 : decode cX8_tellAsWaiting 18 = .ok (.ireturn, 1) := by decide +kernel
theorem dX8_leaveTrace_0 : decode cX8_leaveTrace 0 = .ok (.aload_n 0, 1) := by decide +kernel
theorem dX8_leaveTrace_1 : decode cX8_leaveTrace 1 = .ok (.bipush 31, 2) := by decide +kernel
theorem dX8_leaveTrace_3 : decode cX8_leaveTrace 3 = .ok (.aload_n 0, 1) := by decide +kernel
theorem dX8_leaveTrace_4 : decode cX8_leaveTrace 4 = .ok (.getfield 318, 3) := by decide +kernel
theorem dX8_leaveTrace_7 : decode cX8_leaveTrace 7 = .ok (.imul, 1) := by decide +kernel
theorem dX8_leaveTrace_8 : decode cX8_leaveTrace 8 = .ok (.iload_n 1, 1) := by decide +kernel
theorem dX8_leaveTrace_9 : decode cX8_leaveTrace 9 = .ok (.iadd, 1) := by decide +kernel
theorem dX8_leaveTrace_10 : decode cX8_leaveTrace 10 = .ok (.putfield 318, 3) := by decide +kernel
theorem dX8_leaveTrace_13 : decode cX8_leaveTrace 13 = .ok (.return_, 1) := by decide +kernel
theorem dX8_faultOf_0 : decode cX8_faultOf 0 = .ok (.aload_n 0, 1) := by decide +kernel
theorem dX8_faultOf_1 : decode cX8_faultOf 1 = .ok (.iload_n 1, 1) := by decide +kernel
theorem dX8_faultOf_2 : decode cX8_faultOf 2 = .ok (.putfield 115, 3) := by decide +kernel
theorem dX8_faultOf_5 : decode cX8_faultOf 5 = .ok (.bipush (-10), 2) := by decide +kernel
theorem dX8_faultOf_7 : decode cX8_faultOf 7 = .ok (.iload_n 1, 1) := by decide +kernel
theorem dX8_faultOf_8 : decode cX8_faultOf 8 = .ok (.isub, 1) := by decide +kernel
theorem dX8_faultOf_9 : decode cX8_faultOf 9 = .ok (.ireturn, 1) := by decide +kernel
theorem dX8_lookAtCells_0 : decode cX8_lookAtCells 0 = .ok (.aload_n 0, 1) := by decide +kernel
theorem dX8_lookAtCells_1 : decode cX8_lookAtCells 1 = .ok (.iconst 0, 1) := by decide +kernel
theorem dX8_lookAtCells_2 : decode cX8_lookAtCells 2 = .ok (.putfield 115, 3) := by decide +kernel
theorem dX8_lookAtCells_5 : decode cX8_lookAtCells 5 = .ok (.aload_n 0, 1) := by decide +kernel
theorem dX8_lookAtCells_6 : decode cX8_lookAtCells 6 = .ok (.getfield 28, 3) := by decide +kernel
theorem dX8_lookAtCells_9 : decode cX8_lookAtCells 9 = .ok (.iload_n 1, 1) := by decide +kernel
theorem dX8_lookAtCells_10 : decode cX8_lookAtCells 10 = .ok (.invokevirtual 276, 3) := by decide +kernel
theorem dX8_lookAtCells_13 : decode cX8_lookAtCells 13 = .ok (.ifCond .ne 5, 3) := by decide +kernel
theorem dX8_lookAtCells_16 : decode cX8_lookAtCells 16 = .ok (.iconst (-1), 1) := by decide +kernel
theorem dX8_lookAtCells_17 : decode cX8_lookAtCells 17 = .ok (.ireturn, 1) := by decide +kernel
theorem dX8_lookAtCells_18 : decode cX8_lookAtCells 18 = .ok (.aload_n 0, 1) := by decide +kernel
theorem dX8_lookAtCells_19 : decode cX8_lookAtCells 19 = .ok (.getfield 28, 3) := by decide +kernel
theorem dX8_lookAtCells_22 : decode cX8_lookAtCells 22 = .ok (.iload_n 2, 1) := by decide +kernel
theorem dX8_lookAtCells_23 : decode cX8_lookAtCells 23 = .ok (.invokevirtual 279, 3) := by decide +kernel
theorem dX8_lookAtCells_26 : decode cX8_lookAtCells 26 = .ok (.ifCond .ne 6, 3) := by decide +kernel
theorem dX8_lookAtCells_29 : decode cX8_lookAtCells 29 = .ok (.bipush (-2), 2) := by decide +kernel
theorem dX8_lookAtCells_31 : decode cX8_lookAtCells 31 = .ok (.ireturn, 1) := by decide +kernel
theorem dX8_lookAtCells_32 : decode cX8_lookAtCells 32 = .ok (.aload_n 0, 1) := by decide +kernel
theorem dX8_lookAtCells_33 : decode cX8_lookAtCells 33 = .ok (.getfield 28, 3) := by decide +kernel
theorem dX8_lookAtCells_36 : decode cX8_lookAtCells 36 = .ok (.iload_n 1, 1) := by decide +kernel
theorem dX8_lookAtCells_37 : decode cX8_lookAtCells 37 = .ok (.invokevirtual 290, 3) := by decide +kernel
theorem dX8_lookAtCells_40 : decode cX8_lookAtCells 40 = .ok (.ifCond .ne 9, 3) := by decide +kernel
theorem dX8_lookAtCells_43 : decode cX8_lookAtCells 43 = .ok (.aload_n 0, 1) := by decide +kernel
theorem dX8_lookAtCells_44 : decode cX8_lookAtCells 44 = .ok (.iconst 1, 1) := by decide +kernel
theorem dX8_lookAtCells_45 : decode cX8_lookAtCells 45 = .ok (.invokevirtual 282, 3) := by decide +kernel
theorem dX8_lookAtCells_48 : decode cX8_lookAtCells 48 = .ok (.ireturn, 1) := by decide +kernel
theorem dX8_lookAtCells_49 : decode cX8_lookAtCells 49 = .ok (.aload_n 0, 1) := by decide +kernel
theorem dX8_lookAtCells_50 : decode cX8_lookAtCells 50 = .ok (.getfield 28, 3) := by decide +kernel
theorem dX8_lookAtCells_53 : decode cX8_lookAtCells 53 = .ok (.getfield 299, 3) := by decide +kernel
theorem dX8_lookAtCells_56 : decode cX8_lookAtCells 56 = .ok (.iload_n 1, 1) := by decide +kernel
theorem dX8_lookAtCells_57 : decode cX8_lookAtCells 57 = .ok (.iaload, 1) := by decide +kernel
theorem dX8_lookAtCells_58 : decode cX8_lookAtCells 58 = .ok (.iload_n 2, 1) := by decide +kernel
theorem dX8_lookAtCells_59 : decode cX8_lookAtCells 59 = .ok (.if_icmp .eq 9, 3) := by decide +kernel
theorem dX8_lookAtCells_62 : decode cX8_lookAtCells 62 = .ok (.aload_n 0, 1) := by decide +kernel
theorem dX8_lookAtCells_63 : decode cX8_lookAtCells 63 = .ok (.iconst 2, 1) := by decide +kernel
theorem dX8_lookAtCells_64 : decode cX8_lookAtCells 64 = .ok (.invokevirtual 282, 3) := by decide +kernel
theorem dX8_lookAtCells_67 : decode cX8_lookAtCells 67 = .ok (.ireturn, 1) := by decide +kernel
theorem dX8_lookAtCells_68 : decode cX8_lookAtCells 68 = .ok (.iload 4, 2) := by decide +kernel
theorem dX8_lookAtCells_70 : decode cX8_lookAtCells 70 = .ok (.ifCond .ge 9, 3) := by decide +kernel
theorem dX8_lookAtCells_73 : decode cX8_lookAtCells 73 = .ok (.aload_n 0, 1) := by decide +kernel
theorem dX8_lookAtCells_74 : decode cX8_lookAtCells 74 = .ok (.iconst 4, 1) := by decide +kernel
theorem dX8_lookAtCells_75 : decode cX8_lookAtCells 75 = .ok (.invokevirtual 282, 3) := by decide +kernel
theorem dX8_lookAtCells_78 : decode cX8_lookAtCells 78 = .ok (.ireturn, 1) := by decide +kernel
theorem dX8_lookAtCells_79 : decode cX8_lookAtCells 79 = .ok (.aload_n 0, 1) := by decide +kernel
theorem dX8_lookAtCells_80 : decode cX8_lookAtCells 80 = .ok (.getfield 28, 3) := by decide +kernel
theorem dX8_lookAtCells_83 : decode cX8_lookAtCells 83 = .ok (.iload_n 1, 1) := by decide +kernel
theorem dX8_lookAtCells_84 : decode cX8_lookAtCells 84 = .ok (.iload_n 3, 1) := by decide +kernel
theorem dX8_lookAtCells_85 : decode cX8_lookAtCells 85 = .ok (.iload 4, 2) := by decide +kernel
theorem dX8_lookAtCells_87 : decode cX8_lookAtCells 87 = .ok (.invokevirtual 296, 3) := by decide +kernel
theorem dX8_lookAtCells_90 : decode cX8_lookAtCells 90 = .ok (.ifCond .eq 7, 3) := by decide +kernel
theorem dX8_lookAtCells_93 : decode cX8_lookAtCells 93 = .ok (.iconst 0, 1) := by decide +kernel
theorem dX8_lookAtCells_94 : decode cX8_lookAtCells 94 = .ok (.goto 8, 3) := by decide +kernel
theorem dX8_lookAtCells_97 : decode cX8_lookAtCells 97 = .ok (.aload_n 0, 1) := by decide +kernel
theorem dX8_lookAtCells_98 : decode cX8_lookAtCells 98 = .ok (.iconst 3, 1) := by decide +kernel
theorem dX8_lookAtCells_99 : decode cX8_lookAtCells 99 = .ok (.invokevirtual 282, 3) := by decide +kernel
theorem dX8_lookAtCells_102 : decode cX8_lookAtCells 102 = .ok (.ireturn, 1) := by decide +kernel
theorem dX8_isWithin_0 : decode cX8_isWithin 0 = .ok (.iload_n 0, 1) := by decide +kernel
theorem dX8_isWithin_1 : decode cX8_isWithin 1 = .ok (.iload_n 1, 1) := by decide +kernel
theorem dX8_isWithin_2 : decode cX8_isWithin 2 = .ok (.if_icmp .lt 12, 3) := by decide +kernel
theorem dX8_isWithin_5 : decode cX8_isWithin 5 = .ok (.iload_n 0, 1) := by decide +kernel
theorem dX8_isWithin_6 : decode cX8_isWithin 6 = .ok (.iload_n 2, 1) := by decide +kernel
theorem dX8_isWithin_7 : decode cX8_isWithin 7 = .ok (.if_icmp .gt 7, 3) := by decide +kernel
theorem dX8_isWithin_10 : decode cX8_isWithin 10 = .ok (.iconst 1, 1) := by decide +kernel
theorem dX8_isWithin_11 : decode cX8_isWithin 11 = .ok (.goto 4, 3) := by decide +kernel
theorem dX8_isWithin_14 : decode cX8_isWithin 14 = .ok (.iconst 0, 1) := by decide +kernel
theorem dX8_isWithin_15 : decode cX8_isWithin 15 = .ok (.ireturn, 1) := by decide +kernel
theorem dX8_areMoney_0 : decode cX8_areMoney 0 = .ok (.iload_n 0, 1) := by decide +kernel
theorem dX8_areMoney_1 : decode cX8_areMoney 1 = .ok (.iconst 0, 1) := by decide +kernel
theorem dX8_areMoney_2 : decode cX8_areMoney 2 = .ok (.bipush 99, 2) := by decide +kernel
theorem dX8_areMoney_4 : decode cX8_areMoney 4 = .ok (.invokestatic 108, 3) := by decide +kernel
theorem dX8_areMoney_7 : decode cX8_areMoney 7 = .ok (.ifCond .eq 27, 3) := by decide +kernel
theorem dX8_areMoney_10 : decode cX8_areMoney 10 = .ok (.iload_n 1, 1) := by decide +kernel
theorem dX8_areMoney_11 : decode cX8_areMoney 11 = .ok (.iconst 0, 1) := by decide +kernel
theorem dX8_areMoney_12 : decode cX8_areMoney 12 = .ok (.bipush 99, 2) := by decide +kernel
theorem dX8_areMoney_14 : decode cX8_areMoney 14 = .ok (.invokestatic 108, 3) := by decide +kernel
theorem dX8_areMoney_17 : decode cX8_areMoney 17 = .ok (.ifCond .eq 17, 3) := by decide +kernel
theorem dX8_areMoney_20 : decode cX8_areMoney 20 = .ok (.iload_n 2, 1) := by decide +kernel
theorem dX8_areMoney_21 : decode cX8_areMoney 21 = .ok (.iconst 0, 1) := by decide +kernel
theorem dX8_areMoney_22 : decode cX8_areMoney 22 = .ok (.bipush 99, 2) := by decide +kernel
theorem dX8_areMoney_24 : decode cX8_areMoney 24 = .ok (.invokestatic 108, 3) := by decide +kernel
theorem dX8_areMoney_27 : decode cX8_areMoney 27 = .ok (.ifCond .eq 7, 3) := by decide +kernel
theorem dX8_areMoney_30 : decode cX8_areMoney 30 = .ok (.iconst 1, 1) := by decide +kernel
theorem dX8_areMoney_31 : decode cX8_areMoney 31 = .ok (.goto 4, 3) := by decide +kernel
theorem dX8_areMoney_34 : decode cX8_areMoney 34 = .ok (.iconst 0, 1) := by decide +kernel
theorem dX8_areMoney_35 : decode cX8_areMoney 35 = .ok (.ireturn, 1) := by decide +kernel
theorem dX8_areAllWithin_0 : decode cX8_areAllWithin 0 = .ok (.iconst 0, 1) := by decide +kernel
theorem dX8_areAllWithin_1 : decode cX8_areAllWithin 1 = .ok (.istore 5, 2) := by decide +kernel
theorem dX8_areAllWithin_3 : decode cX8_areAllWithin 3 = .ok (.iload 5, 2) := by decide +kernel
theorem dX8_areAllWithin_5 : decode cX8_areAllWithin 5 = .ok (.iload_n 2, 1) := by decide +kernel
theorem dX8_areAllWithin_6 : decode cX8_areAllWithin 6 = .ok (.if_icmp .ge 26, 3) := by decide +kernel
theorem dX8_areAllWithin_9 : decode cX8_areAllWithin 9 = .ok (.aload_n 0, 1) := by decide +kernel
theorem dX8_areAllWithin_10 : decode cX8_areAllWithin 10 = .ok (.iload_n 1, 1) := by decide +kernel
theorem dX8_areAllWithin_11 : decode cX8_areAllWithin 11 = .ok (.iload 5, 2) := by decide +kernel
theorem dX8_areAllWithin_13 : decode cX8_areAllWithin 13 = .ok (.iadd, 1) := by decide +kernel
theorem dX8_areAllWithin_14 : decode cX8_areAllWithin 14 = .ok (.iaload, 1) := by decide +kernel
theorem dX8_areAllWithin_15 : decode cX8_areAllWithin 15 = .ok (.iload_n 3, 1) := by decide +kernel
theorem dX8_areAllWithin_16 : decode cX8_areAllWithin 16 = .ok (.iload 4, 2) := by decide +kernel
theorem dX8_areAllWithin_18 : decode cX8_areAllWithin 18 = .ok (.invokestatic 108, 3) := by decide +kernel
theorem dX8_areAllWithin_21 : decode cX8_areAllWithin 21 = .ok (.ifCond .ne 5, 3) := by decide +kernel
theorem dX8_areAllWithin_24 : decode cX8_areAllWithin 24 = .ok (.iconst 0, 1) := by decide +kernel
theorem dX8_areAllWithin_25 : decode cX8_areAllWithin 25 = .ok (.ireturn, 1) := by decide +kernel
theorem dX8_areAllWithin_26 : decode cX8_areAllWithin 26 = .ok (.iinc 5 1, 3) := by decide +kernel
theorem dX8_areAllWithin_29 : decode cX8_areAllWithin 29 = .ok (.goto (-26), 3) := by decide +kernel
theorem dX8_areAllWithin_32 : decode cX8_areAllWithin 32 = .ok (.iconst 1, 1) := by decide +kernel
theorem dX8_areAllWithin_33 : decode cX8_areAllWithin 33 = .ok (.ireturn, 1) := by decide +kernel
theorem dX8_partOfShare_0 : decode cX8_partOfShare 0 = .ok (.lload_n 0, 1) := by decide +kernel
theorem dX8_partOfShare_1 : decode cX8_partOfShare 1 = .ok (.invokestatic 321, 3) := by decide +kernel
theorem dX8_partOfShare_4 : decode cX8_partOfShare 4 = .ok (.lload_n 2, 1) := by decide +kernel
theorem dX8_partOfShare_5 : decode cX8_partOfShare 5 = .ok (.invokestatic 321, 3) := by decide +kernel
theorem dX8_partOfShare_8 : decode cX8_partOfShare 8 = .ok (.invokestatic 327, 3) := by decide +kernel
theorem dX8_partOfShare_11 : decode cX8_partOfShare 11 = .ok (.lstore 5, 2) := by decide +kernel
theorem dX8_partOfShare_13 : decode cX8_partOfShare 13 = .ok (.lload 5, 2) := by decide +kernel
theorem dX8_partOfShare_15 : decode cX8_partOfShare 15 = .ok (.lconst 0, 1) := by decide +kernel
theorem dX8_partOfShare_16 : decode cX8_partOfShare 16 = .ok (.lcmp, 1) := by decide +kernel
theorem dX8_partOfShare_17 : decode cX8_partOfShare 17 = .ok (.ifCond .ne 7, 3) := by decide +kernel
theorem dX8_partOfShare_20 : decode cX8_partOfShare 20 = .ok (.ldc2_w 237, 3) := by decide +kernel
theorem dX8_partOfShare_23 : decode cX8_partOfShare 23 = .ok (.lreturn, 1) := by decide +kernel
theorem dX8_partOfShare_24 : decode cX8_partOfShare 24 = .ok (.iload 4, 2) := by decide +kernel
theorem dX8_partOfShare_26 : decode cX8_partOfShare 26 = .ok (.ifCond .ne 7, 3) := by decide +kernel
theorem dX8_partOfShare_29 : decode cX8_partOfShare 29 = .ok (.lload_n 0, 1) := by decide +kernel
theorem dX8_partOfShare_30 : decode cX8_partOfShare 30 = .ok (.goto 4, 3) := by decide +kernel
theorem dX8_partOfShare_33 : decode cX8_partOfShare 33 = .ok (.lload_n 2, 1) := by decide +kernel
theorem dX8_partOfShare_34 : decode cX8_partOfShare 34 = .ok (.lload 5, 2) := by decide +kernel
theorem dX8_partOfShare_36 : decode cX8_partOfShare 36 = .ok (.ldiv, 1) := by decide +kernel
theorem dX8_partOfShare_37 : decode cX8_partOfShare 37 = .ok (.lstore 7, 2) := by decide +kernel
theorem dX8_partOfShare_39 : decode cX8_partOfShare 39 = .ok (.lload_n 2, 1) := by decide +kernel
theorem dX8_partOfShare_40 : decode cX8_partOfShare 40 = .ok (.lconst 0, 1) := by decide +kernel
theorem dX8_partOfShare_41 : decode cX8_partOfShare 41 = .ok (.lcmp, 1) := by decide +kernel
theorem dX8_partOfShare_42 : decode cX8_partOfShare 42 = .ok (.ifCond .ge 9, 3) := by decide +kernel
theorem dX8_partOfShare_45 : decode cX8_partOfShare 45 = .ok (.lload 7, 2) := by decide +kernel
theorem dX8_partOfShare_47 : decode cX8_partOfShare 47 = .ok (.lneg, 1) := by decide +kernel
theorem dX8_partOfShare_48 : decode cX8_partOfShare 48 = .ok (.goto 5, 3) := by decide +kernel
theorem dX8_partOfShare_51 : decode cX8_partOfShare 51 = .ok (.lload 7, 2) := by decide +kernel
theorem dX8_partOfShare_53 : decode cX8_partOfShare 53 = .ok (.lreturn, 1) := by decide +kernel
theorem dX8_commonDivisor_0 : decode cX8_commonDivisor 0 = .ok (.iconst 0, 1) := by decide +kernel
theorem dX8_commonDivisor_1 : decode cX8_commonDivisor 1 = .ok (.istore 4, 2) := by decide +kernel
theorem dX8_commonDivisor_3 : decode cX8_commonDivisor 3 = .ok (.iload 4, 2) := by decide +kernel
theorem dX8_commonDivisor_5 : decode cX8_commonDivisor 5 = .ok (.bipush 100, 2) := by decide +kernel
theorem dX8_commonDivisor_7 : decode cX8_commonDivisor 7 = .ok (.if_icmp .ge 25, 3) := by decide +kernel
theorem dX8_commonDivisor_10 : decode cX8_commonDivisor 10 = .ok (.lload_n 2, 1) := by decide +kernel
theorem dX8_commonDivisor_11 : decode cX8_commonDivisor 11 = .ok (.lconst 0, 1) := by decide +kernel
theorem dX8_commonDivisor_12 : decode cX8_commonDivisor 12 = .ok (.lcmp, 1) := by decide +kernel
theorem dX8_commonDivisor_13 : decode cX8_commonDivisor 13 = .ok (.ifCond .eq 19, 3) := by decide +kernel
theorem dX8_commonDivisor_16 : decode cX8_commonDivisor 16 = .ok (.lload_n 0, 1) := by decide +kernel
theorem dX8_commonDivisor_17 : decode cX8_commonDivisor 17 = .ok (.lload_n 2, 1) := by decide +kernel
theorem dX8_commonDivisor_18 : decode cX8_commonDivisor 18 = .ok (.lrem, 1) := by decide +kernel
theorem dX8_commonDivisor_19 : decode cX8_commonDivisor 19 = .ok (.lstore 5, 2) := by decide +kernel
theorem dX8_commonDivisor_21 : decode cX8_commonDivisor 21 = .ok (.lload_n 2, 1) := by decide +kernel
theorem dX8_commonDivisor_22 : decode cX8_commonDivisor 22 = .ok (.lstore_n 0, 1) := by decide +kernel
theorem dX8_commonDivisor_23 : decode cX8_commonDivisor 23 = .ok (.lload 5, 2) := by decide +kernel
theorem dX8_commonDivisor_25 : decode cX8_commonDivisor 25 = .ok (.lstore_n 2, 1) := by decide +kernel
theorem dX8_commonDivisor_26 : decode cX8_commonDivisor 26 = .ok (.iinc 4 1, 3) := by decide +kernel
theorem dX8_commonDivisor_29 : decode cX8_commonDivisor 29 = .ok (.goto (-26), 3) := by decide +kernel
theorem dX8_commonDivisor_32 : decode cX8_commonDivisor 32 = .ok (.lload_n 0, 1) := by decide +kernel
theorem dX8_commonDivisor_33 : decode cX8_commonDivisor 33 = .ok (.lreturn, 1) := by decide +kernel

theorem dX0_init_0 : decode cX0_init 0 = .ok (.aload_n 0, 1) := by decide +kernel
theorem dX0_init_1 : decode cX0_init 1 = .ok (.invokespecial 3, 3) := by decide +kernel
theorem dX0_init_4 : decode cX0_init 4 = .ok (.aload_n 0, 1) := by decide +kernel
theorem dX0_init_5 : decode cX0_init 5 = .ok (.bipush 10, 2) := by decide +kernel
theorem dX0_init_7 : decode cX0_init 7 = .ok (.newarray .int, 2) := by decide +kernel
theorem dX0_init_9 : decode cX0_init 9 = .ok (.putfield 9, 3) := by decide +kernel
theorem dX0_init_12 : decode cX0_init 12 = .ok (.aload_n 0, 1) := by decide +kernel
theorem dX0_init_13 : decode cX0_init 13 = .ok (.bipush 10, 2) := by decide +kernel
theorem dX0_init_15 : decode cX0_init 15 = .ok (.newarray .int, 2) := by decide +kernel
theorem dX0_init_17 : decode cX0_init 17 = .ok (.putfield 15, 3) := by decide +kernel
theorem dX0_init_20 : decode cX0_init 20 = .ok (.aload_n 0, 1) := by decide +kernel
theorem dX0_init_21 : decode cX0_init 21 = .ok (.bipush 10, 2) := by decide +kernel
theorem dX0_init_23 : decode cX0_init 23 = .ok (.newarray .int, 2) := by decide +kernel
theorem dX0_init_25 : decode cX0_init 25 = .ok (.putfield 18, 3) := by decide +kernel
theorem dX0_init_28 : decode cX0_init 28 = .ok (.aload_n 0, 1) := by decide +kernel
theorem dX0_init_29 : decode cX0_init 29 = .ok (.bipush 10, 2) := by decide +kernel
theorem dX0_init_31 : decode cX0_init 31 = .ok (.newarray .int, 2) := by decide +kernel
theorem dX0_init_33 : decode cX0_init 33 = .ok (.putfield 21, 3) := by decide +kernel
theorem dX0_init_36 : decode cX0_init 36 = .ok (.aload_n 0, 1) := by decide +kernel
theorem dX0_init_37 : decode cX0_init 37 = .ok (.iconst 3, 1) := by decide +kernel
theorem dX0_init_38 : decode cX0_init 38 = .ok (.newarray .int, 2) := by decide +kernel
theorem dX0_init_40 : decode cX0_init 40 = .ok (.putfield 24, 3) := by decide +kernel
theorem dX0_init_43 : decode cX0_init 43 = .ok (.aload_n 0, 1) := by decide +kernel
theorem dX0_init_44 : decode cX0_init 44 = .ok (.iconst 0, 1) := by decide +kernel
theorem dX0_init_45 : decode cX0_init 45 = .ok (.putfield 27, 3) := by decide +kernel
theorem dX0_init_48 : decode cX0_init 48 = .ok (.aload_n 0, 1) := by decide +kernel
theorem dX0_init_49 : decode cX0_init 49 = .ok (.iconst 0, 1) := by decide +kernel
theorem dX0_init_50 : decode cX0_init 50 = .ok (.putfield 31, 3) := by decide +kernel
theorem dX0_init_53 : decode cX0_init 53 = .ok (.return_, 1) := by decide +kernel
theorem dX0_clear_0 : decode cX0_clear 0 = .ok (.aload_n 0, 1) := by decide +kernel
theorem dX0_clear_1 : decode cX0_clear 1 = .ok (.iconst 0, 1) := by decide +kernel
theorem dX0_clear_2 : decode cX0_clear 2 = .ok (.putfield 27, 3) := by decide +kernel
theorem dX0_clear_5 : decode cX0_clear 5 = .ok (.aload_n 0, 1) := by decide +kernel
theorem dX0_clear_6 : decode cX0_clear 6 = .ok (.iconst 0, 1) := by decide +kernel
theorem dX0_clear_7 : decode cX0_clear 7 = .ok (.putfield 31, 3) := by decide +kernel
theorem dX0_clear_10 : decode cX0_clear 10 = .ok (.return_, 1) := by decide +kernel
theorem dX0_add_0 : decode cX0_add 0 = .ok (.aload_n 0, 1) := by decide +kernel
theorem dX0_add_1 : decode cX0_add 1 = .ok (.getfield 27, 3) := by decide +kernel
theorem dX0_add_4 : decode cX0_add 4 = .ok (.bipush 10, 2) := by decide +kernel
theorem dX0_add_6 : decode cX0_add 6 = .ok (.if_icmp .ge 33, 3) := by decide +kernel
theorem dX0_add_9 : decode cX0_add 9 = .ok (.aload_n 0, 1) := by decide +kernel
theorem dX0_add_10 : decode cX0_add 10 = .ok (.getfield 9, 3) := by decide +kernel
theorem dX0_add_13 : decode cX0_add 13 = .ok (.aload_n 0, 1) := by decide +kernel
theorem dX0_add_14 : decode cX0_add 14 = .ok (.getfield 27, 3) := by decide +kernel
theorem dX0_add_17 : decode cX0_add 17 = .ok (.iload_n 1, 1) := by decide +kernel
theorem dX0_add_18 : decode cX0_add 18 = .ok (.iastore, 1) := by decide +kernel
theorem dX0_add_19 : decode cX0_add 19 = .ok (.aload_n 0, 1) := by decide +kernel
theorem dX0_add_20 : decode cX0_add 20 = .ok (.getfield 15, 3) := by decide +kernel
theorem dX0_add_23 : decode cX0_add 23 = .ok (.aload_n 0, 1) := by decide +kernel
theorem dX0_add_24 : decode cX0_add 24 = .ok (.getfield 27, 3) := by decide +kernel
theorem dX0_add_27 : decode cX0_add 27 = .ok (.iload_n 2, 1) := by decide +kernel
theorem dX0_add_28 : decode cX0_add 28 = .ok (.iastore, 1) := by decide +kernel
theorem dX0_add_29 : decode cX0_add 29 = .ok (.aload_n 0, 1) := by decide +kernel
theorem dX0_add_30 : decode cX0_add 30 = .ok (.dup, 1) := by decide +kernel
theorem dX0_add_31 : decode cX0_add 31 = .ok (.getfield 27, 3) := by decide +kernel
theorem dX0_add_34 : decode cX0_add 34 = .ok (.iconst 1, 1) := by decide +kernel
theorem dX0_add_35 : decode cX0_add 35 = .ok (.iadd, 1) := by decide +kernel
theorem dX0_add_36 : decode cX0_add 36 = .ok (.putfield 27, 3) := by decide +kernel
theorem dX0_add_39 : decode cX0_add 39 = .ok (.return_, 1) := by decide +kernel
theorem dX0_share_0 : decode cX0_share 0 = .ok (.iload_n 1, 1) := by decide +kernel
theorem dX0_share_1 : decode cX0_share 1 = .ok (.iconst 1, 1) := by decide +kernel
theorem dX0_share_2 : decode cX0_share 2 = .ok (.if_icmp .lt 15, 3) := by decide +kernel
theorem dX0_share_5 : decode cX0_share 5 = .ok (.iload_n 1, 1) := by decide +kernel
theorem dX0_share_6 : decode cX0_share 6 = .ok (.iconst 3, 1) := by decide +kernel
theorem dX0_share_7 : decode cX0_share 7 = .ok (.if_icmp .gt 10, 3) := by decide +kernel
theorem dX0_share_10 : decode cX0_share 10 = .ok (.aload_n 0, 1) := by decide +kernel
theorem dX0_share_11 : decode cX0_share 11 = .ok (.getfield 27, 3) := by decide +kernel
theorem dX0_share_14 : decode cX0_share 14 = .ok (.ifCond .ne 4, 3) := by decide +kernel
theorem dX0_share_17 : decode cX0_share 17 = .ok (.return_, 1) := by decide +kernel
theorem dX0_share_18 : decode cX0_share 18 = .ok (.aload_n 0, 1) := by decide +kernel
theorem dX0_share_19 : decode cX0_share 19 = .ok (.invokevirtual 34, 3) := by decide +kernel
theorem dX0_share_22 : decode cX0_share 22 = .ok (.iconst 1, 1) := by decide +kernel
theorem dX0_share_23 : decode cX0_share 23 = .ok (.istore_n 2, 1) := by decide +kernel
theorem dX0_share_24 : decode cX0_share 24 = .ok (.iconst 1, 1) := by decide +kernel
theorem dX0_share_25 : decode cX0_share 25 = .ok (.istore_n 3, 1) := by decide +kernel
theorem dX0_share_26 : decode cX0_share 26 = .ok (.iload_n 3, 1) := by decide +kernel
theorem dX0_share_27 : decode cX0_share 27 = .ok (.aload_n 0, 1) := by decide +kernel
theorem dX0_share_28 : decode cX0_share 28 = .ok (.getfield 27, 3) := by decide +kernel
theorem dX0_share_31 : decode cX0_share 31 = .ok (.if_icmp .ge 13, 3) := by decide +kernel
theorem dX0_share_34 : decode cX0_share 34 = .ok (.iload_n 2, 1) := by decide +kernel
theorem dX0_share_35 : decode cX0_share 35 = .ok (.iload_n 1, 1) := by decide +kernel
theorem dX0_share_36 : decode cX0_share 36 = .ok (.imul, 1) := by decide +kernel
theorem dX0_share_37 : decode cX0_share 37 = .ok (.istore_n 2, 1) := by decide +kernel
theorem dX0_share_38 : decode cX0_share 38 = .ok (.iinc 3 1, 3) := by decide +kernel
theorem dX0_share_41 : decode cX0_share 41 = .ok (.goto (-15), 3) := by decide +kernel
theorem dX0_share_44 : decode cX0_share 44 = .ok (.iconst 1, 1) := by decide +kernel
theorem dX0_share_45 : decode cX0_share 45 = .ok (.istore_n 3, 1) := by decide +kernel
theorem dX0_share_46 : decode cX0_share 46 = .ok (.iload_n 3, 1) := by decide +kernel
theorem dX0_share_47 : decode cX0_share 47 = .ok (.iload_n 2, 1) := by decide +kernel
theorem dX0_share_48 : decode cX0_share 48 = .ok (.if_icmp .ge 52, 3) := by decide +kernel
theorem dX0_share_51 : decode cX0_share 51 = .ok (.aload_n 0, 1) := by decide +kernel
theorem dX0_share_52 : decode cX0_share 52 = .ok (.iload_n 1, 1) := by decide +kernel
theorem dX0_share_53 : decode cX0_share 53 = .ok (.invokevirtual 37, 3) := by decide +kernel
theorem dX0_share_56 : decode cX0_share 56 = .ok (.aload_n 0, 1) := by decide +kernel
theorem dX0_share_57 : decode cX0_share 57 = .ok (.invokevirtual 41, 3) := by decide +kernel
theorem dX0_share_60 : decode cX0_share 60 = .ok (.istore 4, 2) := by decide +kernel
theorem dX0_share_62 : decode cX0_share 62 = .ok (.iload 4, 2) := by decide +kernel
theorem dX0_share_64 : decode cX0_share 64 = .ok (.aload_n 0, 1) := by decide +kernel
theorem dX0_share_65 : decode cX0_share 65 = .ok (.getfield 31, 3) := by decide +kernel
theorem dX0_share_68 : decode cX0_share 68 = .ok (.if_icmp .ge 26, 3) := by decide +kernel
theorem dX0_share_71 : decode cX0_share 71 = .ok (.aload_n 0, 1) := by decide +kernel
theorem dX0_share_72 : decode cX0_share 72 = .ok (.iload 4, 2) := by decide +kernel
theorem dX0_share_74 : decode cX0_share 74 = .ok (.putfield 31, 3) := by decide +kernel
theorem dX0_share_77 : decode cX0_share 77 = .ok (.aload_n 0, 1) := by decide +kernel
theorem dX0_share_78 : decode cX0_share 78 = .ok (.getfield 18, 3) := by decide +kernel
theorem dX0_share_81 : decode cX0_share 81 = .ok (.iconst 0, 1) := by decide +kernel
theorem dX0_share_82 : decode cX0_share 82 = .ok (.aload_n 0, 1) := by decide +kernel
theorem dX0_share_83 : decode cX0_share 83 = .ok (.getfield 21, 3) := by decide +kernel
theorem dX0_share_86 : decode cX0_share 86 = .ok (.iconst 0, 1) := by decide +kernel
theorem dX0_share_87 : decode cX0_share 87 = .ok (.aload_n 0, 1) := by decide +kernel
theorem dX0_share_88 : decode cX0_share 88 = .ok (.getfield 27, 3) := by decide +kernel
theorem dX0_share_91 : decode cX0_share 91 = .ok (.invokestatic 45, 3) := by decide +kernel
theorem dX0_share_94 : decode cX0_share 94 = .ok (.iinc 3 1, 3) := by decide +kernel
theorem dX0_share_97 : decode cX0_share 97 = .ok (.goto (-51), 3) := by decide +kernel
theorem dX0_share_100 : decode cX0_share 100 = .ok (.return_, 1) := by decide +kernel
theorem dX0_startWithOne_0 : decode cX0_startWithOne 0 = .ok (.aload_n 0, 1) := by decide +kernel
theorem dX0_startWithOne_1 : decode cX0_startWithOne 1 = .ok (.getfield 18, 3) := by decide +kernel
theorem dX0_startWithOne_4 : decode cX0_startWithOne 4 = .ok (.iconst 0, 1) := by decide +kernel
theorem dX0_startWithOne_5 : decode cX0_startWithOne 5 = .ok (.invokestatic 51, 3) := by decide +kernel
theorem dX0_startWithOne_8 : decode cX0_startWithOne 8 = .ok (.aload_n 0, 1) := by decide +kernel
theorem dX0_startWithOne_9 : decode cX0_startWithOne 9 = .ok (.getfield 21, 3) := by decide +kernel
theorem dX0_startWithOne_12 : decode cX0_startWithOne 12 = .ok (.iconst 0, 1) := by decide +kernel
theorem dX0_startWithOne_13 : decode cX0_startWithOne 13 = .ok (.invokestatic 51, 3) := by decide +kernel
theorem dX0_startWithOne_16 : decode cX0_startWithOne 16 = .ok (.aload_n 0, 1) := by decide +kernel
theorem dX0_startWithOne_17 : decode cX0_startWithOne 17 = .ok (.getfield 24, 3) := by decide +kernel
theorem dX0_startWithOne_20 : decode cX0_startWithOne 20 = .ok (.iconst 0, 1) := by decide +kernel
theorem dX0_startWithOne_21 : decode cX0_startWithOne 21 = .ok (.invokestatic 51, 3) := by decide +kernel
theorem dX0_startWithOne_24 : decode cX0_startWithOne 24 = .ok (.iconst 0, 1) := by decide +kernel
theorem dX0_startWithOne_25 : decode cX0_startWithOne 25 = .ok (.istore_n 1, 1) := by decide +kernel
theorem dX0_startWithOne_26 : decode cX0_startWithOne 26 = .ok (.iload_n 1, 1) := by decide +kernel
theorem dX0_startWithOne_27 : decode cX0_startWithOne 27 = .ok (.aload_n 0, 1) := by decide +kernel
theorem dX0_startWithOne_28 : decode cX0_startWithOne 28 = .ok (.getfield 27, 3) := by decide +kernel
theorem dX0_startWithOne_31 : decode cX0_startWithOne 31 = .ok (.if_icmp .ge 24, 3) := by decide +kernel
theorem dX0_startWithOne_34 : decode cX0_startWithOne 34 = .ok (.aload_n 0, 1) := by decide +kernel
theorem dX0_startWithOne_35 : decode cX0_startWithOne 35 = .ok (.getfield 24, 3) := by decide +kernel
theorem dX0_startWithOne_38 : decode cX0_startWithOne 38 = .ok (.iconst 0, 1) := by decide +kernel
theorem dX0_startWithOne_39 : decode cX0_startWithOne 39 = .ok (.dup2, 1) := by decide +kernel
theorem dX0_startWithOne_40 : decode cX0_startWithOne 40 = .ok (.iaload, 1) := by decide +kernel
theorem dX0_startWithOne_41 : decode cX0_startWithOne 41 = .ok (.aload_n 0, 1) := by decide +kernel
theorem dX0_startWithOne_42 : decode cX0_startWithOne 42 = .ok (.getfield 15, 3) := by decide +kernel
theorem dX0_startWithOne_45 : decode cX0_startWithOne 45 = .ok (.iload_n 1, 1) := by decide +kernel
theorem dX0_startWithOne_46 : decode cX0_startWithOne 46 = .ok (.iaload, 1) := by decide +kernel
theorem dX0_startWithOne_47 : decode cX0_startWithOne 47 = .ok (.iadd, 1) := by decide +kernel
theorem dX0_startWithOne_48 : decode cX0_startWithOne 48 = .ok (.iastore, 1) := by decide +kernel
theorem dX0_startWithOne_49 : decode cX0_startWithOne 49 = .ok (.iinc 1 1, 3) := by decide +kernel
theorem dX0_startWithOne_52 : decode cX0_startWithOne 52 = .ok (.goto (-26), 3) := by decide +kernel
theorem dX0_startWithOne_55 : decode cX0_startWithOne 55 = .ok (.aload_n 0, 1) := by decide +kernel
theorem dX0_startWithOne_56 : decode cX0_startWithOne 56 = .ok (.aload_n 0, 1) := by decide +kernel
theorem dX0_startWithOne_57 : decode cX0_startWithOne 57 = .ok (.getfield 24, 3) := by decide +kernel
theorem dX0_startWithOne_60 : decode cX0_startWithOne 60 = .ok (.iconst 0, 1) := by decide +kernel
theorem dX0_startWithOne_61 : decode cX0_startWithOne 61 = .ok (.iaload, 1) := by decide +kernel
theorem dX0_startWithOne_62 : decode cX0_startWithOne 62 = .ok (.putfield 31, 3) := by decide +kernel
theorem dX0_startWithOne_65 : decode cX0_startWithOne 65 = .ok (.return_, 1) := by decide +kernel
theorem dX0_nextWay_0 : decode cX0_nextWay 0 = .ok (.iconst 1, 1) := by decide +kernel
theorem dX0_nextWay_1 : decode cX0_nextWay 1 = .ok (.istore_n 2, 1) := by decide +kernel
theorem dX0_nextWay_2 : decode cX0_nextWay 2 = .ok (.aload_n 0, 1) := by decide +kernel
theorem dX0_nextWay_3 : decode cX0_nextWay 3 = .ok (.getfield 27, 3) := by decide +kernel
theorem dX0_nextWay_6 : decode cX0_nextWay 6 = .ok (.iconst 1, 1) := by decide +kernel
theorem dX0_nextWay_7 : decode cX0_nextWay 7 = .ok (.isub, 1) := by decide +kernel
theorem dX0_nextWay_8 : decode cX0_nextWay 8 = .ok (.istore_n 3, 1) := by decide +kernel
theorem dX0_nextWay_9 : decode cX0_nextWay 9 = .ok (.iload_n 3, 1) := by decide +kernel
theorem dX0_nextWay_10 : decode cX0_nextWay 10 = .ok (.ifCond .le 90, 3) := by decide +kernel
theorem dX0_nextWay_13 : decode cX0_nextWay 13 = .ok (.iload_n 2, 1) := by decide +kernel
theorem dX0_nextWay_14 : decode cX0_nextWay 14 = .ok (.ifCond .eq 86, 3) := by decide +kernel
theorem dX0_nextWay_17 : decode cX0_nextWay 17 = .ok (.aload_n 0, 1) := by decide +kernel
theorem dX0_nextWay_18 : decode cX0_nextWay 18 = .ok (.getfield 24, 3) := by decide +kernel
theorem dX0_nextWay_21 : decode cX0_nextWay 21 = .ok (.aload_n 0, 1) := by decide +kernel
theorem dX0_nextWay_22 : decode cX0_nextWay 22 = .ok (.getfield 18, 3) := by decide +kernel
theorem dX0_nextWay_25 : decode cX0_nextWay 25 = .ok (.iload_n 3, 1) := by decide +kernel
theorem dX0_nextWay_26 : decode cX0_nextWay 26 = .ok (.iaload, 1) := by decide +kernel
theorem dX0_nextWay_27 : decode cX0_nextWay 27 = .ok (.dup2, 1) := by decide +kernel
theorem dX0_nextWay_28 : decode cX0_nextWay 28 = .ok (.iaload, 1) := by decide +kernel
theorem dX0_nextWay_29 : decode cX0_nextWay 29 = .ok (.aload_n 0, 1) := by decide +kernel
theorem dX0_nextWay_30 : decode cX0_nextWay 30 = .ok (.getfield 15, 3) := by decide +kernel
theorem dX0_nextWay_33 : decode cX0_nextWay 33 = .ok (.iload_n 3, 1) := by decide +kernel
theorem dX0_nextWay_34 : decode cX0_nextWay 34 = .ok (.iaload, 1) := by decide +kernel
theorem dX0_nextWay_35 : decode cX0_nextWay 35 = .ok (.isub, 1) := by decide +kernel
theorem dX0_nextWay_36 : decode cX0_nextWay 36 = .ok (.iastore, 1) := by decide +kernel
theorem dX0_nextWay_37 : decode cX0_nextWay 37 = .ok (.aload_n 0, 1) := by decide +kernel
theorem dX0_nextWay_38 : decode cX0_nextWay 38 = .ok (.getfield 18, 3) := by decide +kernel
theorem dX0_nextWay_41 : decode cX0_nextWay 41 = .ok (.iload_n 3, 1) := by decide +kernel
theorem dX0_nextWay_42 : decode cX0_nextWay 42 = .ok (.dup2, 1) := by decide +kernel
theorem dX0_nextWay_43 : decode cX0_nextWay 43 = .ok (.iaload, 1) := by decide +kernel
theorem dX0_nextWay_44 : decode cX0_nextWay 44 = .ok (.iconst 1, 1) := by decide +kernel
theorem dX0_nextWay_45 : decode cX0_nextWay 45 = .ok (.iadd, 1) := by decide +kernel
theorem dX0_nextWay_46 : decode cX0_nextWay 46 = .ok (.iastore, 1) := by decide +kernel
theorem dX0_nextWay_47 : decode cX0_nextWay 47 = .ok (.aload_n 0, 1) := by decide +kernel
theorem dX0_nextWay_48 : decode cX0_nextWay 48 = .ok (.getfield 18, 3) := by decide +kernel
theorem dX0_nextWay_51 : decode cX0_nextWay 51 = .ok (.iload_n 3, 1) := by decide +kernel
theorem dX0_nextWay_52 : decode cX0_nextWay 52 = .ok (.iaload, 1) := by decide +kernel
theorem dX0_nextWay_53 : decode cX0_nextWay 53 = .ok (.iload_n 1, 1) := by decide +kernel
theorem dX0_nextWay_54 : decode cX0_nextWay 54 = .ok (.if_icmp .ne 7, 3) := by decide +kernel
theorem dX0_nextWay_57 : decode cX0_nextWay 57 = .ok (.iconst 1, 1) := by decide +kernel
theorem dX0_nextWay_58 : decode cX0_nextWay 58 = .ok (.goto 4, 3) := by decide +kernel
theorem dX0_nextWay_61 : decode cX0_nextWay 61 = .ok (.iconst 0, 1) := by decide +kernel
theorem dX0_nextWay_62 : decode cX0_nextWay 62 = .ok (.istore_n 2, 1) := by decide +kernel
theorem dX0_nextWay_63 : decode cX0_nextWay 63 = .ok (.iload_n 2, 1) := by decide +kernel
theorem dX0_nextWay_64 : decode cX0_nextWay 64 = .ok (.ifCond .eq 10, 3) := by decide +kernel
theorem dX0_nextWay_67 : decode cX0_nextWay 67 = .ok (.aload_n 0, 1) := by decide +kernel
theorem dX0_nextWay_68 : decode cX0_nextWay 68 = .ok (.getfield 18, 3) := by decide +kernel
theorem dX0_nextWay_71 : decode cX0_nextWay 71 = .ok (.iload_n 3, 1) := by decide +kernel
theorem dX0_nextWay_72 : decode cX0_nextWay 72 = .ok (.iconst 0, 1) := by decide +kernel
theorem dX0_nextWay_73 : decode cX0_nextWay 73 = .ok (.iastore, 1) := by decide +kernel
theorem dX0_nextWay_74 : decode cX0_nextWay 74 = .ok (.aload_n 0, 1) := by decide +kernel
theorem dX0_nextWay_75 : decode cX0_nextWay 75 = .ok (.getfield 24, 3) := by decide +kernel
theorem dX0_nextWay_78 : decode cX0_nextWay 78 = .ok (.aload_n 0, 1) := by decide +kernel
theorem dX0_nextWay_79 : decode cX0_nextWay 79 = .ok (.getfield 18, 3) := by decide +kernel
theorem dX0_nextWay_82 : decode cX0_nextWay 82 = .ok (.iload_n 3, 1) := by decide +kernel
theorem dX0_nextWay_83 : decode cX0_nextWay 83 = .ok (.iaload, 1) := by decide +kernel
theorem dX0_nextWay_84 : decode cX0_nextWay 84 = .ok (.dup2, 1) := by decide +kernel
theorem dX0_nextWay_85 : decode cX0_nextWay 85 = .ok (.iaload, 1) := by decide +kernel
theorem dX0_nextWay_86 : decode cX0_nextWay 86 = .ok (.aload_n 0, 1) := by decide +kernel
theorem dX0_nextWay_87 : decode cX0_nextWay 87 = .ok (.getfield 15, 3) := by decide +kernel
theorem dX0_nextWay_90 : decode cX0_nextWay 90 = .ok (.iload_n 3, 1) := by decide +kernel
theorem dX0_nextWay_91 : decode cX0_nextWay 91 = .ok (.iaload, 1) := by decide +kernel
theorem dX0_nextWay_92 : decode cX0_nextWay 92 = .ok (.iadd, 1) := by decide +kernel
theorem dX0_nextWay_93 : decode cX0_nextWay 93 = .ok (.iastore, 1) := by decide +kernel
theorem dX0_nextWay_94 : decode cX0_nextWay 94 = .ok (.iinc 3 (-1), 3) := by decide +kernel
theorem dX0_nextWay_97 : decode cX0_nextWay 97 = .ok (.goto (-88), 3) := by decide +kernel
theorem dX0_nextWay_100 : decode cX0_nextWay 100 = .ok (.return_, 1) := by decide +kernel
theorem dX0_greatestSum_0 : decode cX0_greatestSum 0 = .ok (.iconst 0, 1) := by decide +kernel
theorem dX0_greatestSum_1 : decode cX0_greatestSum 1 = .ok (.istore_n 1, 1) := by decide +kernel
theorem dX0_greatestSum_2 : decode cX0_greatestSum 2 = .ok (.iconst 0, 1) := by decide +kernel
theorem dX0_greatestSum_3 : decode cX0_greatestSum 3 = .ok (.istore_n 2, 1) := by decide +kernel
theorem dX0_greatestSum_4 : decode cX0_greatestSum 4 = .ok (.iload_n 2, 1) := by decide +kernel
theorem dX0_greatestSum_5 : decode cX0_greatestSum 5 = .ok (.iconst 3, 1) := by decide +kernel
theorem dX0_greatestSum_6 : decode cX0_greatestSum 6 = .ok (.if_icmp .ge 20, 3) := by decide +kernel
theorem dX0_greatestSum_9 : decode cX0_greatestSum 9 = .ok (.iload_n 1, 1) := by decide +kernel
theorem dX0_greatestSum_10 : decode cX0_greatestSum 10 = .ok (.aload_n 0, 1) := by decide +kernel
theorem dX0_greatestSum_11 : decode cX0_greatestSum 11 = .ok (.getfield 24, 3) := by decide +kernel
theorem dX0_greatestSum_14 : decode cX0_greatestSum 14 = .ok (.iload_n 2, 1) := by decide +kernel
theorem dX0_greatestSum_15 : decode cX0_greatestSum 15 = .ok (.iaload, 1) := by decide +kernel
theorem dX0_greatestSum_16 : decode cX0_greatestSum 16 = .ok (.invokestatic 57, 3) := by decide +kernel
theorem dX0_greatestSum_19 : decode cX0_greatestSum 19 = .ok (.istore_n 1, 1) := by decide +kernel
theorem dX0_greatestSum_20 : decode cX0_greatestSum 20 = .ok (.iinc 2 1, 3) := by decide +kernel
theorem dX0_greatestSum_23 : decode cX0_greatestSum 23 = .ok (.goto (-19), 3) := by decide +kernel
theorem dX0_greatestSum_26 : decode cX0_greatestSum 26 = .ok (.iload_n 1, 1) := by decide +kernel
theorem dX0_greatestSum_27 : decode cX0_greatestSum 27 = .ok (.ireturn, 1) := by decide +kernel
theorem dX0_crewOf_0 : decode cX0_crewOf 0 = .ok (.iconst 0, 1) := by decide +kernel
theorem dX0_crewOf_1 : decode cX0_crewOf 1 = .ok (.istore_n 2, 1) := by decide +kernel
theorem dX0_crewOf_2 : decode cX0_crewOf 2 = .ok (.iload_n 2, 1) := by decide +kernel
theorem dX0_crewOf_3 : decode cX0_crewOf 3 = .ok (.aload_n 0, 1) := by decide +kernel
theorem dX0_crewOf_4 : decode cX0_crewOf 4 = .ok (.getfield 27, 3) := by decide +kernel
theorem dX0_crewOf_7 : decode cX0_crewOf 7 = .ok (.if_icmp .ge 26, 3) := by decide +kernel
theorem dX0_crewOf_10 : decode cX0_crewOf 10 = .ok (.aload_n 0, 1) := by decide +kernel
theorem dX0_crewOf_11 : decode cX0_crewOf 11 = .ok (.getfield 9, 3) := by decide +kernel
theorem dX0_crewOf_14 : decode cX0_crewOf 14 = .ok (.iload_n 2, 1) := by decide +kernel
theorem dX0_crewOf_15 : decode cX0_crewOf 15 = .ok (.iaload, 1) := by decide +kernel
theorem dX0_crewOf_16 : decode cX0_crewOf 16 = .ok (.iload_n 1, 1) := by decide +kernel
theorem dX0_crewOf_17 : decode cX0_crewOf 17 = .ok (.if_icmp .ne 10, 3) := by decide +kernel
theorem dX0_crewOf_20 : decode cX0_crewOf 20 = .ok (.aload_n 0, 1) := by decide +kernel
theorem dX0_crewOf_21 : decode cX0_crewOf 21 = .ok (.getfield 21, 3) := by decide +kernel
theorem dX0_crewOf_24 : decode cX0_crewOf 24 = .ok (.iload_n 2, 1) := by decide +kernel
theorem dX0_crewOf_25 : decode cX0_crewOf 25 = .ok (.iaload, 1) := by decide +kernel
theorem dX0_crewOf_26 : decode cX0_crewOf 26 = .ok (.ireturn, 1) := by decide +kernel
theorem dX0_crewOf_27 : decode cX0_crewOf 27 = .ok (.iinc 2 1, 3) := by decide +kernel
theorem dX0_crewOf_30 : decode cX0_crewOf 30 = .ok (.goto (-28), 3) := by decide +kernel
theorem dX0_crewOf_33 : decode cX0_crewOf 33 = .ok (.iconst (-1), 1) := by decide +kernel
theorem dX0_crewOf_34 : decode cX0_crewOf 34 = .ok (.ireturn, 1) := by decide +kernel
theorem dX1_init_0 : decode cX1_init 0 = .ok (.aload_n 0, 1) := by decide +kernel
theorem dX1_init_1 : decode cX1_init 1 = .ok (.invokespecial 3, 3) := by decide +kernel
theorem dX1_init_4 : decode cX1_init 4 = .ok (.aload_n 0, 1) := by decide +kernel
theorem dX1_init_5 : decode cX1_init 5 = .ok (.bipush 10, 2) := by decide +kernel
theorem dX1_init_7 : decode cX1_init 7 = .ok (.newarray .int, 2) := by decide +kernel
theorem dX1_init_9 : decode cX1_init 9 = .ok (.putfield 9, 3) := by decide +kernel
theorem dX1_init_12 : decode cX1_init 12 = .ok (.aload_n 0, 1) := by decide +kernel
theorem dX1_init_13 : decode cX1_init 13 = .ok (.bipush 10, 2) := by decide +kernel
theorem dX1_init_15 : decode cX1_init 15 = .ok (.newarray .int, 2) := by decide +kernel
theorem dX1_init_17 : decode cX1_init 17 = .ok (.putfield 15, 3) := by decide +kernel
theorem dX1_init_20 : decode cX1_init 20 = .ok (.aload_n 0, 1) := by decide +kernel
theorem dX1_init_21 : decode cX1_init 21 = .ok (.bipush 10, 2) := by decide +kernel
theorem dX1_init_23 : decode cX1_init 23 = .ok (.newarray .int, 2) := by decide +kernel
theorem dX1_init_25 : decode cX1_init 25 = .ok (.putfield 18, 3) := by decide +kernel
theorem dX1_init_28 : decode cX1_init 28 = .ok (.aload_n 0, 1) := by decide +kernel
theorem dX1_init_29 : decode cX1_init 29 = .ok (.bipush 10, 2) := by decide +kernel
theorem dX1_init_31 : decode cX1_init 31 = .ok (.newarray .int, 2) := by decide +kernel
theorem dX1_init_33 : decode cX1_init 33 = .ok (.putfield 21, 3) := by decide +kernel
theorem dX1_init_36 : decode cX1_init 36 = .ok (.aload_n 0, 1) := by decide +kernel
theorem dX1_init_37 : decode cX1_init 37 = .ok (.bipush 10, 2) := by decide +kernel
theorem dX1_init_39 : decode cX1_init 39 = .ok (.newarray .int, 2) := by decide +kernel
theorem dX1_init_41 : decode cX1_init 41 = .ok (.putfield 24, 3) := by decide +kernel
theorem dX1_init_44 : decode cX1_init 44 = .ok (.aload_n 0, 1) := by decide +kernel
theorem dX1_init_45 : decode cX1_init 45 = .ok (.bipush 10, 2) := by decide +kernel
theorem dX1_init_47 : decode cX1_init 47 = .ok (.newarray .int, 2) := by decide +kernel
theorem dX1_init_49 : decode cX1_init 49 = .ok (.putfield 27, 3) := by decide +kernel
theorem dX1_init_52 : decode cX1_init 52 = .ok (.aload_n 0, 1) := by decide +kernel
theorem dX1_init_53 : decode cX1_init 53 = .ok (.bipush 10, 2) := by decide +kernel
theorem dX1_init_55 : decode cX1_init 55 = .ok (.newarray .int, 2) := by decide +kernel
theorem dX1_init_57 : decode cX1_init 57 = .ok (.putfield 30, 3) := by decide +kernel
theorem dX1_init_60 : decode cX1_init 60 = .ok (.aload_n 0, 1) := by decide +kernel
theorem dX1_init_61 : decode cX1_init 61 = .ok (.bipush 60, 2) := by decide +kernel
theorem dX1_init_63 : decode cX1_init 63 = .ok (.newarray .int, 2) := by decide +kernel
theorem dX1_init_65 : decode cX1_init 65 = .ok (.putfield 33, 3) := by decide +kernel
theorem dX1_init_68 : decode cX1_init 68 = .ok (.aload_n 0, 1) := by decide +kernel
theorem dX1_init_69 : decode cX1_init 69 = .ok (.bipush 60, 2) := by decide +kernel
theorem dX1_init_71 : decode cX1_init 71 = .ok (.newarray .boolean, 2) := by decide +kernel
theorem dX1_init_73 : decode cX1_init 73 = .ok (.putfield 36, 3) := by decide +kernel
theorem dX1_init_76 : decode cX1_init 76 = .ok (.aload_n 0, 1) := by decide +kernel
theorem dX1_init_77 : decode cX1_init 77 = .ok (.iconst 0, 1) := by decide +kernel
theorem dX1_init_78 : decode cX1_init 78 = .ok (.putfield 40, 3) := by decide +kernel
theorem dX1_init_81 : decode cX1_init 81 = .ok (.return_, 1) := by decide +kernel
theorem dX1_has_0 : decode cX1_has 0 = .ok (.iload_n 1, 1) := by decide +kernel
theorem dX1_has_1 : decode cX1_has 1 = .ok (.ifCond .lt 15, 3) := by decide +kernel
theorem dX1_has_4 : decode cX1_has 4 = .ok (.iload_n 1, 1) := by decide +kernel
theorem dX1_has_5 : decode cX1_has 5 = .ok (.aload_n 0, 1) := by decide +kernel
theorem dX1_has_6 : decode cX1_has 6 = .ok (.getfield 40, 3) := by decide +kernel
theorem dX1_has_9 : decode cX1_has 9 = .ok (.if_icmp .ge 7, 3) := by decide +kernel
theorem dX1_has_12 : decode cX1_has 12 = .ok (.iconst 1, 1) := by decide +kernel
theorem dX1_has_13 : decode cX1_has 13 = .ok (.goto 4, 3) := by decide +kernel
theorem dX1_has_16 : decode cX1_has 16 = .ok (.iconst 0, 1) := by decide +kernel
theorem dX1_has_17 : decode cX1_has 17 = .ok (.ireturn, 1) := by decide +kernel
theorem dX1_hasAll_0 : decode cX1_hasAll 0 = .ok (.iload_n 1, 1) := by decide +kernel
theorem dX1_hasAll_1 : decode cX1_hasAll 1 = .ok (.ifCond .lt 17, 3) := by decide +kernel
theorem dX1_hasAll_4 : decode cX1_hasAll 4 = .ok (.iload_n 1, 1) := by decide +kernel
theorem dX1_hasAll_5 : decode cX1_hasAll 5 = .ok (.iconst 1, 1) := by decide +kernel
theorem dX1_hasAll_6 : decode cX1_hasAll 6 = .ok (.aload_n 0, 1) := by decide +kernel
theorem dX1_hasAll_7 : decode cX1_hasAll 7 = .ok (.getfield 40, 3) := by decide +kernel
theorem dX1_hasAll_10 : decode cX1_hasAll 10 = .ok (.ishl, 1) := by decide +kernel
theorem dX1_hasAll_11 : decode cX1_hasAll 11 = .ok (.if_icmp .ge 7, 3) := by decide +kernel
theorem dX1_hasAll_14 : decode cX1_hasAll 14 = .ok (.iconst 1, 1) := by decide +kernel
theorem dX1_hasAll_15 : decode cX1_hasAll 15 = .ok (.goto 4, 3) := by decide +kernel
theorem dX1_hasAll_18 : decode cX1_hasAll 18 = .ok (.iconst 0, 1) := by decide +kernel
theorem dX1_hasAll_19 : decode cX1_hasAll 19 = .ok (.ireturn, 1) := by decide +kernel
theorem dX1_ask_0 : decode cX1_ask 0 = .ok (.aload_n 0, 1) := by decide +kernel
theorem dX1_ask_1 : decode cX1_ask 1 = .ok (.getfield 40, 3) := by decide +kernel
theorem dX1_ask_4 : decode cX1_ask 4 = .ok (.bipush 10, 2) := by decide +kernel
theorem dX1_ask_6 : decode cX1_ask 6 = .ok (.if_icmp .lt 6, 3) := by decide +kernel
theorem dX1_ask_9 : decode cX1_ask 9 = .ok (.bipush (-4), 2) := by decide +kernel
theorem dX1_ask_11 : decode cX1_ask 11 = .ok (.ireturn, 1) := by decide +kernel
theorem dX1_ask_12 : decode cX1_ask 12 = .ok (.aload_n 0, 1) := by decide +kernel
theorem dX1_ask_13 : decode cX1_ask 13 = .ok (.getfield 9, 3) := by decide +kernel
theorem dX1_ask_16 : decode cX1_ask 16 = .ok (.aload_n 0, 1) := by decide +kernel
theorem dX1_ask_17 : decode cX1_ask 17 = .ok (.getfield 40, 3) := by decide +kernel
theorem dX1_ask_20 : decode cX1_ask 20 = .ok (.iload_n 1, 1) := by decide +kernel
theorem dX1_ask_21 : decode cX1_ask 21 = .ok (.iastore, 1) := by decide +kernel
theorem dX1_ask_22 : decode cX1_ask 22 = .ok (.aload_n 0, 1) := by decide +kernel
theorem dX1_ask_23 : decode cX1_ask 23 = .ok (.getfield 15, 3) := by decide +kernel
theorem dX1_ask_26 : decode cX1_ask 26 = .ok (.aload_n 0, 1) := by decide +kernel
theorem dX1_ask_27 : decode cX1_ask 27 = .ok (.getfield 40, 3) := by decide +kernel
theorem dX1_ask_30 : decode cX1_ask 30 = .ok (.iload_n 2, 1) := by decide +kernel
theorem dX1_ask_31 : decode cX1_ask 31 = .ok (.iastore, 1) := by decide +kernel
theorem dX1_ask_32 : decode cX1_ask 32 = .ok (.aload_n 0, 1) := by decide +kernel
theorem dX1_ask_33 : decode cX1_ask 33 = .ok (.getfield 18, 3) := by decide +kernel
theorem dX1_ask_36 : decode cX1_ask 36 = .ok (.aload_n 0, 1) := by decide +kernel
theorem dX1_ask_37 : decode cX1_ask 37 = .ok (.getfield 40, 3) := by decide +kernel
theorem dX1_ask_40 : decode cX1_ask 40 = .ok (.iload_n 3, 1) := by decide +kernel
theorem dX1_ask_41 : decode cX1_ask 41 = .ok (.iastore, 1) := by decide +kernel
theorem dX1_ask_42 : decode cX1_ask 42 = .ok (.aload_n 0, 1) := by decide +kernel
theorem dX1_ask_43 : decode cX1_ask 43 = .ok (.dup, 1) := by decide +kernel
theorem dX1_ask_44 : decode cX1_ask 44 = .ok (.getfield 40, 3) := by decide +kernel
theorem dX1_ask_47 : decode cX1_ask 47 = .ok (.iconst 1, 1) := by decide +kernel
theorem dX1_ask_48 : decode cX1_ask 48 = .ok (.iadd, 1) := by decide +kernel
theorem dX1_ask_49 : decode cX1_ask 49 = .ok (.putfield 40, 3) := by decide +kernel
theorem dX1_ask_52 : decode cX1_ask 52 = .ok (.aload_n 0, 1) := by decide +kernel
theorem dX1_ask_53 : decode cX1_ask 53 = .ok (.getfield 40, 3) := by decide +kernel
theorem dX1_ask_56 : decode cX1_ask 56 = .ok (.iconst 1, 1) := by decide +kernel
theorem dX1_ask_57 : decode cX1_ask 57 = .ok (.isub, 1) := by decide +kernel
theorem dX1_ask_58 : decode cX1_ask 58 = .ok (.ireturn, 1) := by decide +kernel
theorem dX1_setOf_0 : decode cX1_setOf 0 = .ok (.iconst 0, 1) := by decide +kernel
theorem dX1_setOf_1 : decode cX1_setOf 1 = .ok (.istore_n 2, 1) := by decide +kernel
theorem dX1_setOf_2 : decode cX1_setOf 2 = .ok (.iconst 0, 1) := by decide +kernel
theorem dX1_setOf_3 : decode cX1_setOf 3 = .ok (.istore_n 3, 1) := by decide +kernel
theorem dX1_setOf_4 : decode cX1_setOf 4 = .ok (.iload_n 3, 1) := by decide +kernel
theorem dX1_setOf_5 : decode cX1_setOf 5 = .ok (.aload_n 0, 1) := by decide +kernel
theorem dX1_setOf_6 : decode cX1_setOf 6 = .ok (.getfield 40, 3) := by decide +kernel
theorem dX1_setOf_9 : decode cX1_setOf 9 = .ok (.if_icmp .ge 25, 3) := by decide +kernel
theorem dX1_setOf_12 : decode cX1_setOf 12 = .ok (.aload_n 0, 1) := by decide +kernel
theorem dX1_setOf_13 : decode cX1_setOf 13 = .ok (.getfield 21, 3) := by decide +kernel
theorem dX1_setOf_16 : decode cX1_setOf 16 = .ok (.iload_n 3, 1) := by decide +kernel
theorem dX1_setOf_17 : decode cX1_setOf 17 = .ok (.iaload, 1) := by decide +kernel
theorem dX1_setOf_18 : decode cX1_setOf 18 = .ok (.iload_n 1, 1) := by decide +kernel
theorem dX1_setOf_19 : decode cX1_setOf 19 = .ok (.if_icmp .ne 9, 3) := by decide +kernel
theorem dX1_setOf_22 : decode cX1_setOf 22 = .ok (.iload_n 2, 1) := by decide +kernel
theorem dX1_setOf_23 : decode cX1_setOf 23 = .ok (.iconst 1, 1) := by decide +kernel
theorem dX1_setOf_24 : decode cX1_setOf 24 = .ok (.iload_n 3, 1) := by decide +kernel
theorem dX1_setOf_25 : decode cX1_setOf 25 = .ok (.ishl, 1) := by decide +kernel
theorem dX1_setOf_26 : decode cX1_setOf 26 = .ok (.ior, 1) := by decide +kernel
theorem dX1_setOf_27 : decode cX1_setOf 27 = .ok (.istore_n 2, 1) := by decide +kernel
theorem dX1_setOf_28 : decode cX1_setOf 28 = .ok (.iinc 3 1, 3) := by decide +kernel
theorem dX1_setOf_31 : decode cX1_setOf 31 = .ok (.goto (-27), 3) := by decide +kernel
theorem dX1_setOf_34 : decode cX1_setOf 34 = .ok (.iload_n 2, 1) := by decide +kernel
theorem dX1_setOf_35 : decode cX1_setOf 35 = .ok (.ireturn, 1) := by decide +kernel
theorem dX1_priceOf_0 : decode cX1_priceOf 0 = .ok (.iconst 0, 1) := by decide +kernel
theorem dX1_priceOf_1 : decode cX1_priceOf 1 = .ok (.istore_n 2, 1) := by decide +kernel
theorem dX1_priceOf_2 : decode cX1_priceOf 2 = .ok (.iconst 0, 1) := by decide +kernel
theorem dX1_priceOf_3 : decode cX1_priceOf 3 = .ok (.istore_n 3, 1) := by decide +kernel
theorem dX1_priceOf_4 : decode cX1_priceOf 4 = .ok (.iload_n 3, 1) := by decide +kernel
theorem dX1_priceOf_5 : decode cX1_priceOf 5 = .ok (.aload_n 0, 1) := by decide +kernel
theorem dX1_priceOf_6 : decode cX1_priceOf 6 = .ok (.getfield 40, 3) := by decide +kernel
theorem dX1_priceOf_9 : decode cX1_priceOf 9 = .ok (.if_icmp .ge 27, 3) := by decide +kernel
theorem dX1_priceOf_12 : decode cX1_priceOf 12 = .ok (.iload_n 1, 1) := by decide +kernel
theorem dX1_priceOf_13 : decode cX1_priceOf 13 = .ok (.iload_n 3, 1) := by decide +kernel
theorem dX1_priceOf_14 : decode cX1_priceOf 14 = .ok (.ishr, 1) := by decide +kernel
theorem dX1_priceOf_15 : decode cX1_priceOf 15 = .ok (.iconst 1, 1) := by decide +kernel
theorem dX1_priceOf_16 : decode cX1_priceOf 16 = .ok (.iand, 1) := by decide +kernel
theorem dX1_priceOf_17 : decode cX1_priceOf 17 = .ok (.iconst 1, 1) := by decide +kernel
theorem dX1_priceOf_18 : decode cX1_priceOf 18 = .ok (.if_icmp .ne 12, 3) := by decide +kernel
theorem dX1_priceOf_21 : decode cX1_priceOf 21 = .ok (.iload_n 2, 1) := by decide +kernel
theorem dX1_priceOf_22 : decode cX1_priceOf 22 = .ok (.aload_n 0, 1) := by decide +kernel
theorem dX1_priceOf_23 : decode cX1_priceOf 23 = .ok (.getfield 18, 3) := by decide +kernel
theorem dX1_priceOf_26 : decode cX1_priceOf 26 = .ok (.iload_n 3, 1) := by decide +kernel
theorem dX1_priceOf_27 : decode cX1_priceOf 27 = .ok (.iaload, 1) := by decide +kernel
theorem dX1_priceOf_28 : decode cX1_priceOf 28 = .ok (.iadd, 1) := by decide +kernel
theorem dX1_priceOf_29 : decode cX1_priceOf 29 = .ok (.istore_n 2, 1) := by decide +kernel
theorem dX1_priceOf_30 : decode cX1_priceOf 30 = .ok (.iinc 3 1, 3) := by decide +kernel
theorem dX1_priceOf_33 : decode cX1_priceOf 33 = .ok (.goto (-29), 3) := by decide +kernel
theorem dX1_priceOf_36 : decode cX1_priceOf 36 = .ok (.iload_n 2, 1) := by decide +kernel
theorem dX1_priceOf_37 : decode cX1_priceOf 37 = .ok (.ireturn, 1) := by decide +kernel
theorem dX1_worksOn_0 : decode cX1_worksOn 0 = .ok (.aload_n 0, 1) := by decide +kernel
theorem dX1_worksOn_1 : decode cX1_worksOn 1 = .ok (.getfield 21, 3) := by decide +kernel
theorem dX1_worksOn_4 : decode cX1_worksOn 4 = .ok (.iload_n 1, 1) := by decide +kernel
theorem dX1_worksOn_5 : decode cX1_worksOn 5 = .ok (.iaload, 1) := by decide +kernel
theorem dX1_worksOn_6 : decode cX1_worksOn 6 = .ok (.iconst 1, 1) := by decide +kernel
theorem dX1_worksOn_7 : decode cX1_worksOn 7 = .ok (.if_icmp .ne 27, 3) := by decide +kernel
theorem dX1_worksOn_10 : decode cX1_worksOn 10 = .ok (.aload_n 0, 1) := by decide +kernel
theorem dX1_worksOn_11 : decode cX1_worksOn 11 = .ok (.getfield 9, 3) := by decide +kernel
theorem dX1_worksOn_14 : decode cX1_worksOn 14 = .ok (.iload_n 1, 1) := by decide +kernel
theorem dX1_worksOn_15 : decode cX1_worksOn 15 = .ok (.iaload, 1) := by decide +kernel
theorem dX1_worksOn_16 : decode cX1_worksOn 16 = .ok (.iload_n 2, 1) := by decide +kernel
theorem dX1_worksOn_17 : decode cX1_worksOn 17 = .ok (.if_icmp .eq 13, 3) := by decide +kernel
theorem dX1_worksOn_20 : decode cX1_worksOn 20 = .ok (.aload_n 0, 1) := by decide +kernel
theorem dX1_worksOn_21 : decode cX1_worksOn 21 = .ok (.getfield 15, 3) := by decide +kernel
theorem dX1_worksOn_24 : decode cX1_worksOn 24 = .ok (.iload_n 1, 1) := by decide +kernel
theorem dX1_worksOn_25 : decode cX1_worksOn 25 = .ok (.iaload, 1) := by decide +kernel
theorem dX1_worksOn_26 : decode cX1_worksOn 26 = .ok (.iload_n 2, 1) := by decide +kernel
theorem dX1_worksOn_27 : decode cX1_worksOn 27 = .ok (.if_icmp .ne 7, 3) := by decide +kernel
theorem dX1_worksOn_30 : decode cX1_worksOn 30 = .ok (.iconst 1, 1) := by decide +kernel
theorem dX1_worksOn_31 : decode cX1_worksOn 31 = .ok (.goto 4, 3) := by decide +kernel
theorem dX1_worksOn_34 : decode cX1_worksOn 34 = .ok (.iconst 0, 1) := by decide +kernel
theorem dX1_worksOn_35 : decode cX1_worksOn 35 = .ok (.ireturn, 1) := by decide +kernel
theorem dX1_tell_0 : decode cX1_tell 0 = .ok (.iload_n 2, 1) := by decide +kernel
theorem dX1_tell_1 : decode cX1_tell 1 = .ok (.tableswitch 81 0 5 #[39, 46, 53, 60, 67, 74], 39) := by decide +kernel
theorem dX1_tell_40 : decode cX1_tell 40 = .ok (.aload_n 0, 1) := by decide +kernel
theorem dX1_tell_41 : decode cX1_tell 41 = .ok (.getfield 21, 3) := by decide +kernel
theorem dX1_tell_44 : decode cX1_tell 44 = .ok (.iload_n 1, 1) := by decide +kernel
theorem dX1_tell_45 : decode cX1_tell 45 = .ok (.iaload, 1) := by decide +kernel
theorem dX1_tell_46 : decode cX1_tell 46 = .ok (.ireturn, 1) := by decide +kernel
theorem dX1_tell_47 : decode cX1_tell 47 = .ok (.aload_n 0, 1) := by decide +kernel
theorem dX1_tell_48 : decode cX1_tell 48 = .ok (.getfield 9, 3) := by decide +kernel
theorem dX1_tell_51 : decode cX1_tell 51 = .ok (.iload_n 1, 1) := by decide +kernel
theorem dX1_tell_52 : decode cX1_tell 52 = .ok (.iaload, 1) := by decide +kernel
theorem dX1_tell_53 : decode cX1_tell 53 = .ok (.ireturn, 1) := by decide +kernel
theorem dX1_tell_54 : decode cX1_tell 54 = .ok (.aload_n 0, 1) := by decide +kernel
theorem dX1_tell_55 : decode cX1_tell 55 = .ok (.getfield 15, 3) := by decide +kernel
theorem dX1_tell_58 : decode cX1_tell 58 = .ok (.iload_n 1, 1) := by decide +kernel
theorem dX1_tell_59 : decode cX1_tell 59 = .ok (.iaload, 1) := by decide +kernel
theorem dX1_tell_60 : decode cX1_tell 60 = .ok (.ireturn, 1) := by decide +kernel
theorem dX1_tell_61 : decode cX1_tell 61 = .ok (.aload_n 0, 1) := by decide +kernel
theorem dX1_tell_62 : decode cX1_tell 62 = .ok (.getfield 18, 3) := by decide +kernel
theorem dX1_tell_65 : decode cX1_tell 65 = .ok (.iload_n 1, 1) := by decide +kernel
theorem dX1_tell_66 : decode cX1_tell 66 = .ok (.iaload, 1) := by decide +kernel
theorem dX1_tell_67 : decode cX1_tell 67 = .ok (.ireturn, 1) := by decide +kernel
theorem dX1_tell_68 : decode cX1_tell 68 = .ok (.aload_n 0, 1) := by decide +kernel
theorem dX1_tell_69 : decode cX1_tell 69 = .ok (.getfield 24, 3) := by decide +kernel
theorem dX1_tell_72 : decode cX1_tell 72 = .ok (.iload_n 1, 1) := by decide +kernel
theorem dX1_tell_73 : decode cX1_tell 73 = .ok (.iaload, 1) := by decide +kernel
theorem dX1_tell_74 : decode cX1_tell 74 = .ok (.ireturn, 1) := by decide +kernel
theorem dX1_tell_75 : decode cX1_tell 75 = .ok (.aload_n 0, 1) := by decide +kernel
theorem dX1_tell_76 : decode cX1_tell 76 = .ok (.getfield 27, 3) := by decide +kernel
theorem dX1_tell_79 : decode cX1_tell 79 = .ok (.iload_n 1, 1) := by decide +kernel
theorem dX1_tell_80 : decode cX1_tell 80 = .ok (.iaload, 1) := by decide +kernel
theorem dX1_tell_81 : decode cX1_tell 81 = .ok (.ireturn, 1) := by decide +kernel
theorem dX1_tell_82 : decode cX1_tell 82 = .ok (.aload_n 0, 1) := by decide +kernel
theorem dX1_tell_83 : decode cX1_tell 83 = .ok (.getfield 30, 3) := by decide +kernel
theorem dX1_tell_86 : decode cX1_tell 86 = .ok (.iload_n 1, 1) := by decide +kernel
theorem dX1_tell_87 : decode cX1_tell 87 = .ok (.iaload, 1) := by decide +kernel
theorem dX1_tell_88 : decode cX1_tell 88 = .ok (.ireturn, 1) := by decide +kernel
theorem dX2_init_0 : decode cX2_init 0 = .ok (.aload_n 0, 1) := by decide +kernel
theorem dX2_init_1 : decode cX2_init 1 = .ok (.invokespecial 3, 3) := by decide +kernel
theorem dX2_init_4 : decode cX2_init 4 = .ok (.aload_n 0, 1) := by decide +kernel
theorem dX2_init_5 : decode cX2_init 5 = .ok (.bipush 6, 2) := by decide +kernel
theorem dX2_init_7 : decode cX2_init 7 = .ok (.newarray .int, 2) := by decide +kernel
theorem dX2_init_9 : decode cX2_init 9 = .ok (.putfield 9, 3) := by decide +kernel
theorem dX2_init_12 : decode cX2_init 12 = .ok (.aload_n 0, 1) := by decide +kernel
theorem dX2_init_13 : decode cX2_init 13 = .ok (.bipush 6, 2) := by decide +kernel
theorem dX2_init_15 : decode cX2_init 15 = .ok (.newarray .int, 2) := by decide +kernel
theorem dX2_init_17 : decode cX2_init 17 = .ok (.putfield 15, 3) := by decide +kernel
theorem dX2_init_20 : decode cX2_init 20 = .ok (.aload_n 0, 1) := by decide +kernel
theorem dX2_init_21 : decode cX2_init 21 = .ok (.iconst 0, 1) := by decide +kernel
theorem dX2_init_22 : decode cX2_init 22 = .ok (.putfield 18, 3) := by decide +kernel
theorem dX2_init_25 : decode cX2_init 25 = .ok (.return_, 1) := by decide +kernel
theorem dX2_write_0 : decode cX2_write 0 = .ok (.aload_n 0, 1) := by decide +kernel
theorem dX2_write_1 : decode cX2_write 1 = .ok (.getfield 18, 3) := by decide +kernel
theorem dX2_write_4 : decode cX2_write 4 = .ok (.ifCond .le 36, 3) := by decide +kernel
theorem dX2_write_7 : decode cX2_write 7 = .ok (.iload_n 1, 1) := by decide +kernel
theorem dX2_write_8 : decode cX2_write 8 = .ok (.aload_n 0, 1) := by decide +kernel
theorem dX2_write_9 : decode cX2_write 9 = .ok (.getfield 9, 3) := by decide +kernel
theorem dX2_write_12 : decode cX2_write 12 = .ok (.aload_n 0, 1) := by decide +kernel
theorem dX2_write_13 : decode cX2_write 13 = .ok (.getfield 18, 3) := by decide +kernel
theorem dX2_write_16 : decode cX2_write 16 = .ok (.iconst 1, 1) := by decide +kernel
theorem dX2_write_17 : decode cX2_write 17 = .ok (.isub, 1) := by decide +kernel
theorem dX2_write_18 : decode cX2_write 18 = .ok (.iaload, 1) := by decide +kernel
theorem dX2_write_19 : decode cX2_write 19 = .ok (.if_icmp .le 18, 3) := by decide +kernel
theorem dX2_write_22 : decode cX2_write 22 = .ok (.iload_n 2, 1) := by decide +kernel
theorem dX2_write_23 : decode cX2_write 23 = .ok (.aload_n 0, 1) := by decide +kernel
theorem dX2_write_24 : decode cX2_write 24 = .ok (.getfield 15, 3) := by decide +kernel
theorem dX2_write_27 : decode cX2_write 27 = .ok (.aload_n 0, 1) := by decide +kernel
theorem dX2_write_28 : decode cX2_write 28 = .ok (.getfield 18, 3) := by decide +kernel
theorem dX2_write_31 : decode cX2_write 31 = .ok (.iconst 1, 1) := by decide +kernel
theorem dX2_write_32 : decode cX2_write 32 = .ok (.isub, 1) := by decide +kernel
theorem dX2_write_33 : decode cX2_write 33 = .ok (.iaload, 1) := by decide +kernel
theorem dX2_write_34 : decode cX2_write 34 = .ok (.if_icmp .gt 6, 3) := by decide +kernel
theorem dX2_write_37 : decode cX2_write 37 = .ok (.bipush (-3), 2) := by decide +kernel
theorem dX2_write_39 : decode cX2_write 39 = .ok (.ireturn, 1) := by decide +kernel
theorem dX2_write_40 : decode cX2_write 40 = .ok (.aload_n 0, 1) := by decide +kernel
theorem dX2_write_41 : decode cX2_write 41 = .ok (.getfield 18, 3) := by decide +kernel
theorem dX2_write_44 : decode cX2_write 44 = .ok (.bipush 6, 2) := by decide +kernel
theorem dX2_write_46 : decode cX2_write 46 = .ok (.if_icmp .lt 6, 3) := by decide +kernel
theorem dX2_write_49 : decode cX2_write 49 = .ok (.bipush (-4), 2) := by decide +kernel
theorem dX2_write_51 : decode cX2_write 51 = .ok (.ireturn, 1) := by decide +kernel
theorem dX2_write_52 : decode cX2_write 52 = .ok (.aload_n 0, 1) := by decide +kernel
theorem dX2_write_53 : decode cX2_write 53 = .ok (.getfield 9, 3) := by decide +kernel
theorem dX2_write_56 : decode cX2_write 56 = .ok (.aload_n 0, 1) := by decide +kernel
theorem dX2_write_57 : decode cX2_write 57 = .ok (.getfield 18, 3) := by decide +kernel
theorem dX2_write_60 : decode cX2_write 60 = .ok (.iload_n 1, 1) := by decide +kernel
theorem dX2_write_61 : decode cX2_write 61 = .ok (.iastore, 1) := by decide +kernel
theorem dX2_write_62 : decode cX2_write 62 = .ok (.aload_n 0, 1) := by decide +kernel
theorem dX2_write_63 : decode cX2_write 63 = .ok (.getfield 15, 3) := by decide +kernel
theorem dX2_write_66 : decode cX2_write 66 = .ok (.aload_n 0, 1) := by decide +kernel
theorem dX2_write_67 : decode cX2_write 67 = .ok (.getfield 18, 3) := by decide +kernel
theorem dX2_write_70 : decode cX2_write 70 = .ok (.iload_n 2, 1) := by decide +kernel
theorem dX2_write_71 : decode cX2_write 71 = .ok (.iastore, 1) := by decide +kernel
theorem dX2_write_72 : decode cX2_write 72 = .ok (.aload_n 0, 1) := by decide +kernel
theorem dX2_write_73 : decode cX2_write 73 = .ok (.dup, 1) := by decide +kernel
theorem dX2_write_74 : decode cX2_write 74 = .ok (.getfield 18, 3) := by decide +kernel
theorem dX2_write_77 : decode cX2_write 77 = .ok (.iconst 1, 1) := by decide +kernel
theorem dX2_write_78 : decode cX2_write 78 = .ok (.iadd, 1) := by decide +kernel
theorem dX2_write_79 : decode cX2_write 79 = .ok (.putfield 18, 3) := by decide +kernel
theorem dX2_write_82 : decode cX2_write 82 = .ok (.aload_n 0, 1) := by decide +kernel
theorem dX2_write_83 : decode cX2_write 83 = .ok (.getfield 18, 3) := by decide +kernel
theorem dX2_write_86 : decode cX2_write 86 = .ok (.ireturn, 1) := by decide +kernel
theorem dX2_doorsFor_0 : decode cX2_doorsFor 0 = .ok (.iconst 1, 1) := by decide +kernel
theorem dX2_doorsFor_1 : decode cX2_doorsFor 1 = .ok (.istore_n 2, 1) := by decide +kernel
theorem dX2_doorsFor_2 : decode cX2_doorsFor 2 = .ok (.iconst 0, 1) := by decide +kernel
theorem dX2_doorsFor_3 : decode cX2_doorsFor 3 = .ok (.istore_n 3, 1) := by decide +kernel
theorem dX2_doorsFor_4 : decode cX2_doorsFor 4 = .ok (.iload_n 3, 1) := by decide +kernel
theorem dX2_doorsFor_5 : decode cX2_doorsFor 5 = .ok (.aload_n 0, 1) := by decide +kernel
theorem dX2_doorsFor_6 : decode cX2_doorsFor 6 = .ok (.getfield 18, 3) := by decide +kernel
theorem dX2_doorsFor_9 : decode cX2_doorsFor 9 = .ok (.if_icmp .ge 26, 3) := by decide +kernel
theorem dX2_doorsFor_12 : decode cX2_doorsFor 12 = .ok (.iload_n 1, 1) := by decide +kernel
theorem dX2_doorsFor_13 : decode cX2_doorsFor 13 = .ok (.aload_n 0, 1) := by decide +kernel
theorem dX2_doorsFor_14 : decode cX2_doorsFor 14 = .ok (.getfield 9, 3) := by decide +kernel
theorem dX2_doorsFor_17 : decode cX2_doorsFor 17 = .ok (.iload_n 3, 1) := by decide +kernel
theorem dX2_doorsFor_18 : decode cX2_doorsFor 18 = .ok (.iaload, 1) := by decide +kernel
theorem dX2_doorsFor_19 : decode cX2_doorsFor 19 = .ok (.if_icmp .lt 10, 3) := by decide +kernel
theorem dX2_doorsFor_22 : decode cX2_doorsFor 22 = .ok (.aload_n 0, 1) := by decide +kernel
theorem dX2_doorsFor_23 : decode cX2_doorsFor 23 = .ok (.getfield 15, 3) := by decide +kernel
theorem dX2_doorsFor_26 : decode cX2_doorsFor 26 = .ok (.iload_n 3, 1) := by decide +kernel
theorem dX2_doorsFor_27 : decode cX2_doorsFor 27 = .ok (.iaload, 1) := by decide +kernel
theorem dX2_doorsFor_28 : decode cX2_doorsFor 28 = .ok (.istore_n 2, 1) := by decide +kernel
theorem dX2_doorsFor_29 : decode cX2_doorsFor 29 = .ok (.iinc 3 1, 3) := by decide +kernel
theorem dX2_doorsFor_32 : decode cX2_doorsFor 32 = .ok (.goto (-28), 3) := by decide +kernel
theorem dX2_doorsFor_35 : decode cX2_doorsFor 35 = .ok (.iload_n 2, 1) := by decide +kernel
theorem dX2_doorsFor_36 : decode cX2_doorsFor 36 = .ok (.ireturn, 1) := by decide +kernel
theorem dX3_init_0 : decode cX3_init 0 = .ok (.aload_n 0, 1) := by decide +kernel
theorem dX3_init_1 : decode cX3_init 1 = .ok (.invokespecial 3, 3) := by decide +kernel
theorem dX3_init_4 : decode cX3_init 4 = .ok (.aload_n 0, 1) := by decide +kernel
theorem dX3_init_5 : decode cX3_init 5 = .ok (.sipush 396, 3) := by decide +kernel
theorem dX3_init_8 : decode cX3_init 8 = .ok (.newarray .int, 2) := by decide +kernel
theorem dX3_init_10 : decode cX3_init 10 = .ok (.putfield 9, 3) := by decide +kernel
theorem dX3_init_13 : decode cX3_init 13 = .ok (.aload_n 0, 1) := by decide +kernel
theorem dX3_init_14 : decode cX3_init 14 = .ok (.iconst 0, 1) := by decide +kernel
theorem dX3_init_15 : decode cX3_init 15 = .ok (.putfield 15, 3) := by decide +kernel
theorem dX3_init_18 : decode cX3_init 18 = .ok (.aload_n 0, 1) := by decide +kernel
theorem dX3_init_19 : decode cX3_init 19 = .ok (.iconst 0, 1) := by decide +kernel
theorem dX3_init_20 : decode cX3_init 20 = .ok (.putfield 19, 3) := by decide +kernel
theorem dX3_init_23 : decode cX3_init 23 = .ok (.aload_n 0, 1) := by decide +kernel
theorem dX3_init_24 : decode cX3_init 24 = .ok (.lconst 0, 1) := by decide +kernel
theorem dX3_init_25 : decode cX3_init 25 = .ok (.putfield 22, 3) := by decide +kernel
theorem dX3_init_28 : decode cX3_init 28 = .ok (.return_, 1) := by decide +kernel
theorem dX3_clear_0 : decode cX3_clear 0 = .ok (.aload_n 0, 1) := by decide +kernel
theorem dX3_clear_1 : decode cX3_clear 1 = .ok (.getfield 9, 3) := by decide +kernel
theorem dX3_clear_4 : decode cX3_clear 4 = .ok (.iconst 0, 1) := by decide +kernel
theorem dX3_clear_5 : decode cX3_clear 5 = .ok (.invokestatic 26, 3) := by decide +kernel
theorem dX3_clear_8 : decode cX3_clear 8 = .ok (.aload_n 0, 1) := by decide +kernel
theorem dX3_clear_9 : decode cX3_clear 9 = .ok (.iconst 0, 1) := by decide +kernel
theorem dX3_clear_10 : decode cX3_clear 10 = .ok (.putfield 15, 3) := by decide +kernel
theorem dX3_clear_13 : decode cX3_clear 13 = .ok (.aload_n 0, 1) := by decide +kernel
theorem dX3_clear_14 : decode cX3_clear 14 = .ok (.iconst 0, 1) := by decide +kernel
theorem dX3_clear_15 : decode cX3_clear 15 = .ok (.putfield 19, 3) := by decide +kernel
theorem dX3_clear_18 : decode cX3_clear 18 = .ok (.aload_n 0, 1) := by decide +kernel
theorem dX3_clear_19 : decode cX3_clear 19 = .ok (.lconst 0, 1) := by decide +kernel
theorem dX3_clear_20 : decode cX3_clear 20 = .ok (.putfield 22, 3) := by decide +kernel
theorem dX3_clear_23 : decode cX3_clear 23 = .ok (.return_, 1) := by decide +kernel
theorem dX3_enter_0 : decode cX3_enter 0 = .ok (.iload_n 1, 1) := by decide +kernel
theorem dX3_enter_1 : decode cX3_enter 1 = .ok (.invokestatic 32, 3) := by decide +kernel
theorem dX3_enter_4 : decode cX3_enter 4 = .ok (.ifCond .eq 13, 3) := by decide +kernel
theorem dX3_enter_7 : decode cX3_enter 7 = .ok (.iload_n 2, 1) := by decide +kernel
theorem dX3_enter_8 : decode cX3_enter 8 = .ok (.ifCond .lt 9, 3) := by decide +kernel
theorem dX3_enter_11 : decode cX3_enter 11 = .ok (.iload_n 3, 1) := by decide +kernel
theorem dX3_enter_12 : decode cX3_enter 12 = .ok (.bipush 66, 2) := by decide +kernel
theorem dX3_enter_14 : decode cX3_enter 14 = .ok (.if_icmp .lt 4, 3) := by decide +kernel
theorem dX3_enter_17 : decode cX3_enter 17 = .ok (.return_, 1) := by decide +kernel
theorem dX3_enter_18 : decode cX3_enter 18 = .ok (.iload_n 1, 1) := by decide +kernel
theorem dX3_enter_19 : decode cX3_enter 19 = .ok (.bipush 66, 2) := by decide +kernel
theorem dX3_enter_21 : decode cX3_enter 21 = .ok (.imul, 1) := by decide +kernel
theorem dX3_enter_22 : decode cX3_enter 22 = .ok (.istore 7, 2) := by decide +kernel
theorem dX3_enter_24 : decode cX3_enter 24 = .ok (.iload_n 2, 1) := by decide +kernel
theorem dX3_enter_25 : decode cX3_enter 25 = .ok (.istore 8, 2) := by decide +kernel
theorem dX3_enter_27 : decode cX3_enter 27 = .ok (.iload 8, 2) := by decide +kernel
theorem dX3_enter_29 : decode cX3_enter 29 = .ok (.iload_n 3, 1) := by decide +kernel
theorem dX3_enter_30 : decode cX3_enter 30 = .ok (.if_icmp .gt 122, 3) := by decide +kernel
theorem dX3_enter_33 : decode cX3_enter 33 = .ok (.aload_n 0, 1) := by decide +kernel
theorem dX3_enter_34 : decode cX3_enter 34 = .ok (.getfield 9, 3) := by decide +kernel
theorem dX3_enter_37 : decode cX3_enter 37 = .ok (.iload 7, 2) := by decide +kernel
theorem dX3_enter_39 : decode cX3_enter 39 = .ok (.iload 8, 2) := by decide +kernel
theorem dX3_enter_41 : decode cX3_enter 41 = .ok (.iadd, 1) := by decide +kernel
theorem dX3_enter_42 : decode cX3_enter 42 = .ok (.iaload, 1) := by decide +kernel
theorem dX3_enter_43 : decode cX3_enter 43 = .ok (.iload 5, 2) := by decide +kernel
theorem dX3_enter_45 : decode cX3_enter 45 = .ok (.isub, 1) := by decide +kernel
theorem dX3_enter_46 : decode cX3_enter 46 = .ok (.istore 9, 2) := by decide +kernel
theorem dX3_enter_48 : decode cX3_enter 48 = .ok (.iload 9, 2) := by decide +kernel
theorem dX3_enter_50 : decode cX3_enter 50 = .ok (.iload 4, 2) := by decide +kernel
theorem dX3_enter_52 : decode cX3_enter 52 = .ok (.iadd, 1) := by decide +kernel
theorem dX3_enter_53 : decode cX3_enter 53 = .ok (.istore 10, 2) := by decide +kernel
theorem dX3_enter_55 : decode cX3_enter 55 = .ok (.aload_n 0, 1) := by decide +kernel
theorem dX3_enter_56 : decode cX3_enter 56 = .ok (.getfield 9, 3) := by decide +kernel
theorem dX3_enter_59 : decode cX3_enter 59 = .ok (.iload 7, 2) := by decide +kernel
theorem dX3_enter_61 : decode cX3_enter 61 = .ok (.iload 8, 2) := by decide +kernel
theorem dX3_enter_63 : decode cX3_enter 63 = .ok (.iadd, 1) := by decide +kernel
theorem dX3_enter_64 : decode cX3_enter 64 = .ok (.dup2, 1) := by decide +kernel
theorem dX3_enter_65 : decode cX3_enter 65 = .ok (.iaload, 1) := by decide +kernel
theorem dX3_enter_66 : decode cX3_enter 66 = .ok (.iload 4, 2) := by decide +kernel
theorem dX3_enter_68 : decode cX3_enter 68 = .ok (.iadd, 1) := by decide +kernel
theorem dX3_enter_69 : decode cX3_enter 69 = .ok (.iastore, 1) := by decide +kernel
theorem dX3_enter_70 : decode cX3_enter 70 = .ok (.iload 9, 2) := by decide +kernel
theorem dX3_enter_72 : decode cX3_enter 72 = .ok (.ifCond .gt 11, 3) := by decide +kernel
theorem dX3_enter_75 : decode cX3_enter 75 = .ok (.iload 10, 2) := by decide +kernel
theorem dX3_enter_77 : decode cX3_enter 77 = .ok (.ifCond .gt 6, 3) := by decide +kernel
theorem dX3_enter_80 : decode cX3_enter 80 = .ok (.goto 66, 3) := by decide +kernel
theorem dX3_enter_83 : decode cX3_enter 83 = .ok (.aload_n 0, 1) := by decide +kernel
theorem dX3_enter_84 : decode cX3_enter 84 = .ok (.dup, 1) := by decide +kernel
theorem dX3_enter_85 : decode cX3_enter 85 = .ok (.getfield 22, 3) := by decide +kernel
theorem dX3_enter_88 : decode cX3_enter 88 = .ok (.iload 6, 2) := by decide +kernel
theorem dX3_enter_90 : decode cX3_enter 90 = .ok (.i2l, 1) := by decide +kernel
theorem dX3_enter_91 : decode cX3_enter 91 = .ok (.iconst 0, 1) := by decide +kernel
theorem dX3_enter_92 : decode cX3_enter 92 = .ok (.iload 10, 2) := by decide +kernel
theorem dX3_enter_94 : decode cX3_enter 94 = .ok (.invokestatic 36, 3) := by decide +kernel
theorem dX3_enter_97 : decode cX3_enter 97 = .ok (.iconst 0, 1) := by decide +kernel
theorem dX3_enter_98 : decode cX3_enter 98 = .ok (.iload 9, 2) := by decide +kernel
theorem dX3_enter_100 : decode cX3_enter 100 = .ok (.invokestatic 36, 3) := by decide +kernel
theorem dX3_enter_103 : decode cX3_enter 103 = .ok (.isub, 1) := by decide +kernel
theorem dX3_enter_104 : decode cX3_enter 104 = .ok (.i2l, 1) := by decide +kernel
theorem dX3_enter_105 : decode cX3_enter 105 = .ok (.lmul, 1) := by decide +kernel
theorem dX3_enter_106 : decode cX3_enter 106 = .ok (.ladd, 1) := by decide +kernel
theorem dX3_enter_107 : decode cX3_enter 107 = .ok (.putfield 22, 3) := by decide +kernel
theorem dX3_enter_110 : decode cX3_enter 110 = .ok (.aload_n 0, 1) := by decide +kernel
theorem dX3_enter_111 : decode cX3_enter 111 = .ok (.dup, 1) := by decide +kernel
theorem dX3_enter_112 : decode cX3_enter 112 = .ok (.getfield 19, 3) := by decide +kernel
theorem dX3_enter_115 : decode cX3_enter 115 = .ok (.iload 10, 2) := by decide +kernel
theorem dX3_enter_117 : decode cX3_enter 117 = .ok (.ifCond .le 7, 3) := by decide +kernel
theorem dX3_enter_120 : decode cX3_enter 120 = .ok (.iconst 1, 1) := by decide +kernel
theorem dX3_enter_121 : decode cX3_enter 121 = .ok (.goto 4, 3) := by decide +kernel
theorem dX3_enter_124 : decode cX3_enter 124 = .ok (.iconst 0, 1) := by decide +kernel
theorem dX3_enter_125 : decode cX3_enter 125 = .ok (.invokestatic 42, 3) := by decide +kernel
theorem dX3_enter_128 : decode cX3_enter 128 = .ok (.iload 9, 2) := by decide +kernel
theorem dX3_enter_130 : decode cX3_enter 130 = .ok (.ifCond .le 7, 3) := by decide +kernel
theorem dX3_enter_133 : decode cX3_enter 133 = .ok (.iconst 1, 1) := by decide +kernel
theorem dX3_enter_134 : decode cX3_enter 134 = .ok (.goto 4, 3) := by decide +kernel
theorem dX3_enter_137 : decode cX3_enter 137 = .ok (.iconst 0, 1) := by decide +kernel
theorem dX3_enter_138 : decode cX3_enter 138 = .ok (.invokestatic 42, 3) := by decide +kernel
theorem dX3_enter_141 : decode cX3_enter 141 = .ok (.isub, 1) := by decide +kernel
theorem dX3_enter_142 : decode cX3_enter 142 = .ok (.iadd, 1) := by decide +kernel
theorem dX3_enter_143 : decode cX3_enter 143 = .ok (.putfield 19, 3) := by decide +kernel
theorem dX3_enter_146 : decode cX3_enter 146 = .ok (.iinc 8 1, 3) := by decide +kernel
theorem dX3_enter_149 : decode cX3_enter 149 = .ok (.goto (-122), 3) := by decide +kernel
theorem dX3_enter_152 : decode cX3_enter 152 = .ok (.return_, 1) := by decide +kernel
theorem dX4_init_0 : decode cX4_init 0 = .ok (.aload_n 0, 1) := by decide +kernel
theorem dX4_init_1 : decode cX4_init 1 = .ok (.invokespecial 3, 3) := by decide +kernel
theorem dX4_init_4 : decode cX4_init 4 = .ok (.aload_n 0, 1) := by decide +kernel
theorem dX4_init_5 : decode cX4_init 5 = .ok (.bipush 61, 2) := by decide +kernel
theorem dX4_init_7 : decode cX4_init 7 = .ok (.newarray .boolean, 2) := by decide +kernel
theorem dX4_init_9 : decode cX4_init 9 = .ok (.putfield 9, 3) := by decide +kernel
theorem dX4_init_12 : decode cX4_init 12 = .ok (.aload_n 0, 1) := by decide +kernel
theorem dX4_init_13 : decode cX4_init 13 = .ok (.iconst 0, 1) := by decide +kernel
theorem dX4_init_14 : decode cX4_init 14 = .ok (.putfield 15, 3) := by decide +kernel
theorem dX4_init_17 : decode cX4_init 17 = .ok (.return_, 1) := by decide +kernel
theorem dX4_on_0 : decode cX4_on 0 = .ok (.iload_n 1, 1) := by decide +kernel
theorem dX4_on_1 : decode cX4_on 1 = .ok (.ifCond .lt 22, 3) := by decide +kernel
theorem dX4_on_4 : decode cX4_on 4 = .ok (.iload_n 1, 1) := by decide +kernel
theorem dX4_on_5 : decode cX4_on 5 = .ok (.bipush 60, 2) := by decide +kernel
theorem dX4_on_7 : decode cX4_on 7 = .ok (.if_icmp .gt 16, 3) := by decide +kernel
theorem dX4_on_10 : decode cX4_on 10 = .ok (.aload_n 0, 1) := by decide +kernel
theorem dX4_on_11 : decode cX4_on 11 = .ok (.getfield 9, 3) := by decide +kernel
theorem dX4_on_14 : decode cX4_on 14 = .ok (.iload_n 1, 1) := by decide +kernel
theorem dX4_on_15 : decode cX4_on 15 = .ok (.baload, 1) := by decide +kernel
theorem dX4_on_16 : decode cX4_on 16 = .ok (.ifCond .eq 7, 3) := by decide +kernel
theorem dX4_on_19 : decode cX4_on 19 = .ok (.iconst 1, 1) := by decide +kernel
theorem dX4_on_20 : decode cX4_on 20 = .ok (.goto 4, 3) := by decide +kernel
theorem dX4_on_23 : decode cX4_on 23 = .ok (.iconst 0, 1) := by decide +kernel
theorem dX4_on_24 : decode cX4_on 24 = .ok (.ireturn, 1) := by decide +kernel
theorem dX4_tell_0 : decode cX4_tell 0 = .ok (.iload_n 1, 1) := by decide +kernel
theorem dX4_tell_1 : decode cX4_tell 1 = .ok (.ifCond .lt 19, 3) := by decide +kernel
theorem dX4_tell_4 : decode cX4_tell 4 = .ok (.iload_n 1, 1) := by decide +kernel
theorem dX4_tell_5 : decode cX4_tell 5 = .ok (.bipush 60, 2) := by decide +kernel
theorem dX4_tell_7 : decode cX4_tell 7 = .ok (.if_icmp .gt 13, 3) := by decide +kernel
theorem dX4_tell_10 : decode cX4_tell 10 = .ok (.aload_n 0, 1) := by decide +kernel
theorem dX4_tell_11 : decode cX4_tell 11 = .ok (.getfield 9, 3) := by decide +kernel
theorem dX4_tell_14 : decode cX4_tell 14 = .ok (.iload_n 1, 1) := by decide +kernel
theorem dX4_tell_15 : decode cX4_tell 15 = .ok (.baload, 1) := by decide +kernel
theorem dX4_tell_16 : decode cX4_tell 16 = .ok (.iload_n 2, 1) := by decide +kernel
theorem dX4_tell_17 : decode cX4_tell 17 = .ok (.if_icmp .ne 4, 3) := by decide +kernel
theorem dX4_tell_20 : decode cX4_tell 20 = .ok (.return_, 1) := by decide +kernel
theorem dX4_tell_21 : decode cX4_tell 21 = .ok (.aload_n 0, 1) := by decide +kernel
theorem dX4_tell_22 : decode cX4_tell 22 = .ok (.getfield 9, 3) := by decide +kernel
theorem dX4_tell_25 : decode cX4_tell 25 = .ok (.iload_n 1, 1) := by decide +kernel
theorem dX4_tell_26 : decode cX4_tell 26 = .ok (.iload_n 2, 1) := by decide +kernel
theorem dX4_tell_27 : decode cX4_tell 27 = .ok (.bastore, 1) := by decide +kernel
theorem dX4_tell_28 : decode cX4_tell 28 = .ok (.aload_n 0, 1) := by decide +kernel
theorem dX4_tell_29 : decode cX4_tell 29 = .ok (.dup, 1) := by decide +kernel
theorem dX4_tell_30 : decode cX4_tell 30 = .ok (.getfield 15, 3) := by decide +kernel
theorem dX4_tell_33 : decode cX4_tell 33 = .ok (.iload_n 2, 1) := by decide +kernel
theorem dX4_tell_34 : decode cX4_tell 34 = .ok (.ifCond .eq 7, 3) := by decide +kernel
theorem dX4_tell_37 : decode cX4_tell 37 = .ok (.iconst 1, 1) := by decide +kernel
theorem dX4_tell_38 : decode cX4_tell 38 = .ok (.goto 4, 3) := by decide +kernel
theorem dX4_tell_41 : decode cX4_tell 41 = .ok (.iconst (-1), 1) := by decide +kernel
theorem dX4_tell_42 : decode cX4_tell 42 = .ok (.iadd, 1) := by decide +kernel
theorem dX4_tell_43 : decode cX4_tell 43 = .ok (.putfield 15, 3) := by decide +kernel
theorem dX4_tell_46 : decode cX4_tell 46 = .ok (.return_, 1) := by decide +kernel
theorem dX5_init_0 : decode cX5_init 0 = .ok (.aload_n 0, 1) := by decide +kernel
theorem dX5_init_1 : decode cX5_init 1 = .ok (.invokespecial 3, 3) := by decide +kernel
theorem dX5_init_4 : decode cX5_init 4 = .ok (.aload_n 0, 1) := by decide +kernel
theorem dX5_init_5 : decode cX5_init 5 = .ok (.bipush 6, 2) := by decide +kernel
theorem dX5_init_7 : decode cX5_init 7 = .ok (.newarray .int, 2) := by decide +kernel
theorem dX5_init_9 : decode cX5_init 9 = .ok (.putfield 9, 3) := by decide +kernel
theorem dX5_init_12 : decode cX5_init 12 = .ok (.aload_n 0, 1) := by decide +kernel
theorem dX5_init_13 : decode cX5_init 13 = .ok (.bipush 6, 2) := by decide +kernel
theorem dX5_init_15 : decode cX5_init 15 = .ok (.newarray .int, 2) := by decide +kernel
theorem dX5_init_17 : decode cX5_init 17 = .ok (.putfield 15, 3) := by decide +kernel
theorem dX5_init_20 : decode cX5_init 20 = .ok (.aload_n 0, 1) := by decide +kernel
theorem dX5_init_21 : decode cX5_init 21 = .ok (.bipush 6, 2) := by decide +kernel
theorem dX5_init_23 : decode cX5_init 23 = .ok (.newarray .int, 2) := by decide +kernel
theorem dX5_init_25 : decode cX5_init 25 = .ok (.putfield 18, 3) := by decide +kernel
theorem dX5_init_28 : decode cX5_init 28 = .ok (.aload_n 0, 1) := by decide +kernel
theorem dX5_init_29 : decode cX5_init 29 = .ok (.bipush 6, 2) := by decide +kernel
theorem dX5_init_31 : decode cX5_init 31 = .ok (.newarray .int, 2) := by decide +kernel
theorem dX5_init_33 : decode cX5_init 33 = .ok (.putfield 21, 3) := by decide +kernel
theorem dX5_init_36 : decode cX5_init 36 = .ok (.aload_n 0, 1) := by decide +kernel
theorem dX5_init_37 : decode cX5_init 37 = .ok (.bipush 6, 2) := by decide +kernel
theorem dX5_init_39 : decode cX5_init 39 = .ok (.newarray .int, 2) := by decide +kernel
theorem dX5_init_41 : decode cX5_init 41 = .ok (.putfield 24, 3) := by decide +kernel
theorem dX5_init_44 : decode cX5_init 44 = .ok (.aload_n 0, 1) := by decide +kernel
theorem dX5_init_45 : decode cX5_init 45 = .ok (.bipush 6, 2) := by decide +kernel
theorem dX5_init_47 : decode cX5_init 47 = .ok (.newarray .int, 2) := by decide +kernel
theorem dX5_init_49 : decode cX5_init 49 = .ok (.putfield 27, 3) := by decide +kernel
theorem dX5_init_52 : decode cX5_init 52 = .ok (.aload_n 0, 1) := by decide +kernel
theorem dX5_init_53 : decode cX5_init 53 = .ok (.getfield 18, 3) := by decide +kernel
theorem dX5_init_56 : decode cX5_init 56 = .ok (.iconst 1, 1) := by decide +kernel
theorem dX5_init_57 : decode cX5_init 57 = .ok (.invokestatic 30, 3) := by decide +kernel
theorem dX5_init_60 : decode cX5_init 60 = .ok (.return_, 1) := by decide +kernel
theorem dX5_have_0 : decode cX5_have 0 = .ok (.iconst 0, 1) := by decide +kernel
theorem dX5_have_1 : decode cX5_have 1 = .ok (.aload_n 0, 1) := by decide +kernel
theorem dX5_have_2 : decode cX5_have 2 = .ok (.getfield 9, 3) := by decide +kernel
theorem dX5_have_5 : decode cX5_have 5 = .ok (.iload_n 1, 1) := by decide +kernel
theorem dX5_have_6 : decode cX5_have 6 = .ok (.iaload, 1) := by decide +kernel
theorem dX5_have_7 : decode cX5_have 7 = .ok (.aload_n 0, 1) := by decide +kernel
theorem dX5_have_8 : decode cX5_have 8 = .ok (.getfield 27, 3) := by decide +kernel
theorem dX5_have_11 : decode cX5_have 11 = .ok (.iload_n 1, 1) := by decide +kernel
theorem dX5_have_12 : decode cX5_have 12 = .ok (.iaload, 1) := by decide +kernel
theorem dX5_have_13 : decode cX5_have 13 = .ok (.isub, 1) := by decide +kernel
theorem dX5_have_14 : decode cX5_have 14 = .ok (.invokestatic 36, 3) := by decide +kernel
theorem dX5_have_17 : decode cX5_have 17 = .ok (.ireturn, 1) := by decide +kernel
theorem dX5_allGone_0 : decode cX5_allGone 0 = .ok (.iconst 0, 1) := by decide +kernel
theorem dX5_allGone_1 : decode cX5_allGone 1 = .ok (.istore_n 1, 1) := by decide +kernel
theorem dX5_allGone_2 : decode cX5_allGone 2 = .ok (.iconst 0, 1) := by decide +kernel
theorem dX5_allGone_3 : decode cX5_allGone 3 = .ok (.istore_n 2, 1) := by decide +kernel
theorem dX5_allGone_4 : decode cX5_allGone 4 = .ok (.iload_n 2, 1) := by decide +kernel
theorem dX5_allGone_5 : decode cX5_allGone 5 = .ok (.bipush 6, 2) := by decide +kernel
theorem dX5_allGone_7 : decode cX5_allGone 7 = .ok (.if_icmp .ge 18, 3) := by decide +kernel
theorem dX5_allGone_10 : decode cX5_allGone 10 = .ok (.iload_n 1, 1) := by decide +kernel
theorem dX5_allGone_11 : decode cX5_allGone 11 = .ok (.aload_n 0, 1) := by decide +kernel
theorem dX5_allGone_12 : decode cX5_allGone 12 = .ok (.getfield 27, 3) := by decide +kernel
theorem dX5_allGone_15 : decode cX5_allGone 15 = .ok (.iload_n 2, 1) := by decide +kernel
theorem dX5_allGone_16 : decode cX5_allGone 16 = .ok (.iaload, 1) := by decide +kernel
theorem dX5_allGone_17 : decode cX5_allGone 17 = .ok (.iadd, 1) := by decide +kernel
theorem dX5_allGone_18 : decode cX5_allGone 18 = .ok (.istore_n 1, 1) := by decide +kernel
theorem dX5_allGone_19 : decode cX5_allGone 19 = .ok (.iinc 2 1, 3) := by decide +kernel
theorem dX5_allGone_22 : decode cX5_allGone 22 = .ok (.goto (-18), 3) := by decide +kernel
theorem dX5_allGone_25 : decode cX5_allGone 25 = .ok (.iload_n 1, 1) := by decide +kernel
theorem dX5_allGone_26 : decode cX5_allGone 26 = .ok (.ireturn, 1) := by decide +kernel
theorem dX6_init_0 : decode cX6_init 0 = .ok (.aload_n 0, 1) := by decide +kernel
theorem dX6_init_1 : decode cX6_init 1 = .ok (.invokespecial 3, 3) := by decide +kernel
theorem dX6_init_4 : decode cX6_init 4 = .ok (.aload_n 0, 1) := by decide +kernel
theorem dX6_init_5 : decode cX6_init 5 = .ok (.new 9, 3) := by decide +kernel
theorem dX6_init_8 : decode cX6_init 8 = .ok (.dup, 1) := by decide +kernel
theorem dX6_init_9 : decode cX6_init 9 = .ok (.invokespecial 11, 3) := by decide +kernel
theorem dX6_init_12 : decode cX6_init 12 = .ok (.putfield 12, 3) := by decide +kernel
theorem dX6_init_15 : decode cX6_init 15 = .ok (.aload_n 0, 1) := by decide +kernel
theorem dX6_init_16 : decode cX6_init 16 = .ok (.new 16, 3) := by decide +kernel
theorem dX6_init_19 : decode cX6_init 19 = .ok (.dup, 1) := by decide +kernel
theorem dX6_init_20 : decode cX6_init 20 = .ok (.invokespecial 18, 3) := by decide +kernel
theorem dX6_init_23 : decode cX6_init 23 = .ok (.putfield 19, 3) := by decide +kernel
theorem dX6_init_26 : decode cX6_init 26 = .ok (.aload_n 0, 1) := by decide +kernel
theorem dX6_init_27 : decode cX6_init 27 = .ok (.new 23, 3) := by decide +kernel
theorem dX6_init_30 : decode cX6_init 30 = .ok (.dup, 1) := by decide +kernel
theorem dX6_init_31 : decode cX6_init 31 = .ok (.invokespecial 25, 3) := by decide +kernel
theorem dX6_init_34 : decode cX6_init 34 = .ok (.putfield 26, 3) := by decide +kernel
theorem dX6_init_37 : decode cX6_init 37 = .ok (.aload_n 0, 1) := by decide +kernel
theorem dX6_init_38 : decode cX6_init 38 = .ok (.new 30, 3) := by decide +kernel
theorem dX6_init_41 : decode cX6_init 41 = .ok (.dup, 1) := by decide +kernel
theorem dX6_init_42 : decode cX6_init 42 = .ok (.invokespecial 32, 3) := by decide +kernel
theorem dX6_init_45 : decode cX6_init 45 = .ok (.putfield 33, 3) := by decide +kernel
theorem dX6_init_48 : decode cX6_init 48 = .ok (.aload_n 0, 1) := by decide +kernel
theorem dX6_init_49 : decode cX6_init 49 = .ok (.new 37, 3) := by decide +kernel
theorem dX6_init_52 : decode cX6_init 52 = .ok (.dup, 1) := by decide +kernel
theorem dX6_init_53 : decode cX6_init 53 = .ok (.invokespecial 39, 3) := by decide +kernel
theorem dX6_init_56 : decode cX6_init 56 = .ok (.putfield 40, 3) := by decide +kernel
theorem dX6_init_59 : decode cX6_init 59 = .ok (.aload_n 0, 1) := by decide +kernel
theorem dX6_init_60 : decode cX6_init 60 = .ok (.new 44, 3) := by decide +kernel
theorem dX6_init_63 : decode cX6_init 63 = .ok (.dup, 1) := by decide +kernel
theorem dX6_init_64 : decode cX6_init 64 = .ok (.invokespecial 46, 3) := by decide +kernel
theorem dX6_init_67 : decode cX6_init 67 = .ok (.putfield 47, 3) := by decide +kernel
theorem dX6_init_70 : decode cX6_init 70 = .ok (.aload_n 0, 1) := by decide +kernel
theorem dX6_init_71 : decode cX6_init 71 = .ok (.iconst 4, 1) := by decide +kernel
theorem dX6_init_72 : decode cX6_init 72 = .ok (.newarray .int, 2) := by decide +kernel
theorem dX6_init_74 : decode cX6_init 74 = .ok (.putfield 51, 3) := by decide +kernel
theorem dX6_init_77 : decode cX6_init 77 = .ok (.aload_n 0, 1) := by decide +kernel
theorem dX6_init_78 : decode cX6_init 78 = .ok (.getfield 51, 3) := by decide +kernel
theorem dX6_init_81 : decode cX6_init 81 = .ok (.bipush 100, 2) := by decide +kernel
theorem dX6_init_83 : decode cX6_init 83 = .ok (.invokestatic 55, 3) := by decide +kernel
theorem dX6_init_86 : decode cX6_init 86 = .ok (.aload_n 0, 1) := by decide +kernel
theorem dX6_init_87 : decode cX6_init 87 = .ok (.iconst 0, 1) := by decide +kernel
theorem dX6_init_88 : decode cX6_init 88 = .ok (.putfield 61, 3) := by decide +kernel
theorem dX6_init_91 : decode cX6_init 91 = .ok (.return_, 1) := by decide +kernel
theorem dX6_thing_0 : decode cX6_thing 0 = .ok (.iload_n 1, 1) := by decide +kernel
theorem dX6_thing_1 : decode cX6_thing 1 = .ok (.invokestatic 65, 3) := by decide +kernel
theorem dX6_thing_4 : decode cX6_thing 4 = .ok (.ifCond .eq 23, 3) := by decide +kernel
theorem dX6_thing_7 : decode cX6_thing 7 = .ok (.iload_n 2, 1) := by decide +kernel
theorem dX6_thing_8 : decode cX6_thing 8 = .ok (.iconst 0, 1) := by decide +kernel
theorem dX6_thing_9 : decode cX6_thing 9 = .ok (.sipush 1000, 3) := by decide +kernel
theorem dX6_thing_12 : decode cX6_thing 12 = .ok (.invokestatic 69, 3) := by decide +kernel
theorem dX6_thing_15 : decode cX6_thing 15 = .ok (.ifCond .ne 12, 3) := by decide +kernel
theorem dX6_thing_18 : decode cX6_thing 18 = .ok (.iload_n 3, 1) := by decide +kernel
theorem dX6_thing_19 : decode cX6_thing 19 = .ok (.iconst 0, 1) := by decide +kernel
theorem dX6_thing_20 : decode cX6_thing 20 = .ok (.iconst 5, 1) := by decide +kernel
theorem dX6_thing_21 : decode cX6_thing 21 = .ok (.invokestatic 69, 3) := by decide +kernel
theorem dX6_thing_24 : decode cX6_thing 24 = .ok (.ifCond .eq 6, 3) := by decide +kernel
theorem dX6_thing_27 : decode cX6_thing 27 = .ok (.bipush (-2), 2) := by decide +kernel
theorem dX6_thing_29 : decode cX6_thing 29 = .ok (.ireturn, 1) := by decide +kernel
theorem dX6_thing_30 : decode cX6_thing 30 = .ok (.iload 4, 2) := by decide +kernel
theorem dX6_thing_32 : decode cX6_thing 32 = .ok (.iconst 1, 1) := by decide +kernel
theorem dX6_thing_33 : decode cX6_thing 33 = .ok (.bipush 100, 2) := by decide +kernel
theorem dX6_thing_35 : decode cX6_thing 35 = .ok (.invokestatic 69, 3) := by decide +kernel
theorem dX6_thing_38 : decode cX6_thing 38 = .ok (.ifCond .ne 27, 3) := by decide +kernel
theorem dX6_thing_41 : decode cX6_thing 41 = .ok (.iload 5, 2) := by decide +kernel
theorem dX6_thing_43 : decode cX6_thing 43 = .ok (.iconst 0, 1) := by decide +kernel
theorem dX6_thing_44 : decode cX6_thing 44 = .ok (.sipush 1000, 3) := by decide +kernel
theorem dX6_thing_47 : decode cX6_thing 47 = .ok (.invokestatic 69, 3) := by decide +kernel
theorem dX6_thing_50 : decode cX6_thing 50 = .ok (.ifCond .ne 15, 3) := by decide +kernel
theorem dX6_thing_53 : decode cX6_thing 53 = .ok (.iload 6, 2) := by decide +kernel
theorem dX6_thing_55 : decode cX6_thing 55 = .ok (.iconst 0, 1) := by decide +kernel
theorem dX6_thing_56 : decode cX6_thing 56 = .ok (.sipush 10000, 3) := by decide +kernel
theorem dX6_thing_59 : decode cX6_thing 59 = .ok (.invokestatic 69, 3) := by decide +kernel
theorem dX6_thing_62 : decode cX6_thing 62 = .ok (.ifCond .eq 6, 3) := by decide +kernel
theorem dX6_thing_65 : decode cX6_thing 65 = .ok (.bipush (-2), 2) := by decide +kernel
theorem dX6_thing_67 : decode cX6_thing 67 = .ok (.ireturn, 1) := by decide +kernel
theorem dX6_thing_68 : decode cX6_thing 68 = .ok (.aload_n 0, 1) := by decide +kernel
theorem dX6_thing_69 : decode cX6_thing 69 = .ok (.getfield 12, 3) := by decide +kernel
theorem dX6_thing_72 : decode cX6_thing 72 = .ok (.getfield 73, 3) := by decide +kernel
theorem dX6_thing_75 : decode cX6_thing 75 = .ok (.iload_n 1, 1) := by decide +kernel
theorem dX6_thing_76 : decode cX6_thing 76 = .ok (.iload_n 2, 1) := by decide +kernel
theorem dX6_thing_77 : decode cX6_thing 77 = .ok (.iastore, 1) := by decide +kernel
theorem dX6_thing_78 : decode cX6_thing 78 = .ok (.aload_n 0, 1) := by decide +kernel
theorem dX6_thing_79 : decode cX6_thing 79 = .ok (.getfield 12, 3) := by decide +kernel
theorem dX6_thing_82 : decode cX6_thing 82 = .ok (.getfield 76, 3) := by decide +kernel
theorem dX6_thing_85 : decode cX6_thing 85 = .ok (.iload_n 1, 1) := by decide +kernel
theorem dX6_thing_86 : decode cX6_thing 86 = .ok (.iload_n 3, 1) := by decide +kernel
theorem dX6_thing_87 : decode cX6_thing 87 = .ok (.iastore, 1) := by decide +kernel
theorem dX6_thing_88 : decode cX6_thing 88 = .ok (.aload_n 0, 1) := by decide +kernel
theorem dX6_thing_89 : decode cX6_thing 89 = .ok (.getfield 12, 3) := by decide +kernel
theorem dX6_thing_92 : decode cX6_thing 92 = .ok (.getfield 79, 3) := by decide +kernel
theorem dX6_thing_95 : decode cX6_thing 95 = .ok (.iload_n 1, 1) := by decide +kernel
theorem dX6_thing_96 : decode cX6_thing 96 = .ok (.iload 4, 2) := by decide +kernel
theorem dX6_thing_98 : decode cX6_thing 98 = .ok (.iastore, 1) := by decide +kernel
theorem dX6_thing_99 : decode cX6_thing 99 = .ok (.aload_n 0, 1) := by decide +kernel
theorem dX6_thing_100 : decode cX6_thing 100 = .ok (.getfield 12, 3) := by decide +kernel
theorem dX6_thing_103 : decode cX6_thing 103 = .ok (.getfield 82, 3) := by decide +kernel
theorem dX6_thing_106 : decode cX6_thing 106 = .ok (.iload_n 1, 1) := by decide +kernel
theorem dX6_thing_107 : decode cX6_thing 107 = .ok (.iload 5, 2) := by decide +kernel
theorem dX6_thing_109 : decode cX6_thing 109 = .ok (.iastore, 1) := by decide +kernel
theorem dX6_thing_110 : decode cX6_thing 110 = .ok (.aload_n 0, 1) := by decide +kernel
theorem dX6_thing_111 : decode cX6_thing 111 = .ok (.getfield 12, 3) := by decide +kernel
theorem dX6_thing_114 : decode cX6_thing 114 = .ok (.getfield 85, 3) := by decide +kernel
theorem dX6_thing_117 : decode cX6_thing 117 = .ok (.iload_n 1, 1) := by decide +kernel
theorem dX6_thing_118 : decode cX6_thing 118 = .ok (.iload 6, 2) := by decide +kernel
theorem dX6_thing_120 : decode cX6_thing 120 = .ok (.iastore, 1) := by decide +kernel
theorem dX6_thing_121 : decode cX6_thing 121 = .ok (.iconst 1, 1) := by decide +kernel
theorem dX6_thing_122 : decode cX6_thing 122 = .ok (.ireturn, 1) := by decide +kernel
theorem dX6_field_0 : decode cX6_field 0 = .ok (.iload_n 1, 1) := by decide +kernel
theorem dX6_field_1 : decode cX6_field 1 = .ok (.iconst 0, 1) := by decide +kernel
theorem dX6_field_2 : decode cX6_field 2 = .ok (.bipush 60, 2) := by decide +kernel
theorem dX6_field_4 : decode cX6_field 4 = .ok (.invokestatic 69, 3) := by decide +kernel
theorem dX6_field_7 : decode cX6_field 7 = .ok (.ifCond .ne 23, 3) := by decide +kernel
theorem dX6_field_10 : decode cX6_field 10 = .ok (.iload_n 2, 1) := by decide +kernel
theorem dX6_field_11 : decode cX6_field 11 = .ok (.iload_n 1, 1) := by decide +kernel
theorem dX6_field_12 : decode cX6_field 12 = .ok (.bipush 60, 2) := by decide +kernel
theorem dX6_field_14 : decode cX6_field 14 = .ok (.invokestatic 69, 3) := by decide +kernel
theorem dX6_field_17 : decode cX6_field 17 = .ok (.ifCond .ne 13, 3) := by decide +kernel
theorem dX6_field_20 : decode cX6_field 20 = .ok (.iload_n 3, 1) := by decide +kernel
theorem dX6_field_21 : decode cX6_field 21 = .ok (.iconst 0, 1) := by decide +kernel
theorem dX6_field_22 : decode cX6_field 22 = .ok (.ldc 88, 2) := by decide +kernel
theorem dX6_field_24 : decode cX6_field 24 = .ok (.invokestatic 69, 3) := by decide +kernel
theorem dX6_field_27 : decode cX6_field 27 = .ok (.ifCond .eq 6, 3) := by decide +kernel
theorem dX6_field_30 : decode cX6_field 30 = .ok (.bipush (-2), 2) := by decide +kernel
theorem dX6_field_32 : decode cX6_field 32 = .ok (.ireturn, 1) := by decide +kernel
theorem dX6_field_33 : decode cX6_field 33 = .ok (.aload_n 0, 1) := by decide +kernel
theorem dX6_field_34 : decode cX6_field 34 = .ok (.getfield 19, 3) := by decide +kernel
theorem dX6_field_37 : decode cX6_field 37 = .ok (.iload_n 1, 1) := by decide +kernel
theorem dX6_field_38 : decode cX6_field 38 = .ok (.iload_n 2, 1) := by decide +kernel
theorem dX6_field_39 : decode cX6_field 39 = .ok (.iload_n 3, 1) := by decide +kernel
theorem dX6_field_40 : decode cX6_field 40 = .ok (.invokevirtual 89, 3) := by decide +kernel
theorem dX6_field_43 : decode cX6_field 43 = .ok (.ireturn, 1) := by decide +kernel
theorem dX6_need_0 : decode cX6_need 0 = .ok (.aload_n 0, 1) := by decide +kernel
theorem dX6_need_1 : decode cX6_need 1 = .ok (.getfield 19, 3) := by decide +kernel
theorem dX6_need_4 : decode cX6_need 4 = .ok (.iload_n 1, 1) := by decide +kernel
theorem dX6_need_5 : decode cX6_need 5 = .ok (.invokevirtual 93, 3) := by decide +kernel
theorem dX6_need_8 : decode cX6_need 8 = .ok (.ifCond .eq 21, 3) := by decide +kernel
theorem dX6_need_11 : decode cX6_need 11 = .ok (.iload_n 2, 1) := by decide +kernel
theorem dX6_need_12 : decode cX6_need 12 = .ok (.invokestatic 65, 3) := by decide +kernel
theorem dX6_need_15 : decode cX6_need 15 = .ok (.ifCond .eq 14, 3) := by decide +kernel
theorem dX6_need_18 : decode cX6_need 18 = .ok (.iload_n 3, 1) := by decide +kernel
theorem dX6_need_19 : decode cX6_need 19 = .ok (.iconst 0, 1) := by decide +kernel
theorem dX6_need_20 : decode cX6_need 20 = .ok (.sipush 500, 3) := by decide +kernel
theorem dX6_need_23 : decode cX6_need 23 = .ok (.invokestatic 69, 3) := by decide +kernel
theorem dX6_need_26 : decode cX6_need 26 = .ok (.ifCond .eq 6, 3) := by decide +kernel
theorem dX6_need_29 : decode cX6_need 29 = .ok (.bipush (-2), 2) := by decide +kernel
theorem dX6_need_31 : decode cX6_need 31 = .ok (.ireturn, 1) := by decide +kernel
theorem dX6_need_32 : decode cX6_need 32 = .ok (.aload_n 0, 1) := by decide +kernel
theorem dX6_need_33 : decode cX6_need 33 = .ok (.getfield 19, 3) := by decide +kernel
theorem dX6_need_36 : decode cX6_need 36 = .ok (.getfield 96, 3) := by decide +kernel
theorem dX6_need_39 : decode cX6_need 39 = .ok (.iload_n 1, 1) := by decide +kernel
theorem dX6_need_40 : decode cX6_need 40 = .ok (.iaload, 1) := by decide +kernel
theorem dX6_need_41 : decode cX6_need 41 = .ok (.ifCond .eq 6, 3) := by decide +kernel
theorem dX6_need_44 : decode cX6_need 44 = .ok (.bipush (-3), 2) := by decide +kernel
theorem dX6_need_46 : decode cX6_need 46 = .ok (.ireturn, 1) := by decide +kernel
theorem dX6_need_47 : decode cX6_need 47 = .ok (.aload_n 0, 1) := by decide +kernel
theorem dX6_need_48 : decode cX6_need 48 = .ok (.getfield 19, 3) := by decide +kernel
theorem dX6_need_51 : decode cX6_need 51 = .ok (.getfield 99, 3) := by decide +kernel
theorem dX6_need_54 : decode cX6_need 54 = .ok (.iload_n 1, 1) := by decide +kernel
theorem dX6_need_55 : decode cX6_need 55 = .ok (.iload_n 2, 1) := by decide +kernel
theorem dX6_need_56 : decode cX6_need 56 = .ok (.invokestatic 102, 3) := by decide +kernel
theorem dX6_need_59 : decode cX6_need 59 = .ok (.iaload, 1) := by decide +kernel
theorem dX6_need_60 : decode cX6_need 60 = .ok (.istore 4, 2) := by decide +kernel
theorem dX6_need_62 : decode cX6_need 62 = .ok (.aload_n 0, 1) := by decide +kernel
theorem dX6_need_63 : decode cX6_need 63 = .ok (.getfield 19, 3) := by decide +kernel
theorem dX6_need_66 : decode cX6_need 66 = .ok (.getfield 99, 3) := by decide +kernel
theorem dX6_need_69 : decode cX6_need 69 = .ok (.iload_n 1, 1) := by decide +kernel
theorem dX6_need_70 : decode cX6_need 70 = .ok (.iload_n 2, 1) := by decide +kernel
theorem dX6_need_71 : decode cX6_need 71 = .ok (.invokestatic 102, 3) := by decide +kernel
theorem dX6_need_74 : decode cX6_need 74 = .ok (.iload_n 3, 1) := by decide +kernel
theorem dX6_need_75 : decode cX6_need 75 = .ok (.iastore, 1) := by decide +kernel
theorem dX6_need_76 : decode cX6_need 76 = .ok (.iload 4, 2) := by decide +kernel
theorem dX6_need_78 : decode cX6_need 78 = .ok (.ireturn, 1) := by decide +kernel
theorem dX6_rain_0 : decode cX6_rain 0 = .ok (.iload_n 1, 1) := by decide +kernel
theorem dX6_rain_1 : decode cX6_rain 1 = .ok (.iconst 0, 1) := by decide +kernel
theorem dX6_rain_2 : decode cX6_rain 2 = .ok (.bipush 60, 2) := by decide +kernel
theorem dX6_rain_4 : decode cX6_rain 4 = .ok (.invokestatic 69, 3) := by decide +kernel
theorem dX6_rain_7 : decode cX6_rain 7 = .ok (.ifCond .eq 6, 3) := by decide +kernel
theorem dX6_rain_10 : decode cX6_rain 10 = .ok (.bipush (-2), 2) := by decide +kernel
theorem dX6_rain_12 : decode cX6_rain 12 = .ok (.ireturn, 1) := by decide +kernel
theorem dX6_rain_13 : decode cX6_rain 13 = .ok (.aload_n 0, 1) := by decide +kernel
theorem dX6_rain_14 : decode cX6_rain 14 = .ok (.getfield 26, 3) := by decide +kernel
theorem dX6_rain_17 : decode cX6_rain 17 = .ok (.iload_n 1, 1) := by decide +kernel
theorem dX6_rain_18 : decode cX6_rain 18 = .ok (.iload_n 2, 1) := by decide +kernel
theorem dX6_rain_19 : decode cX6_rain 19 = .ok (.invokevirtual 106, 3) := by decide +kernel
theorem dX6_rain_22 : decode cX6_rain 22 = .ok (.iconst 1, 1) := by decide +kernel
theorem dX6_rain_23 : decode cX6_rain 23 = .ok (.ireturn, 1) := by decide +kernel
theorem dX6_take_0 : decode cX6_take 0 = .ok (.aload_n 0, 1) := by decide +kernel
theorem dX6_take_1 : decode cX6_take 1 = .ok (.getfield 19, 3) := by decide +kernel
theorem dX6_take_4 : decode cX6_take 4 = .ok (.iload_n 1, 1) := by decide +kernel
theorem dX6_take_5 : decode cX6_take 5 = .ok (.invokevirtual 93, 3) := by decide +kernel
theorem dX6_take_8 : decode cX6_take 8 = .ok (.ifCond .ne 6, 3) := by decide +kernel
theorem dX6_take_11 : decode cX6_take 11 = .ok (.bipush (-2), 2) := by decide +kernel
theorem dX6_take_13 : decode cX6_take 13 = .ok (.ireturn, 1) := by decide +kernel
theorem dX6_take_14 : decode cX6_take 14 = .ok (.aload_n 0, 1) := by decide +kernel
theorem dX6_take_15 : decode cX6_take 15 = .ok (.getfield 19, 3) := by decide +kernel
theorem dX6_take_18 : decode cX6_take 18 = .ok (.getfield 96, 3) := by decide +kernel
theorem dX6_take_21 : decode cX6_take 21 = .ok (.iload_n 1, 1) := by decide +kernel
theorem dX6_take_22 : decode cX6_take 22 = .ok (.iaload, 1) := by decide +kernel
theorem dX6_take_23 : decode cX6_take 23 = .ok (.ifCond .ne 22, 3) := by decide +kernel
theorem dX6_take_26 : decode cX6_take 26 = .ok (.aload_n 0, 1) := by decide +kernel
theorem dX6_take_27 : decode cX6_take 27 = .ok (.aload_n 0, 1) := by decide +kernel
theorem dX6_take_28 : decode cX6_take 28 = .ok (.getfield 19, 3) := by decide +kernel
theorem dX6_take_31 : decode cX6_take 31 = .ok (.iconst 1, 1) := by decide +kernel
theorem dX6_take_32 : decode cX6_take 32 = .ok (.invokevirtual 110, 3) := by decide +kernel
theorem dX6_take_35 : decode cX6_take 35 = .ok (.iconst 1, 1) := by decide +kernel
theorem dX6_take_36 : decode cX6_take 36 = .ok (.iload_n 1, 1) := by decide +kernel
theorem dX6_take_37 : decode cX6_take 37 = .ok (.ishl, 1) := by decide +kernel
theorem dX6_take_38 : decode cX6_take 38 = .ok (.ior, 1) := by decide +kernel
theorem dX6_take_39 : decode cX6_take 39 = .ok (.invokevirtual 114, 3) := by decide +kernel
theorem dX6_take_42 : decode cX6_take 42 = .ok (.ifCond .ne 6, 3) := by decide +kernel
theorem dX6_take_45 : decode cX6_take 45 = .ok (.bipush (-3), 2) := by decide +kernel
theorem dX6_take_47 : decode cX6_take 47 = .ok (.ireturn, 1) := by decide +kernel
theorem dX6_take_48 : decode cX6_take 48 = .ok (.aload_n 0, 1) := by decide +kernel
theorem dX6_take_49 : decode cX6_take 49 = .ok (.getfield 19, 3) := by decide +kernel
theorem dX6_take_52 : decode cX6_take 52 = .ok (.getfield 96, 3) := by decide +kernel
theorem dX6_take_55 : decode cX6_take 55 = .ok (.iload_n 1, 1) := by decide +kernel
theorem dX6_take_56 : decode cX6_take 56 = .ok (.iconst 1, 1) := by decide +kernel
theorem dX6_take_57 : decode cX6_take 57 = .ok (.iastore, 1) := by decide +kernel
theorem dX6_take_58 : decode cX6_take 58 = .ok (.iconst 1, 1) := by decide +kernel
theorem dX6_take_59 : decode cX6_take 59 = .ok (.ireturn, 1) := by decide +kernel
theorem dX6_hire_0 : decode cX6_hire 0 = .ok (.aload_n 0, 1) := by decide +kernel
theorem dX6_hire_1 : decode cX6_hire 1 = .ok (.getfield 19, 3) := by decide +kernel
theorem dX6_hire_4 : decode cX6_hire 4 = .ok (.iload_n 1, 1) := by decide +kernel
theorem dX6_hire_5 : decode cX6_hire 5 = .ok (.invokevirtual 93, 3) := by decide +kernel
theorem dX6_hire_8 : decode cX6_hire 8 = .ok (.ifCond .ne 6, 3) := by decide +kernel
theorem dX6_hire_11 : decode cX6_hire 11 = .ok (.bipush (-2), 2) := by decide +kernel
theorem dX6_hire_13 : decode cX6_hire 13 = .ok (.ireturn, 1) := by decide +kernel
theorem dX6_hire_14 : decode cX6_hire 14 = .ok (.aload_n 0, 1) := by decide +kernel
theorem dX6_hire_15 : decode cX6_hire 15 = .ok (.getfield 19, 3) := by decide +kernel
theorem dX6_hire_18 : decode cX6_hire 18 = .ok (.getfield 96, 3) := by decide +kernel
theorem dX6_hire_21 : decode cX6_hire 21 = .ok (.iload_n 1, 1) := by decide +kernel
theorem dX6_hire_22 : decode cX6_hire 22 = .ok (.iaload, 1) := by decide +kernel
theorem dX6_hire_23 : decode cX6_hire 23 = .ok (.ifCond .eq 6, 3) := by decide +kernel
theorem dX6_hire_26 : decode cX6_hire 26 = .ok (.bipush (-3), 2) := by decide +kernel
theorem dX6_hire_28 : decode cX6_hire 28 = .ok (.ireturn, 1) := by decide +kernel
theorem dX6_hire_29 : decode cX6_hire 29 = .ok (.aload_n 0, 1) := by decide +kernel
theorem dX6_hire_30 : decode cX6_hire 30 = .ok (.getfield 19, 3) := by decide +kernel
theorem dX6_hire_33 : decode cX6_hire 33 = .ok (.getfield 96, 3) := by decide +kernel
theorem dX6_hire_36 : decode cX6_hire 36 = .ok (.iload_n 1, 1) := by decide +kernel
theorem dX6_hire_37 : decode cX6_hire 37 = .ok (.iconst 1, 1) := by decide +kernel
theorem dX6_hire_38 : decode cX6_hire 38 = .ok (.iastore, 1) := by decide +kernel
theorem dX6_hire_39 : decode cX6_hire 39 = .ok (.aload_n 0, 1) := by decide +kernel
theorem dX6_hire_40 : decode cX6_hire 40 = .ok (.aload_n 0, 1) := by decide +kernel
theorem dX6_hire_41 : decode cX6_hire 41 = .ok (.getfield 19, 3) := by decide +kernel
theorem dX6_hire_44 : decode cX6_hire 44 = .ok (.iconst 1, 1) := by decide +kernel
theorem dX6_hire_45 : decode cX6_hire 45 = .ok (.invokevirtual 110, 3) := by decide +kernel
theorem dX6_hire_48 : decode cX6_hire 48 = .ok (.invokevirtual 117, 3) := by decide +kernel
theorem dX6_hire_51 : decode cX6_hire 51 = .ok (.aload_n 0, 1) := by decide +kernel
theorem dX6_hire_52 : decode cX6_hire 52 = .ok (.getfield 33, 3) := by decide +kernel
theorem dX6_hire_55 : decode cX6_hire 55 = .ok (.getfield 121, 3) := by decide +kernel
theorem dX6_hire_58 : decode cX6_hire 58 = .ok (.l2i, 1) := by decide +kernel
theorem dX6_hire_59 : decode cX6_hire 59 = .ok (.ireturn, 1) := by decide +kernel
theorem dX6_giveUp_0 : decode cX6_giveUp 0 = .ok (.aload_n 0, 1) := by decide +kernel
theorem dX6_giveUp_1 : decode cX6_giveUp 1 = .ok (.getfield 19, 3) := by decide +kernel
theorem dX6_giveUp_4 : decode cX6_giveUp 4 = .ok (.iload_n 1, 1) := by decide +kernel
theorem dX6_giveUp_5 : decode cX6_giveUp 5 = .ok (.invokevirtual 93, 3) := by decide +kernel
theorem dX6_giveUp_8 : decode cX6_giveUp 8 = .ok (.ifCond .ne 6, 3) := by decide +kernel
theorem dX6_giveUp_11 : decode cX6_giveUp 11 = .ok (.bipush (-2), 2) := by decide +kernel
theorem dX6_giveUp_13 : decode cX6_giveUp 13 = .ok (.ireturn, 1) := by decide +kernel
theorem dX6_giveUp_14 : decode cX6_giveUp 14 = .ok (.aload_n 0, 1) := by decide +kernel
theorem dX6_giveUp_15 : decode cX6_giveUp 15 = .ok (.getfield 19, 3) := by decide +kernel
theorem dX6_giveUp_18 : decode cX6_giveUp 18 = .ok (.getfield 96, 3) := by decide +kernel
theorem dX6_giveUp_21 : decode cX6_giveUp 21 = .ok (.iload_n 1, 1) := by decide +kernel
theorem dX6_giveUp_22 : decode cX6_giveUp 22 = .ok (.iaload, 1) := by decide +kernel
theorem dX6_giveUp_23 : decode cX6_giveUp 23 = .ok (.ifCond .eq 19, 3) := by decide +kernel
theorem dX6_giveUp_26 : decode cX6_giveUp 26 = .ok (.aload_n 0, 1) := by decide +kernel
theorem dX6_giveUp_27 : decode cX6_giveUp 27 = .ok (.getfield 19, 3) := by decide +kernel
theorem dX6_giveUp_30 : decode cX6_giveUp 30 = .ok (.getfield 96, 3) := by decide +kernel
theorem dX6_giveUp_33 : decode cX6_giveUp 33 = .ok (.iload_n 1, 1) := by decide +kernel
theorem dX6_giveUp_34 : decode cX6_giveUp 34 = .ok (.iaload, 1) := by decide +kernel
theorem dX6_giveUp_35 : decode cX6_giveUp 35 = .ok (.iconst 1, 1) := by decide +kernel
theorem dX6_giveUp_36 : decode cX6_giveUp 36 = .ok (.if_icmp .eq 6, 3) := by decide +kernel
theorem dX6_giveUp_39 : decode cX6_giveUp 39 = .ok (.bipush (-3), 2) := by decide +kernel
theorem dX6_giveUp_41 : decode cX6_giveUp 41 = .ok (.ireturn, 1) := by decide +kernel
theorem dX6_giveUp_42 : decode cX6_giveUp 42 = .ok (.aload_n 0, 1) := by decide +kernel
theorem dX6_giveUp_43 : decode cX6_giveUp 43 = .ok (.getfield 19, 3) := by decide +kernel
theorem dX6_giveUp_46 : decode cX6_giveUp 46 = .ok (.getfield 96, 3) := by decide +kernel
theorem dX6_giveUp_49 : decode cX6_giveUp 49 = .ok (.iload_n 1, 1) := by decide +kernel
theorem dX6_giveUp_50 : decode cX6_giveUp 50 = .ok (.iconst 2, 1) := by decide +kernel
theorem dX6_giveUp_51 : decode cX6_giveUp 51 = .ok (.iastore, 1) := by decide +kernel
theorem dX6_giveUp_52 : decode cX6_giveUp 52 = .ok (.iconst 1, 1) := by decide +kernel
theorem dX6_giveUp_53 : decode cX6_giveUp 53 = .ok (.ireturn, 1) := by decide +kernel
theorem dX6_change_0 : decode cX6_change 0 = .ok (.aload_n 0, 1) := by decide +kernel
theorem dX6_change_1 : decode cX6_change 1 = .ok (.getfield 19, 3) := by decide +kernel
theorem dX6_change_4 : decode cX6_change 4 = .ok (.iload_n 1, 1) := by decide +kernel
theorem dX6_change_5 : decode cX6_change 5 = .ok (.invokevirtual 93, 3) := by decide +kernel
theorem dX6_change_8 : decode cX6_change 8 = .ok (.ifCond .eq 21, 3) := by decide +kernel
theorem dX6_change_11 : decode cX6_change 11 = .ok (.iload_n 2, 1) := by decide +kernel
theorem dX6_change_12 : decode cX6_change 12 = .ok (.invokestatic 65, 3) := by decide +kernel
theorem dX6_change_15 : decode cX6_change 15 = .ok (.ifCond .eq 14, 3) := by decide +kernel
theorem dX6_change_18 : decode cX6_change 18 = .ok (.iload_n 3, 1) := by decide +kernel
theorem dX6_change_19 : decode cX6_change 19 = .ok (.iconst 0, 1) := by decide +kernel
theorem dX6_change_20 : decode cX6_change 20 = .ok (.sipush 500, 3) := by decide +kernel
theorem dX6_change_23 : decode cX6_change 23 = .ok (.invokestatic 69, 3) := by decide +kernel
theorem dX6_change_26 : decode cX6_change 26 = .ok (.ifCond .eq 6, 3) := by decide +kernel
theorem dX6_change_29 : decode cX6_change 29 = .ok (.bipush (-2), 2) := by decide +kernel
theorem dX6_change_31 : decode cX6_change 31 = .ok (.ireturn, 1) := by decide +kernel
theorem dX6_change_32 : decode cX6_change 32 = .ok (.aload_n 0, 1) := by decide +kernel
theorem dX6_change_33 : decode cX6_change 33 = .ok (.getfield 19, 3) := by decide +kernel
theorem dX6_change_36 : decode cX6_change 36 = .ok (.getfield 96, 3) := by decide +kernel
theorem dX6_change_39 : decode cX6_change 39 = .ok (.iload_n 1, 1) := by decide +kernel
theorem dX6_change_40 : decode cX6_change 40 = .ok (.iaload, 1) := by decide +kernel
theorem dX6_change_41 : decode cX6_change 41 = .ok (.iconst 1, 1) := by decide +kernel
theorem dX6_change_42 : decode cX6_change 42 = .ok (.if_icmp .eq 6, 3) := by decide +kernel
theorem dX6_change_45 : decode cX6_change 45 = .ok (.bipush (-3), 2) := by decide +kernel
theorem dX6_change_47 : decode cX6_change 47 = .ok (.ireturn, 1) := by decide +kernel
theorem dX6_change_48 : decode cX6_change 48 = .ok (.aload_n 0, 1) := by decide +kernel
theorem dX6_change_49 : decode cX6_change 49 = .ok (.getfield 19, 3) := by decide +kernel
theorem dX6_change_52 : decode cX6_change 52 = .ok (.getfield 99, 3) := by decide +kernel
theorem dX6_change_55 : decode cX6_change 55 = .ok (.iload_n 1, 1) := by decide +kernel
theorem dX6_change_56 : decode cX6_change 56 = .ok (.iload_n 2, 1) := by decide +kernel
theorem dX6_change_57 : decode cX6_change 57 = .ok (.invokestatic 102, 3) := by decide +kernel
theorem dX6_change_60 : decode cX6_change 60 = .ok (.iload_n 3, 1) := by decide +kernel
theorem dX6_change_61 : decode cX6_change 61 = .ok (.iastore, 1) := by decide +kernel
theorem dX6_change_62 : decode cX6_change 62 = .ok (.aload_n 0, 1) := by decide +kernel
theorem dX6_change_63 : decode cX6_change 63 = .ok (.aload_n 0, 1) := by decide +kernel
theorem dX6_change_64 : decode cX6_change 64 = .ok (.getfield 19, 3) := by decide +kernel
theorem dX6_change_67 : decode cX6_change 67 = .ok (.iconst 1, 1) := by decide +kernel
theorem dX6_change_68 : decode cX6_change 68 = .ok (.invokevirtual 110, 3) := by decide +kernel
theorem dX6_change_71 : decode cX6_change 71 = .ok (.invokevirtual 114, 3) := by decide +kernel
theorem dX6_change_74 : decode cX6_change 74 = .ok (.invokestatic 125, 3) := by decide +kernel
theorem dX6_change_77 : decode cX6_change 77 = .ok (.ireturn, 1) := by decide +kernel
theorem dX6_back_0 : decode cX6_back 0 = .ok (.aload_n 0, 1) := by decide +kernel
theorem dX6_back_1 : decode cX6_back 1 = .ok (.getfield 19, 3) := by decide +kernel
theorem dX6_back_4 : decode cX6_back 4 = .ok (.iload_n 1, 1) := by decide +kernel
theorem dX6_back_5 : decode cX6_back 5 = .ok (.invokevirtual 93, 3) := by decide +kernel
theorem dX6_back_8 : decode cX6_back 8 = .ok (.ifCond .ne 6, 3) := by decide +kernel
theorem dX6_back_11 : decode cX6_back 11 = .ok (.bipush (-2), 2) := by decide +kernel
theorem dX6_back_13 : decode cX6_back 13 = .ok (.ireturn, 1) := by decide +kernel
theorem dX6_back_14 : decode cX6_back 14 = .ok (.aload_n 0, 1) := by decide +kernel
theorem dX6_back_15 : decode cX6_back 15 = .ok (.getfield 19, 3) := by decide +kernel
theorem dX6_back_18 : decode cX6_back 18 = .ok (.getfield 96, 3) := by decide +kernel
theorem dX6_back_21 : decode cX6_back 21 = .ok (.iload_n 1, 1) := by decide +kernel
theorem dX6_back_22 : decode cX6_back 22 = .ok (.iaload, 1) := by decide +kernel
theorem dX6_back_23 : decode cX6_back 23 = .ok (.iconst 1, 1) := by decide +kernel
theorem dX6_back_24 : decode cX6_back 24 = .ok (.if_icmp .eq 6, 3) := by decide +kernel
theorem dX6_back_27 : decode cX6_back 27 = .ok (.bipush (-3), 2) := by decide +kernel
theorem dX6_back_29 : decode cX6_back 29 = .ok (.ireturn, 1) := by decide +kernel
theorem dX6_back_30 : decode cX6_back 30 = .ok (.aload_n 0, 1) := by decide +kernel
theorem dX6_back_31 : decode cX6_back 31 = .ok (.getfield 19, 3) := by decide +kernel
theorem dX6_back_34 : decode cX6_back 34 = .ok (.getfield 96, 3) := by decide +kernel
theorem dX6_back_37 : decode cX6_back 37 = .ok (.iload_n 1, 1) := by decide +kernel
theorem dX6_back_38 : decode cX6_back 38 = .ok (.iconst 3, 1) := by decide +kernel
theorem dX6_back_39 : decode cX6_back 39 = .ok (.iastore, 1) := by decide +kernel
theorem dX6_back_40 : decode cX6_back 40 = .ok (.iconst 1, 1) := by decide +kernel
theorem dX6_back_41 : decode cX6_back 41 = .ok (.ireturn, 1) := by decide +kernel
theorem dX6_missing_0 : decode cX6_missing 0 = .ok (.aload_n 0, 1) := by decide +kernel
theorem dX6_missing_1 : decode cX6_missing 1 = .ok (.getfield 19, 3) := by decide +kernel
theorem dX6_missing_4 : decode cX6_missing 4 = .ok (.iload_n 1, 1) := by decide +kernel
theorem dX6_missing_5 : decode cX6_missing 5 = .ok (.invokevirtual 93, 3) := by decide +kernel
theorem dX6_missing_8 : decode cX6_missing 8 = .ok (.ifCond .eq 31, 3) := by decide +kernel
theorem dX6_missing_11 : decode cX6_missing 11 = .ok (.iload_n 2, 1) := by decide +kernel
theorem dX6_missing_12 : decode cX6_missing 12 = .ok (.invokestatic 65, 3) := by decide +kernel
theorem dX6_missing_15 : decode cX6_missing 15 = .ok (.ifCond .eq 24, 3) := by decide +kernel
theorem dX6_missing_18 : decode cX6_missing 18 = .ok (.iload_n 3, 1) := by decide +kernel
theorem dX6_missing_19 : decode cX6_missing 19 = .ok (.iconst 0, 1) := by decide +kernel
theorem dX6_missing_20 : decode cX6_missing 20 = .ok (.aload_n 0, 1) := by decide +kernel
theorem dX6_missing_21 : decode cX6_missing 21 = .ok (.getfield 19, 3) := by decide +kernel
theorem dX6_missing_24 : decode cX6_missing 24 = .ok (.getfield 99, 3) := by decide +kernel
theorem dX6_missing_27 : decode cX6_missing 27 = .ok (.iload_n 1, 1) := by decide +kernel
theorem dX6_missing_28 : decode cX6_missing 28 = .ok (.iload_n 2, 1) := by decide +kernel
theorem dX6_missing_29 : decode cX6_missing 29 = .ok (.invokestatic 102, 3) := by decide +kernel
theorem dX6_missing_32 : decode cX6_missing 32 = .ok (.iaload, 1) := by decide +kernel
theorem dX6_missing_33 : decode cX6_missing 33 = .ok (.invokestatic 69, 3) := by decide +kernel
theorem dX6_missing_36 : decode cX6_missing 36 = .ok (.ifCond .eq 6, 3) := by decide +kernel
theorem dX6_missing_39 : decode cX6_missing 39 = .ok (.bipush (-2), 2) := by decide +kernel
theorem dX6_missing_41 : decode cX6_missing 41 = .ok (.ireturn, 1) := by decide +kernel
theorem dX6_missing_42 : decode cX6_missing 42 = .ok (.aload_n 0, 1) := by decide +kernel
theorem dX6_missing_43 : decode cX6_missing 43 = .ok (.getfield 19, 3) := by decide +kernel
theorem dX6_missing_46 : decode cX6_missing 46 = .ok (.getfield 96, 3) := by decide +kernel
theorem dX6_missing_49 : decode cX6_missing 49 = .ok (.iload_n 1, 1) := by decide +kernel
theorem dX6_missing_50 : decode cX6_missing 50 = .ok (.iaload, 1) := by decide +kernel
theorem dX6_missing_51 : decode cX6_missing 51 = .ok (.iconst 3, 1) := by decide +kernel
theorem dX6_missing_52 : decode cX6_missing 52 = .ok (.if_icmp .ne 19, 3) := by decide +kernel
theorem dX6_missing_55 : decode cX6_missing 55 = .ok (.aload_n 0, 1) := by decide +kernel
theorem dX6_missing_56 : decode cX6_missing 56 = .ok (.getfield 19, 3) := by decide +kernel
theorem dX6_missing_59 : decode cX6_missing 59 = .ok (.getfield 129, 3) := by decide +kernel
theorem dX6_missing_62 : decode cX6_missing 62 = .ok (.iload_n 1, 1) := by decide +kernel
theorem dX6_missing_63 : decode cX6_missing 63 = .ok (.iload_n 2, 1) := by decide +kernel
theorem dX6_missing_64 : decode cX6_missing 64 = .ok (.invokestatic 102, 3) := by decide +kernel
theorem dX6_missing_67 : decode cX6_missing 67 = .ok (.baload, 1) := by decide +kernel
theorem dX6_missing_68 : decode cX6_missing 68 = .ok (.ifCond .eq 6, 3) := by decide +kernel
theorem dX6_missing_71 : decode cX6_missing 71 = .ok (.bipush (-3), 2) := by decide +kernel
theorem dX6_missing_73 : decode cX6_missing 73 = .ok (.ireturn, 1) := by decide +kernel
theorem dX6_missing_74 : decode cX6_missing 74 = .ok (.aload_n 0, 1) := by decide +kernel
theorem dX6_missing_75 : decode cX6_missing 75 = .ok (.getfield 12, 3) := by decide +kernel
theorem dX6_missing_78 : decode cX6_missing 78 = .ok (.getfield 85, 3) := by decide +kernel
theorem dX6_missing_81 : decode cX6_missing 81 = .ok (.iload_n 2, 1) := by decide +kernel
theorem dX6_missing_82 : decode cX6_missing 82 = .ok (.iaload, 1) := by decide +kernel
theorem dX6_missing_83 : decode cX6_missing 83 = .ok (.iload_n 3, 1) := by decide +kernel
theorem dX6_missing_84 : decode cX6_missing 84 = .ok (.imul, 1) := by decide +kernel
theorem dX6_missing_85 : decode cX6_missing 85 = .ok (.istore 4, 2) := by decide +kernel
theorem dX6_missing_87 : decode cX6_missing 87 = .ok (.aload_n 0, 1) := by decide +kernel
theorem dX6_missing_88 : decode cX6_missing 88 = .ok (.getfield 19, 3) := by decide +kernel
theorem dX6_missing_91 : decode cX6_missing 91 = .ok (.getfield 129, 3) := by decide +kernel
theorem dX6_missing_94 : decode cX6_missing 94 = .ok (.iload_n 1, 1) := by decide +kernel
theorem dX6_missing_95 : decode cX6_missing 95 = .ok (.iload_n 2, 1) := by decide +kernel
theorem dX6_missing_96 : decode cX6_missing 96 = .ok (.invokestatic 102, 3) := by decide +kernel
theorem dX6_missing_99 : decode cX6_missing 99 = .ok (.iconst 1, 1) := by decide +kernel
theorem dX6_missing_100 : decode cX6_missing 100 = .ok (.bastore, 1) := by decide +kernel
theorem dX6_missing_101 : decode cX6_missing 101 = .ok (.aload_n 0, 1) := by decide +kernel
theorem dX6_missing_102 : decode cX6_missing 102 = .ok (.getfield 12, 3) := by decide +kernel
theorem dX6_missing_105 : decode cX6_missing 105 = .ok (.getfield 133, 3) := by decide +kernel
theorem dX6_missing_108 : decode cX6_missing 108 = .ok (.iload_n 2, 1) := by decide +kernel
theorem dX6_missing_109 : decode cX6_missing 109 = .ok (.dup2, 1) := by decide +kernel
theorem dX6_missing_110 : decode cX6_missing 110 = .ok (.iaload, 1) := by decide +kernel
theorem dX6_missing_111 : decode cX6_missing 111 = .ok (.iload_n 3, 1) := by decide +kernel
theorem dX6_missing_112 : decode cX6_missing 112 = .ok (.iadd, 1) := by decide +kernel
theorem dX6_missing_113 : decode cX6_missing 113 = .ok (.iastore, 1) := by decide +kernel
theorem dX6_missing_114 : decode cX6_missing 114 = .ok (.aload_n 0, 1) := by decide +kernel
theorem dX6_missing_115 : decode cX6_missing 115 = .ok (.dup, 1) := by decide +kernel
theorem dX6_missing_116 : decode cX6_missing 116 = .ok (.getfield 61, 3) := by decide +kernel
theorem dX6_missing_119 : decode cX6_missing 119 = .ok (.iload 4, 2) := by decide +kernel
theorem dX6_missing_121 : decode cX6_missing 121 = .ok (.iadd, 1) := by decide +kernel
theorem dX6_missing_122 : decode cX6_missing 122 = .ok (.putfield 61, 3) := by decide +kernel
theorem dX6_missing_125 : decode cX6_missing 125 = .ok (.iload 4, 2) := by decide +kernel
theorem dX6_missing_127 : decode cX6_missing 127 = .ok (.ireturn, 1) := by decide +kernel
theorem dX6_mend_0 : decode cX6_mend 0 = .ok (.iload_n 1, 1) := by decide +kernel
theorem dX6_mend_1 : decode cX6_mend 1 = .ok (.invokestatic 65, 3) := by decide +kernel
theorem dX6_mend_4 : decode cX6_mend 4 = .ok (.ifCond .eq 14, 3) := by decide +kernel
theorem dX6_mend_7 : decode cX6_mend 7 = .ok (.iload_n 2, 1) := by decide +kernel
theorem dX6_mend_8 : decode cX6_mend 8 = .ok (.iconst 0, 1) := by decide +kernel
theorem dX6_mend_9 : decode cX6_mend 9 = .ok (.sipush 1000, 3) := by decide +kernel
theorem dX6_mend_12 : decode cX6_mend 12 = .ok (.invokestatic 69, 3) := by decide +kernel
theorem dX6_mend_15 : decode cX6_mend 15 = .ok (.ifCond .eq 6, 3) := by decide +kernel
theorem dX6_mend_18 : decode cX6_mend 18 = .ok (.bipush (-2), 2) := by decide +kernel
theorem dX6_mend_20 : decode cX6_mend 20 = .ok (.ireturn, 1) := by decide +kernel
theorem dX6_mend_21 : decode cX6_mend 21 = .ok (.iload_n 2, 1) := by decide +kernel
theorem dX6_mend_22 : decode cX6_mend 22 = .ok (.aload_n 0, 1) := by decide +kernel
theorem dX6_mend_23 : decode cX6_mend 23 = .ok (.getfield 12, 3) := by decide +kernel
theorem dX6_mend_26 : decode cX6_mend 26 = .ok (.getfield 133, 3) := by decide +kernel
theorem dX6_mend_29 : decode cX6_mend 29 = .ok (.iload_n 1, 1) := by decide +kernel
theorem dX6_mend_30 : decode cX6_mend 30 = .ok (.iaload, 1) := by decide +kernel
theorem dX6_mend_31 : decode cX6_mend 31 = .ok (.if_icmp .le 6, 3) := by decide +kernel
theorem dX6_mend_34 : decode cX6_mend 34 = .ok (.bipush (-3), 2) := by decide +kernel
theorem dX6_mend_36 : decode cX6_mend 36 = .ok (.ireturn, 1) := by decide +kernel
theorem dX6_mend_37 : decode cX6_mend 37 = .ok (.aload_n 0, 1) := by decide +kernel
theorem dX6_mend_38 : decode cX6_mend 38 = .ok (.getfield 12, 3) := by decide +kernel
theorem dX6_mend_41 : decode cX6_mend 41 = .ok (.getfield 133, 3) := by decide +kernel
theorem dX6_mend_44 : decode cX6_mend 44 = .ok (.iload_n 1, 1) := by decide +kernel
theorem dX6_mend_45 : decode cX6_mend 45 = .ok (.dup2, 1) := by decide +kernel
theorem dX6_mend_46 : decode cX6_mend 46 = .ok (.iaload, 1) := by decide +kernel
theorem dX6_mend_47 : decode cX6_mend 47 = .ok (.iload_n 2, 1) := by decide +kernel
theorem dX6_mend_48 : decode cX6_mend 48 = .ok (.isub, 1) := by decide +kernel
theorem dX6_mend_49 : decode cX6_mend 49 = .ok (.iastore, 1) := by decide +kernel
theorem dX6_mend_50 : decode cX6_mend 50 = .ok (.aload_n 0, 1) := by decide +kernel
theorem dX6_mend_51 : decode cX6_mend 51 = .ok (.getfield 12, 3) := by decide +kernel
theorem dX6_mend_54 : decode cX6_mend 54 = .ok (.getfield 133, 3) := by decide +kernel
theorem dX6_mend_57 : decode cX6_mend 57 = .ok (.iload_n 1, 1) := by decide +kernel
theorem dX6_mend_58 : decode cX6_mend 58 = .ok (.iaload, 1) := by decide +kernel
theorem dX6_mend_59 : decode cX6_mend 59 = .ok (.ireturn, 1) := by decide +kernel
theorem dX6_about_0 : decode cX6_about 0 = .ok (.aload_n 0, 1) := by decide +kernel
theorem dX6_about_1 : decode cX6_about 1 = .ok (.getfield 19, 3) := by decide +kernel
theorem dX6_about_4 : decode cX6_about 4 = .ok (.iload_n 1, 1) := by decide +kernel
theorem dX6_about_5 : decode cX6_about 5 = .ok (.invokevirtual 93, 3) := by decide +kernel
theorem dX6_about_8 : decode cX6_about 8 = .ok (.ifCond .eq 13, 3) := by decide +kernel
theorem dX6_about_11 : decode cX6_about 11 = .ok (.iload_n 2, 1) := by decide +kernel
theorem dX6_about_12 : decode cX6_about 12 = .ok (.iconst 0, 1) := by decide +kernel
theorem dX6_about_13 : decode cX6_about 13 = .ok (.bipush 6, 2) := by decide +kernel
theorem dX6_about_15 : decode cX6_about 15 = .ok (.invokestatic 69, 3) := by decide +kernel
theorem dX6_about_18 : decode cX6_about 18 = .ok (.ifCond .eq 6, 3) := by decide +kernel
theorem dX6_about_21 : decode cX6_about 21 = .ok (.bipush (-2), 2) := by decide +kernel
theorem dX6_about_23 : decode cX6_about 23 = .ok (.ireturn, 1) := by decide +kernel
theorem dX6_about_24 : decode cX6_about 24 = .ok (.aload_n 0, 1) := by decide +kernel
theorem dX6_about_25 : decode cX6_about 25 = .ok (.getfield 19, 3) := by decide +kernel
theorem dX6_about_28 : decode cX6_about 28 = .ok (.iload_n 1, 1) := by decide +kernel
theorem dX6_about_29 : decode cX6_about 29 = .ok (.iload_n 2, 1) := by decide +kernel
theorem dX6_about_30 : decode cX6_about 30 = .ok (.invokevirtual 136, 3) := by decide +kernel
theorem dX6_about_33 : decode cX6_about 33 = .ok (.ireturn, 1) := by decide +kernel
theorem dX6_lack_0 : decode cX6_lack 0 = .ok (.iload_n 1, 1) := by decide +kernel
theorem dX6_lack_1 : decode cX6_lack 1 = .ok (.invokestatic 65, 3) := by decide +kernel
theorem dX6_lack_4 : decode cX6_lack 4 = .ok (.ifCond .eq 13, 3) := by decide +kernel
theorem dX6_lack_7 : decode cX6_lack 7 = .ok (.iload_n 2, 1) := by decide +kernel
theorem dX6_lack_8 : decode cX6_lack 8 = .ok (.iconst 0, 1) := by decide +kernel
theorem dX6_lack_9 : decode cX6_lack 9 = .ok (.bipush 65, 2) := by decide +kernel
theorem dX6_lack_11 : decode cX6_lack 11 = .ok (.invokestatic 69, 3) := by decide +kernel
theorem dX6_lack_14 : decode cX6_lack 14 = .ok (.ifCond .eq 6, 3) := by decide +kernel
theorem dX6_lack_17 : decode cX6_lack 17 = .ok (.bipush (-2), 2) := by decide +kernel
theorem dX6_lack_19 : decode cX6_lack 19 = .ok (.ireturn, 1) := by decide +kernel
theorem dX6_lack_20 : decode cX6_lack 20 = .ok (.aload_n 0, 1) := by decide +kernel
theorem dX6_lack_21 : decode cX6_lack 21 = .ok (.aload_n 0, 1) := by decide +kernel
theorem dX6_lack_22 : decode cX6_lack 22 = .ok (.getfield 19, 3) := by decide +kernel
theorem dX6_lack_25 : decode cX6_lack 25 = .ok (.iconst 1, 1) := by decide +kernel
theorem dX6_lack_26 : decode cX6_lack 26 = .ok (.invokevirtual 110, 3) := by decide +kernel
theorem dX6_lack_29 : decode cX6_lack 29 = .ok (.invokevirtual 117, 3) := by decide +kernel
theorem dX6_lack_32 : decode cX6_lack 32 = .ok (.iconst 0, 1) := by decide +kernel
theorem dX6_lack_33 : decode cX6_lack 33 = .ok (.aload_n 0, 1) := by decide +kernel
theorem dX6_lack_34 : decode cX6_lack 34 = .ok (.getfield 33, 3) := by decide +kernel
theorem dX6_lack_37 : decode cX6_lack 37 = .ok (.getfield 138, 3) := by decide +kernel
theorem dX6_lack_40 : decode cX6_lack 40 = .ok (.iload_n 1, 1) := by decide +kernel
theorem dX6_lack_41 : decode cX6_lack 41 = .ok (.bipush 66, 2) := by decide +kernel
theorem dX6_lack_43 : decode cX6_lack 43 = .ok (.imul, 1) := by decide +kernel
theorem dX6_lack_44 : decode cX6_lack 44 = .ok (.iload_n 2, 1) := by decide +kernel
theorem dX6_lack_45 : decode cX6_lack 45 = .ok (.iadd, 1) := by decide +kernel
theorem dX6_lack_46 : decode cX6_lack 46 = .ok (.iaload, 1) := by decide +kernel
theorem dX6_lack_47 : decode cX6_lack 47 = .ok (.aload_n 0, 1) := by decide +kernel
theorem dX6_lack_48 : decode cX6_lack 48 = .ok (.getfield 12, 3) := by decide +kernel
theorem dX6_lack_51 : decode cX6_lack 51 = .ok (.iload_n 1, 1) := by decide +kernel
theorem dX6_lack_52 : decode cX6_lack 52 = .ok (.invokevirtual 141, 3) := by decide +kernel
theorem dX6_lack_55 : decode cX6_lack 55 = .ok (.isub, 1) := by decide +kernel
theorem dX6_lack_56 : decode cX6_lack 56 = .ok (.invokestatic 144, 3) := by decide +kernel
theorem dX6_lack_59 : decode cX6_lack 59 = .ok (.ireturn, 1) := by decide +kernel
theorem dX6_fits_0 : decode cX6_fits 0 = .ok (.aload_n 0, 1) := by decide +kernel
theorem dX6_fits_1 : decode cX6_fits 1 = .ok (.getfield 19, 3) := by decide +kernel
theorem dX6_fits_4 : decode cX6_fits 4 = .ok (.iload_n 1, 1) := by decide +kernel
theorem dX6_fits_5 : decode cX6_fits 5 = .ok (.invokevirtual 149, 3) := by decide +kernel
theorem dX6_fits_8 : decode cX6_fits 8 = .ok (.ifCond .eq 14, 3) := by decide +kernel
theorem dX6_fits_11 : decode cX6_fits 11 = .ok (.aload_n 0, 1) := by decide +kernel
theorem dX6_fits_12 : decode cX6_fits 12 = .ok (.iload_n 1, 1) := by decide +kernel
theorem dX6_fits_13 : decode cX6_fits 13 = .ok (.invokevirtual 114, 3) := by decide +kernel
theorem dX6_fits_16 : decode cX6_fits 16 = .ok (.invokestatic 125, 3) := by decide +kernel
theorem dX6_fits_19 : decode cX6_fits 19 = .ok (.goto 5, 3) := by decide +kernel
theorem dX6_fits_22 : decode cX6_fits 22 = .ok (.bipush (-2), 2) := by decide +kernel
theorem dX6_fits_24 : decode cX6_fits 24 = .ok (.ireturn, 1) := by decide +kernel
theorem dX6_best_0 : decode cX6_best 0 = .ok (.aload_n 0, 1) := by decide +kernel
theorem dX6_best_1 : decode cX6_best 1 = .ok (.getfield 19, 3) := by decide +kernel
theorem dX6_best_4 : decode cX6_best 4 = .ok (.iconst 1, 1) := by decide +kernel
theorem dX6_best_5 : decode cX6_best 5 = .ok (.invokevirtual 110, 3) := by decide +kernel
theorem dX6_best_8 : decode cX6_best 8 = .ok (.istore_n 1, 1) := by decide +kernel
theorem dX6_best_9 : decode cX6_best 9 = .ok (.aload_n 0, 1) := by decide +kernel
theorem dX6_best_10 : decode cX6_best 10 = .ok (.getfield 19, 3) := by decide +kernel
theorem dX6_best_13 : decode cX6_best 13 = .ok (.iconst 0, 1) := by decide +kernel
theorem dX6_best_14 : decode cX6_best 14 = .ok (.invokevirtual 110, 3) := by decide +kernel
theorem dX6_best_17 : decode cX6_best 17 = .ok (.istore_n 2, 1) := by decide +kernel
theorem dX6_best_18 : decode cX6_best 18 = .ok (.aload_n 0, 1) := by decide +kernel
theorem dX6_best_19 : decode cX6_best 19 = .ok (.iload_n 1, 1) := by decide +kernel
theorem dX6_best_20 : decode cX6_best 20 = .ok (.invokevirtual 114, 3) := by decide +kernel
theorem dX6_best_23 : decode cX6_best 23 = .ok (.ifCond .ne 6, 3) := by decide +kernel
theorem dX6_best_26 : decode cX6_best 26 = .ok (.bipush (-3), 2) := by decide +kernel
theorem dX6_best_28 : decode cX6_best 28 = .ok (.ireturn, 1) := by decide +kernel
theorem dX6_best_29 : decode cX6_best 29 = .ok (.iconst 0, 1) := by decide +kernel
theorem dX6_best_30 : decode cX6_best 30 = .ok (.istore_n 3, 1) := by decide +kernel
theorem dX6_best_31 : decode cX6_best 31 = .ok (.iconst 0, 1) := by decide +kernel
theorem dX6_best_32 : decode cX6_best 32 = .ok (.istore 4, 2) := by decide +kernel
theorem dX6_best_34 : decode cX6_best 34 = .ok (.iconst 1, 1) := by decide +kernel
theorem dX6_best_35 : decode cX6_best 35 = .ok (.istore 5, 2) := by decide +kernel
theorem dX6_best_37 : decode cX6_best 37 = .ok (.iload 5, 2) := by decide +kernel
theorem dX6_best_39 : decode cX6_best 39 = .ok (.iload_n 2, 1) := by decide +kernel
theorem dX6_best_40 : decode cX6_best 40 = .ok (.if_icmp .gt 64, 3) := by decide +kernel
theorem dX6_best_43 : decode cX6_best 43 = .ok (.aload_n 0, 1) := by decide +kernel
theorem dX6_best_44 : decode cX6_best 44 = .ok (.getfield 19, 3) := by decide +kernel
theorem dX6_best_47 : decode cX6_best 47 = .ok (.iload 5, 2) := by decide +kernel
theorem dX6_best_49 : decode cX6_best 49 = .ok (.invokevirtual 152, 3) := by decide +kernel
theorem dX6_best_52 : decode cX6_best 52 = .ok (.istore 6, 2) := by decide +kernel
theorem dX6_best_54 : decode cX6_best 54 = .ok (.iload 5, 2) := by decide +kernel
theorem dX6_best_56 : decode cX6_best 56 = .ok (.iload_n 2, 1) := by decide +kernel
theorem dX6_best_57 : decode cX6_best 57 = .ok (.iconst (-1), 1) := by decide +kernel
theorem dX6_best_58 : decode cX6_best 58 = .ok (.ixor, 1) := by decide +kernel
theorem dX6_best_59 : decode cX6_best 59 = .ok (.iand, 1) := by decide +kernel
theorem dX6_best_60 : decode cX6_best 60 = .ok (.ifCond .ne 38, 3) := by decide +kernel
theorem dX6_best_63 : decode cX6_best 63 = .ok (.iload 6, 2) := by decide +kernel
theorem dX6_best_65 : decode cX6_best 65 = .ok (.iload 4, 2) := by decide +kernel
theorem dX6_best_67 : decode cX6_best 67 = .ok (.if_icmp .gt 6, 3) := by decide +kernel
theorem dX6_best_70 : decode cX6_best 70 = .ok (.goto 28, 3) := by decide +kernel
theorem dX6_best_73 : decode cX6_best 73 = .ok (.aload_n 0, 1) := by decide +kernel
theorem dX6_best_74 : decode cX6_best 74 = .ok (.iload_n 1, 1) := by decide +kernel
theorem dX6_best_75 : decode cX6_best 75 = .ok (.iload 5, 2) := by decide +kernel
theorem dX6_best_77 : decode cX6_best 77 = .ok (.ior, 1) := by decide +kernel
theorem dX6_best_78 : decode cX6_best 78 = .ok (.invokevirtual 155, 3) := by decide +kernel
theorem dX6_best_81 : decode cX6_best 81 = .ok (.aload_n 0, 1) := by decide +kernel
theorem dX6_best_82 : decode cX6_best 82 = .ok (.getfield 33, 3) := by decide +kernel
theorem dX6_best_85 : decode cX6_best 85 = .ok (.getfield 158, 3) := by decide +kernel
theorem dX6_best_88 : decode cX6_best 88 = .ok (.ifCond .ne 10, 3) := by decide +kernel
theorem dX6_best_91 : decode cX6_best 91 = .ok (.iload 5, 2) := by decide +kernel
theorem dX6_best_93 : decode cX6_best 93 = .ok (.istore_n 3, 1) := by decide +kernel
theorem dX6_best_94 : decode cX6_best 94 = .ok (.iload 6, 2) := by decide +kernel
theorem dX6_best_96 : decode cX6_best 96 = .ok (.istore 4, 2) := by decide +kernel
theorem dX6_best_98 : decode cX6_best 98 = .ok (.iinc 5 1, 3) := by decide +kernel
theorem dX6_best_101 : decode cX6_best 101 = .ok (.goto (-64), 3) := by decide +kernel
theorem dX6_best_104 : decode cX6_best 104 = .ok (.iload_n 3, 1) := by decide +kernel
theorem dX6_best_105 : decode cX6_best 105 = .ok (.ireturn, 1) := by decide +kernel
theorem dX6_dearest_0 : decode cX6_dearest 0 = .ok (.aload_n 0, 1) := by decide +kernel
theorem dX6_dearest_1 : decode cX6_dearest 1 = .ok (.getfield 19, 3) := by decide +kernel
theorem dX6_dearest_4 : decode cX6_dearest 4 = .ok (.iconst 1, 1) := by decide +kernel
theorem dX6_dearest_5 : decode cX6_dearest 5 = .ok (.invokevirtual 110, 3) := by decide +kernel
theorem dX6_dearest_8 : decode cX6_dearest 8 = .ok (.istore_n 1, 1) := by decide +kernel
theorem dX6_dearest_9 : decode cX6_dearest 9 = .ok (.aload_n 0, 1) := by decide +kernel
theorem dX6_dearest_10 : decode cX6_dearest 10 = .ok (.getfield 19, 3) := by decide +kernel
theorem dX6_dearest_13 : decode cX6_dearest 13 = .ok (.iconst 0, 1) := by decide +kernel
theorem dX6_dearest_14 : decode cX6_dearest 14 = .ok (.invokevirtual 110, 3) := by decide +kernel
theorem dX6_dearest_17 : decode cX6_dearest 17 = .ok (.istore_n 2, 1) := by decide +kernel
theorem dX6_dearest_18 : decode cX6_dearest 18 = .ok (.aload_n 0, 1) := by decide +kernel
theorem dX6_dearest_19 : decode cX6_dearest 19 = .ok (.iload_n 1, 1) := by decide +kernel
theorem dX6_dearest_20 : decode cX6_dearest 20 = .ok (.invokevirtual 117, 3) := by decide +kernel
theorem dX6_dearest_23 : decode cX6_dearest 23 = .ok (.aload_n 0, 1) := by decide +kernel
theorem dX6_dearest_24 : decode cX6_dearest 24 = .ok (.getfield 33, 3) := by decide +kernel
theorem dX6_dearest_27 : decode cX6_dearest 27 = .ok (.getfield 121, 3) := by decide +kernel
theorem dX6_dearest_30 : decode cX6_dearest 30 = .ok (.lstore_n 3, 1) := by decide +kernel
theorem dX6_dearest_31 : decode cX6_dearest 31 = .ok (.lconst 0, 1) := by decide +kernel
theorem dX6_dearest_32 : decode cX6_dearest 32 = .ok (.lstore 5, 2) := by decide +kernel
theorem dX6_dearest_34 : decode cX6_dearest 34 = .ok (.iconst 0, 1) := by decide +kernel
theorem dX6_dearest_35 : decode cX6_dearest 35 = .ok (.istore 7, 2) := by decide +kernel
theorem dX6_dearest_37 : decode cX6_dearest 37 = .ok (.iconst 1, 1) := by decide +kernel
theorem dX6_dearest_38 : decode cX6_dearest 38 = .ok (.istore 8, 2) := by decide +kernel
theorem dX6_dearest_40 : decode cX6_dearest 40 = .ok (.iload 8, 2) := by decide +kernel
theorem dX6_dearest_42 : decode cX6_dearest 42 = .ok (.iload_n 2, 1) := by decide +kernel
theorem dX6_dearest_43 : decode cX6_dearest 43 = .ok (.if_icmp .gt 80, 3) := by decide +kernel
theorem dX6_dearest_46 : decode cX6_dearest 46 = .ok (.aload_n 0, 1) := by decide +kernel
theorem dX6_dearest_47 : decode cX6_dearest 47 = .ok (.getfield 19, 3) := by decide +kernel
theorem dX6_dearest_50 : decode cX6_dearest 50 = .ok (.iload 8, 2) := by decide +kernel
theorem dX6_dearest_52 : decode cX6_dearest 52 = .ok (.invokevirtual 152, 3) := by decide +kernel
theorem dX6_dearest_55 : decode cX6_dearest 55 = .ok (.istore 9, 2) := by decide +kernel
theorem dX6_dearest_57 : decode cX6_dearest 57 = .ok (.iload 8, 2) := by decide +kernel
theorem dX6_dearest_59 : decode cX6_dearest 59 = .ok (.iload_n 2, 1) := by decide +kernel
theorem dX6_dearest_60 : decode cX6_dearest 60 = .ok (.iconst (-1), 1) := by decide +kernel
theorem dX6_dearest_61 : decode cX6_dearest 61 = .ok (.ixor, 1) := by decide +kernel
theorem dX6_dearest_62 : decode cX6_dearest 62 = .ok (.iand, 1) := by decide +kernel
theorem dX6_dearest_63 : decode cX6_dearest 63 = .ok (.ifCond .ne 54, 3) := by decide +kernel
theorem dX6_dearest_66 : decode cX6_dearest 66 = .ok (.iload 9, 2) := by decide +kernel
theorem dX6_dearest_68 : decode cX6_dearest 68 = .ok (.i2l, 1) := by decide +kernel
theorem dX6_dearest_69 : decode cX6_dearest 69 = .ok (.lload 5, 2) := by decide +kernel
theorem dX6_dearest_71 : decode cX6_dearest 71 = .ok (.lcmp, 1) := by decide +kernel
theorem dX6_dearest_72 : decode cX6_dearest 72 = .ok (.ifCond .gt 6, 3) := by decide +kernel
theorem dX6_dearest_75 : decode cX6_dearest 75 = .ok (.goto 42, 3) := by decide +kernel
theorem dX6_dearest_78 : decode cX6_dearest 78 = .ok (.aload_n 0, 1) := by decide +kernel
theorem dX6_dearest_79 : decode cX6_dearest 79 = .ok (.iload_n 1, 1) := by decide +kernel
theorem dX6_dearest_80 : decode cX6_dearest 80 = .ok (.iload 8, 2) := by decide +kernel
theorem dX6_dearest_82 : decode cX6_dearest 82 = .ok (.ior, 1) := by decide +kernel
theorem dX6_dearest_83 : decode cX6_dearest 83 = .ok (.invokevirtual 155, 3) := by decide +kernel
theorem dX6_dearest_86 : decode cX6_dearest 86 = .ok (.iload 9, 2) := by decide +kernel
theorem dX6_dearest_88 : decode cX6_dearest 88 = .ok (.i2l, 1) := by decide +kernel
theorem dX6_dearest_89 : decode cX6_dearest 89 = .ok (.aload_n 0, 1) := by decide +kernel
theorem dX6_dearest_90 : decode cX6_dearest 90 = .ok (.getfield 33, 3) := by decide +kernel
theorem dX6_dearest_93 : decode cX6_dearest 93 = .ok (.getfield 121, 3) := by decide +kernel
theorem dX6_dearest_96 : decode cX6_dearest 96 = .ok (.lload_n 3, 1) := by decide +kernel
theorem dX6_dearest_97 : decode cX6_dearest 97 = .ok (.lsub, 1) := by decide +kernel
theorem dX6_dearest_98 : decode cX6_dearest 98 = .ok (.lsub, 1) := by decide +kernel
theorem dX6_dearest_99 : decode cX6_dearest 99 = .ok (.lstore 10, 2) := by decide +kernel
theorem dX6_dearest_101 : decode cX6_dearest 101 = .ok (.lload 10, 2) := by decide +kernel
theorem dX6_dearest_103 : decode cX6_dearest 103 = .ok (.lload 5, 2) := by decide +kernel
theorem dX6_dearest_105 : decode cX6_dearest 105 = .ok (.lcmp, 1) := by decide +kernel
theorem dX6_dearest_106 : decode cX6_dearest 106 = .ok (.ifCond .le 11, 3) := by decide +kernel
theorem dX6_dearest_109 : decode cX6_dearest 109 = .ok (.iload 8, 2) := by decide +kernel
theorem dX6_dearest_111 : decode cX6_dearest 111 = .ok (.istore 7, 2) := by decide +kernel
theorem dX6_dearest_113 : decode cX6_dearest 113 = .ok (.lload 10, 2) := by decide +kernel
theorem dX6_dearest_115 : decode cX6_dearest 115 = .ok (.lstore 5, 2) := by decide +kernel
theorem dX6_dearest_117 : decode cX6_dearest 117 = .ok (.iinc 8 1, 3) := by decide +kernel
theorem dX6_dearest_120 : decode cX6_dearest 120 = .ok (.goto (-80), 3) := by decide +kernel
theorem dX6_dearest_123 : decode cX6_dearest 123 = .ok (.iload 7, 2) := by decide +kernel
theorem dX6_dearest_125 : decode cX6_dearest 125 = .ok (.ireturn, 1) := by decide +kernel
theorem dX6_hired_0 : decode cX6_hired 0 = .ok (.aload_n 0, 1) := by decide +kernel
theorem dX6_hired_1 : decode cX6_hired 1 = .ok (.getfield 19, 3) := by decide +kernel
theorem dX6_hired_4 : decode cX6_hired 4 = .ok (.iload_n 1, 1) := by decide +kernel
theorem dX6_hired_5 : decode cX6_hired 5 = .ok (.invokevirtual 149, 3) := by decide +kernel
theorem dX6_hired_8 : decode cX6_hired 8 = .ok (.ifCond .ne 7, 3) := by decide +kernel
theorem dX6_hired_11 : decode cX6_hired 11 = .ok (.ldc2_w 161, 3) := by decide +kernel
theorem dX6_hired_14 : decode cX6_hired 14 = .ok (.lreturn, 1) := by decide +kernel
theorem dX6_hired_15 : decode cX6_hired 15 = .ok (.aload_n 0, 1) := by decide +kernel
theorem dX6_hired_16 : decode cX6_hired 16 = .ok (.iload_n 1, 1) := by decide +kernel
theorem dX6_hired_17 : decode cX6_hired 17 = .ok (.invokevirtual 117, 3) := by decide +kernel
theorem dX6_hired_20 : decode cX6_hired 20 = .ok (.aload_n 0, 1) := by decide +kernel
theorem dX6_hired_21 : decode cX6_hired 21 = .ok (.getfield 33, 3) := by decide +kernel
theorem dX6_hired_24 : decode cX6_hired 24 = .ok (.getfield 121, 3) := by decide +kernel
theorem dX6_hired_27 : decode cX6_hired 27 = .ok (.lreturn, 1) := by decide +kernel
theorem dX6_fewest_0 : decode cX6_fewest 0 = .ok (.aload_n 0, 1) := by decide +kernel
theorem dX6_fewest_1 : decode cX6_fewest 1 = .ok (.getfield 19, 3) := by decide +kernel
theorem dX6_fewest_4 : decode cX6_fewest 4 = .ok (.iconst 1, 1) := by decide +kernel
theorem dX6_fewest_5 : decode cX6_fewest 5 = .ok (.invokevirtual 110, 3) := by decide +kernel
theorem dX6_fewest_8 : decode cX6_fewest 8 = .ok (.istore_n 1, 1) := by decide +kernel
theorem dX6_fewest_9 : decode cX6_fewest 9 = .ok (.aload_n 0, 1) := by decide +kernel
theorem dX6_fewest_10 : decode cX6_fewest 10 = .ok (.iload_n 1, 1) := by decide +kernel
theorem dX6_fewest_11 : decode cX6_fewest 11 = .ok (.invokevirtual 114, 3) := by decide +kernel
theorem dX6_fewest_14 : decode cX6_fewest 14 = .ok (.ifCond .eq 5, 3) := by decide +kernel
theorem dX6_fewest_17 : decode cX6_fewest 17 = .ok (.iconst 0, 1) := by decide +kernel
theorem dX6_fewest_18 : decode cX6_fewest 18 = .ok (.ireturn, 1) := by decide +kernel
theorem dX6_fewest_19 : decode cX6_fewest 19 = .ok (.iload_n 1, 1) := by decide +kernel
theorem dX6_fewest_20 : decode cX6_fewest 20 = .ok (.istore_n 2, 1) := by decide +kernel
theorem dX6_fewest_21 : decode cX6_fewest 21 = .ok (.iload_n 1, 1) := by decide +kernel
theorem dX6_fewest_22 : decode cX6_fewest 22 = .ok (.invokestatic 163, 3) := by decide +kernel
theorem dX6_fewest_25 : decode cX6_fewest 25 = .ok (.istore_n 3, 1) := by decide +kernel
theorem dX6_fewest_26 : decode cX6_fewest 26 = .ok (.aload_n 0, 1) := by decide +kernel
theorem dX6_fewest_27 : decode cX6_fewest 27 = .ok (.getfield 19, 3) := by decide +kernel
theorem dX6_fewest_30 : decode cX6_fewest 30 = .ok (.iload_n 1, 1) := by decide +kernel
theorem dX6_fewest_31 : decode cX6_fewest 31 = .ok (.invokevirtual 152, 3) := by decide +kernel
theorem dX6_fewest_34 : decode cX6_fewest 34 = .ok (.istore 4, 2) := by decide +kernel
theorem dX6_fewest_36 : decode cX6_fewest 36 = .ok (.iconst 1, 1) := by decide +kernel
theorem dX6_fewest_37 : decode cX6_fewest 37 = .ok (.istore 5, 2) := by decide +kernel
theorem dX6_fewest_39 : decode cX6_fewest 39 = .ok (.iload 5, 2) := by decide +kernel
theorem dX6_fewest_41 : decode cX6_fewest 41 = .ok (.iload_n 1, 1) := by decide +kernel
theorem dX6_fewest_42 : decode cX6_fewest 42 = .ok (.if_icmp .ge 88, 3) := by decide +kernel
theorem dX6_fewest_45 : decode cX6_fewest 45 = .ok (.iload 5, 2) := by decide +kernel
theorem dX6_fewest_47 : decode cX6_fewest 47 = .ok (.invokestatic 163, 3) := by decide +kernel
theorem dX6_fewest_50 : decode cX6_fewest 50 = .ok (.istore 6, 2) := by decide +kernel
theorem dX6_fewest_52 : decode cX6_fewest 52 = .ok (.aload_n 0, 1) := by decide +kernel
theorem dX6_fewest_53 : decode cX6_fewest 53 = .ok (.getfield 19, 3) := by decide +kernel
theorem dX6_fewest_56 : decode cX6_fewest 56 = .ok (.iload 5, 2) := by decide +kernel
theorem dX6_fewest_58 : decode cX6_fewest 58 = .ok (.invokevirtual 152, 3) := by decide +kernel
theorem dX6_fewest_61 : decode cX6_fewest 61 = .ok (.istore 7, 2) := by decide +kernel
theorem dX6_fewest_63 : decode cX6_fewest 63 = .ok (.iload 5, 2) := by decide +kernel
theorem dX6_fewest_65 : decode cX6_fewest 65 = .ok (.iload_n 1, 1) := by decide +kernel
theorem dX6_fewest_66 : decode cX6_fewest 66 = .ok (.iconst (-1), 1) := by decide +kernel
theorem dX6_fewest_67 : decode cX6_fewest 67 = .ok (.ixor, 1) := by decide +kernel
theorem dX6_fewest_68 : decode cX6_fewest 68 = .ok (.iand, 1) := by decide +kernel
theorem dX6_fewest_69 : decode cX6_fewest 69 = .ok (.ifCond .ne 55, 3) := by decide +kernel
theorem dX6_fewest_72 : decode cX6_fewest 72 = .ok (.iload 6, 2) := by decide +kernel
theorem dX6_fewest_74 : decode cX6_fewest 74 = .ok (.iload_n 3, 1) := by decide +kernel
theorem dX6_fewest_75 : decode cX6_fewest 75 = .ok (.if_icmp .gt 49, 3) := by decide +kernel
theorem dX6_fewest_78 : decode cX6_fewest 78 = .ok (.iload 6, 2) := by decide +kernel
theorem dX6_fewest_80 : decode cX6_fewest 80 = .ok (.iload_n 3, 1) := by decide +kernel
theorem dX6_fewest_81 : decode cX6_fewest 81 = .ok (.if_icmp .ne 13, 3) := by decide +kernel
theorem dX6_fewest_84 : decode cX6_fewest 84 = .ok (.iload 7, 2) := by decide +kernel
theorem dX6_fewest_86 : decode cX6_fewest 86 = .ok (.iload 4, 2) := by decide +kernel
theorem dX6_fewest_88 : decode cX6_fewest 88 = .ok (.if_icmp .lt 6, 3) := by decide +kernel
theorem dX6_fewest_91 : decode cX6_fewest 91 = .ok (.goto 33, 3) := by decide +kernel
theorem dX6_fewest_94 : decode cX6_fewest 94 = .ok (.aload_n 0, 1) := by decide +kernel
theorem dX6_fewest_95 : decode cX6_fewest 95 = .ok (.iload_n 1, 1) := by decide +kernel
theorem dX6_fewest_96 : decode cX6_fewest 96 = .ok (.iload 5, 2) := by decide +kernel
theorem dX6_fewest_98 : decode cX6_fewest 98 = .ok (.iconst (-1), 1) := by decide +kernel
theorem dX6_fewest_99 : decode cX6_fewest 99 = .ok (.ixor, 1) := by decide +kernel
theorem dX6_fewest_100 : decode cX6_fewest 100 = .ok (.iand, 1) := by decide +kernel
theorem dX6_fewest_101 : decode cX6_fewest 101 = .ok (.invokevirtual 155, 3) := by decide +kernel
theorem dX6_fewest_104 : decode cX6_fewest 104 = .ok (.aload_n 0, 1) := by decide +kernel
theorem dX6_fewest_105 : decode cX6_fewest 105 = .ok (.getfield 33, 3) := by decide +kernel
theorem dX6_fewest_108 : decode cX6_fewest 108 = .ok (.getfield 158, 3) := by decide +kernel
theorem dX6_fewest_111 : decode cX6_fewest 111 = .ok (.ifCond .ne 13, 3) := by decide +kernel
theorem dX6_fewest_114 : decode cX6_fewest 114 = .ok (.iload 5, 2) := by decide +kernel
theorem dX6_fewest_116 : decode cX6_fewest 116 = .ok (.istore_n 2, 1) := by decide +kernel
theorem dX6_fewest_117 : decode cX6_fewest 117 = .ok (.iload 6, 2) := by decide +kernel
theorem dX6_fewest_119 : decode cX6_fewest 119 = .ok (.istore_n 3, 1) := by decide +kernel
theorem dX6_fewest_120 : decode cX6_fewest 120 = .ok (.iload 7, 2) := by decide +kernel
theorem dX6_fewest_122 : decode cX6_fewest 122 = .ok (.istore 4, 2) := by decide +kernel
theorem dX6_fewest_124 : decode cX6_fewest 124 = .ok (.iinc 5 1, 3) := by decide +kernel
theorem dX6_fewest_127 : decode cX6_fewest 127 = .ok (.goto (-88), 3) := by decide +kernel
theorem dX6_fewest_130 : decode cX6_fewest 130 = .ok (.iload_n 2, 1) := by decide +kernel
theorem dX6_fewest_131 : decode cX6_fewest 131 = .ok (.ireturn, 1) := by decide +kernel
theorem dX6_bays_0 : decode cX6_bays 0 = .ok (.iload_n 1, 1) := by decide +kernel
theorem dX6_bays_1 : decode cX6_bays 1 = .ok (.iconst 1, 1) := by decide +kernel
theorem dX6_bays_2 : decode cX6_bays 2 = .ok (.sipush 5000, 3) := by decide +kernel
theorem dX6_bays_5 : decode cX6_bays 5 = .ok (.invokestatic 69, 3) := by decide +kernel
theorem dX6_bays_8 : decode cX6_bays 8 = .ok (.ifCond .ne 13, 3) := by decide +kernel
theorem dX6_bays_11 : decode cX6_bays 11 = .ok (.iload_n 2, 1) := by decide +kernel
theorem dX6_bays_12 : decode cX6_bays 12 = .ok (.iconst 4, 1) := by decide +kernel
theorem dX6_bays_13 : decode cX6_bays 13 = .ok (.bipush 60, 2) := by decide +kernel
theorem dX6_bays_15 : decode cX6_bays 15 = .ok (.invokestatic 69, 3) := by decide +kernel
theorem dX6_bays_18 : decode cX6_bays 18 = .ok (.ifCond .eq 6, 3) := by decide +kernel
theorem dX6_bays_21 : decode cX6_bays 21 = .ok (.bipush (-2), 2) := by decide +kernel
theorem dX6_bays_23 : decode cX6_bays 23 = .ok (.ireturn, 1) := by decide +kernel
theorem dX6_bays_24 : decode cX6_bays 24 = .ok (.iload_n 1, 1) := by decide +kernel
theorem dX6_bays_25 : decode cX6_bays 25 = .ok (.iload_n 2, 1) := by decide +kernel
theorem dX6_bays_26 : decode cX6_bays 26 = .ok (.invokestatic 168, 3) := by decide +kernel
theorem dX6_bays_29 : decode cX6_bays 29 = .ok (.ireturn, 1) := by decide +kernel
theorem dX6_law_0 : decode cX6_law 0 = .ok (.iload_n 1, 1) := by decide +kernel
theorem dX6_law_1 : decode cX6_law 1 = .ok (.iconst 1, 1) := by decide +kernel
theorem dX6_law_2 : decode cX6_law 2 = .ok (.sipush 5000, 3) := by decide +kernel
theorem dX6_law_5 : decode cX6_law 5 = .ok (.invokestatic 69, 3) := by decide +kernel
theorem dX6_law_8 : decode cX6_law 8 = .ok (.ifCond .ne 14, 3) := by decide +kernel
theorem dX6_law_11 : decode cX6_law 11 = .ok (.iload_n 2, 1) := by decide +kernel
theorem dX6_law_12 : decode cX6_law 12 = .ok (.iconst 1, 1) := by decide +kernel
theorem dX6_law_13 : decode cX6_law 13 = .ok (.sipush 200, 3) := by decide +kernel
theorem dX6_law_16 : decode cX6_law 16 = .ok (.invokestatic 69, 3) := by decide +kernel
theorem dX6_law_19 : decode cX6_law 19 = .ok (.ifCond .eq 6, 3) := by decide +kernel
theorem dX6_law_22 : decode cX6_law 22 = .ok (.bipush (-2), 2) := by decide +kernel
theorem dX6_law_24 : decode cX6_law 24 = .ok (.ireturn, 1) := by decide +kernel
theorem dX6_law_25 : decode cX6_law 25 = .ok (.aload_n 0, 1) := by decide +kernel
theorem dX6_law_26 : decode cX6_law 26 = .ok (.getfield 40, 3) := by decide +kernel
theorem dX6_law_29 : decode cX6_law 29 = .ok (.iload_n 1, 1) := by decide +kernel
theorem dX6_law_30 : decode cX6_law 30 = .ok (.iload_n 2, 1) := by decide +kernel
theorem dX6_law_31 : decode cX6_law 31 = .ok (.invokevirtual 171, 3) := by decide +kernel
theorem dX6_law_34 : decode cX6_law 34 = .ok (.ireturn, 1) := by decide +kernel
theorem dX6_unlaw_0 : decode cX6_unlaw 0 = .ok (.aload_n 0, 1) := by decide +kernel
theorem dX6_unlaw_1 : decode cX6_unlaw 1 = .ok (.getfield 40, 3) := by decide +kernel
theorem dX6_unlaw_4 : decode cX6_unlaw 4 = .ok (.getfield 174, 3) := by decide +kernel
theorem dX6_unlaw_7 : decode cX6_unlaw 7 = .ok (.istore_n 1, 1) := by decide +kernel
theorem dX6_unlaw_8 : decode cX6_unlaw 8 = .ok (.aload_n 0, 1) := by decide +kernel
theorem dX6_unlaw_9 : decode cX6_unlaw 9 = .ok (.getfield 40, 3) := by decide +kernel
theorem dX6_unlaw_12 : decode cX6_unlaw 12 = .ok (.iconst 0, 1) := by decide +kernel
theorem dX6_unlaw_13 : decode cX6_unlaw 13 = .ok (.putfield 174, 3) := by decide +kernel
theorem dX6_unlaw_16 : decode cX6_unlaw 16 = .ok (.iload_n 1, 1) := by decide +kernel
theorem dX6_unlaw_17 : decode cX6_unlaw 17 = .ok (.ireturn, 1) := by decide +kernel
theorem dX6_doors_0 : decode cX6_doors 0 = .ok (.iload_n 1, 1) := by decide +kernel
theorem dX6_doors_1 : decode cX6_doors 1 = .ok (.iconst 1, 1) := by decide +kernel
theorem dX6_doors_2 : decode cX6_doors 2 = .ok (.sipush 5000, 3) := by decide +kernel
theorem dX6_doors_5 : decode cX6_doors 5 = .ok (.invokestatic 69, 3) := by decide +kernel
theorem dX6_doors_8 : decode cX6_doors 8 = .ok (.ifCond .eq 8, 3) := by decide +kernel
theorem dX6_doors_11 : decode cX6_doors 11 = .ok (.bipush (-2), 2) := by decide +kernel
theorem dX6_doors_13 : decode cX6_doors 13 = .ok (.goto 11, 3) := by decide +kernel
theorem dX6_doors_16 : decode cX6_doors 16 = .ok (.aload_n 0, 1) := by decide +kernel
theorem dX6_doors_17 : decode cX6_doors 17 = .ok (.getfield 40, 3) := by decide +kernel
theorem dX6_doors_20 : decode cX6_doors 20 = .ok (.iload_n 1, 1) := by decide +kernel
theorem dX6_doors_21 : decode cX6_doors 21 = .ok (.invokevirtual 177, 3) := by decide +kernel
theorem dX6_doors_24 : decode cX6_doors 24 = .ok (.ireturn, 1) := by decide +kernel
theorem dX6_keeps_0 : decode cX6_keeps 0 = .ok (.iload_n 1, 1) := by decide +kernel
theorem dX6_keeps_1 : decode cX6_keeps 1 = .ok (.iconst 1, 1) := by decide +kernel
theorem dX6_keeps_2 : decode cX6_keeps 2 = .ok (.sipush 5000, 3) := by decide +kernel
theorem dX6_keeps_5 : decode cX6_keeps 5 = .ok (.invokestatic 69, 3) := by decide +kernel
theorem dX6_keeps_8 : decode cX6_keeps 8 = .ok (.ifCond .ne 14, 3) := by decide +kernel
theorem dX6_keeps_11 : decode cX6_keeps 11 = .ok (.iload_n 2, 1) := by decide +kernel
theorem dX6_keeps_12 : decode cX6_keeps 12 = .ok (.iconst 1, 1) := by decide +kernel
theorem dX6_keeps_13 : decode cX6_keeps 13 = .ok (.sipush 2000, 3) := by decide +kernel
theorem dX6_keeps_16 : decode cX6_keeps 16 = .ok (.invokestatic 69, 3) := by decide +kernel
theorem dX6_keeps_19 : decode cX6_keeps 19 = .ok (.ifCond .eq 6, 3) := by decide +kernel
theorem dX6_keeps_22 : decode cX6_keeps 22 = .ok (.bipush (-2), 2) := by decide +kernel
theorem dX6_keeps_24 : decode cX6_keeps 24 = .ok (.ireturn, 1) := by decide +kernel
theorem dX6_keeps_25 : decode cX6_keeps 25 = .ok (.aload_n 0, 1) := by decide +kernel
theorem dX6_keeps_26 : decode cX6_keeps 26 = .ok (.getfield 40, 3) := by decide +kernel
theorem dX6_keeps_29 : decode cX6_keeps 29 = .ok (.iload_n 1, 1) := by decide +kernel
theorem dX6_keeps_30 : decode cX6_keeps 30 = .ok (.invokevirtual 177, 3) := by decide +kernel
theorem dX6_keeps_33 : decode cX6_keeps 33 = .ok (.iconst 2, 1) := by decide +kernel
theorem dX6_keeps_34 : decode cX6_keeps 34 = .ok (.iload_n 2, 1) := by decide +kernel
theorem dX6_keeps_35 : decode cX6_keeps 35 = .ok (.imul, 1) := by decide +kernel
theorem dX6_keeps_36 : decode cX6_keeps 36 = .ok (.iconst 2, 1) := by decide +kernel
theorem dX6_keeps_37 : decode cX6_keeps 37 = .ok (.iadd, 1) := by decide +kernel
theorem dX6_keeps_38 : decode cX6_keeps 38 = .ok (.if_icmp .gt 7, 3) := by decide +kernel
theorem dX6_keeps_41 : decode cX6_keeps 41 = .ok (.iconst 1, 1) := by decide +kernel
theorem dX6_keeps_42 : decode cX6_keeps 42 = .ok (.goto 4, 3) := by decide +kernel
theorem dX6_keeps_45 : decode cX6_keeps 45 = .ok (.iconst 0, 1) := by decide +kernel
theorem dX6_keeps_46 : decode cX6_keeps 46 = .ok (.invokestatic 125, 3) := by decide +kernel
theorem dX6_keeps_49 : decode cX6_keeps 49 = .ok (.ireturn, 1) := by decide +kernel
theorem dX6_soil_0 : decode cX6_soil 0 = .ok (.iload_n 1, 1) := by decide +kernel
theorem dX6_soil_1 : decode cX6_soil 1 = .ok (.iconst 0, 1) := by decide +kernel
theorem dX6_soil_2 : decode cX6_soil 2 = .ok (.iconst 3, 1) := by decide +kernel
theorem dX6_soil_3 : decode cX6_soil 3 = .ok (.invokestatic 69, 3) := by decide +kernel
theorem dX6_soil_6 : decode cX6_soil 6 = .ok (.ifCond .ne 14, 3) := by decide +kernel
theorem dX6_soil_9 : decode cX6_soil 9 = .ok (.iload_n 2, 1) := by decide +kernel
theorem dX6_soil_10 : decode cX6_soil 10 = .ok (.iconst 1, 1) := by decide +kernel
theorem dX6_soil_11 : decode cX6_soil 11 = .ok (.sipush 1000, 3) := by decide +kernel
theorem dX6_soil_14 : decode cX6_soil 14 = .ok (.invokestatic 69, 3) := by decide +kernel
theorem dX6_soil_17 : decode cX6_soil 17 = .ok (.ifCond .eq 6, 3) := by decide +kernel
theorem dX6_soil_20 : decode cX6_soil 20 = .ok (.bipush (-2), 2) := by decide +kernel
theorem dX6_soil_22 : decode cX6_soil 22 = .ok (.ireturn, 1) := by decide +kernel
theorem dX6_soil_23 : decode cX6_soil 23 = .ok (.aload_n 0, 1) := by decide +kernel
theorem dX6_soil_24 : decode cX6_soil 24 = .ok (.getfield 51, 3) := by decide +kernel
theorem dX6_soil_27 : decode cX6_soil 27 = .ok (.iload_n 1, 1) := by decide +kernel
theorem dX6_soil_28 : decode cX6_soil 28 = .ok (.iaload, 1) := by decide +kernel
theorem dX6_soil_29 : decode cX6_soil 29 = .ok (.istore_n 3, 1) := by decide +kernel
theorem dX6_soil_30 : decode cX6_soil 30 = .ok (.aload_n 0, 1) := by decide +kernel
theorem dX6_soil_31 : decode cX6_soil 31 = .ok (.getfield 51, 3) := by decide +kernel
theorem dX6_soil_34 : decode cX6_soil 34 = .ok (.iload_n 1, 1) := by decide +kernel
theorem dX6_soil_35 : decode cX6_soil 35 = .ok (.iload_n 2, 1) := by decide +kernel
theorem dX6_soil_36 : decode cX6_soil 36 = .ok (.iastore, 1) := by decide +kernel
theorem dX6_soil_37 : decode cX6_soil 37 = .ok (.iload_n 3, 1) := by decide +kernel
theorem dX6_soil_38 : decode cX6_soil 38 = .ok (.ireturn, 1) := by decide +kernel
theorem dX6_pitch_0 : decode cX6_pitch 0 = .ok (.aload_n 0, 1) := by decide +kernel
theorem dX6_pitch_1 : decode cX6_pitch 1 = .ok (.getfield 19, 3) := by decide +kernel
theorem dX6_pitch_4 : decode cX6_pitch 4 = .ok (.iload_n 1, 1) := by decide +kernel
theorem dX6_pitch_5 : decode cX6_pitch 5 = .ok (.invokevirtual 93, 3) := by decide +kernel
theorem dX6_pitch_8 : decode cX6_pitch 8 = .ok (.ifCond .eq 12, 3) := by decide +kernel
theorem dX6_pitch_11 : decode cX6_pitch 11 = .ok (.iload_n 2, 1) := by decide +kernel
theorem dX6_pitch_12 : decode cX6_pitch 12 = .ok (.iconst 0, 1) := by decide +kernel
theorem dX6_pitch_13 : decode cX6_pitch 13 = .ok (.iconst 3, 1) := by decide +kernel
theorem dX6_pitch_14 : decode cX6_pitch 14 = .ok (.invokestatic 69, 3) := by decide +kernel
theorem dX6_pitch_17 : decode cX6_pitch 17 = .ok (.ifCond .eq 6, 3) := by decide +kernel
theorem dX6_pitch_20 : decode cX6_pitch 20 = .ok (.bipush (-2), 2) := by decide +kernel
theorem dX6_pitch_22 : decode cX6_pitch 22 = .ok (.ireturn, 1) := by decide +kernel
theorem dX6_pitch_23 : decode cX6_pitch 23 = .ok (.iload_n 3, 1) := by decide +kernel
theorem dX6_pitch_24 : decode cX6_pitch 24 = .ok (.iconst 0, 1) := by decide +kernel
theorem dX6_pitch_25 : decode cX6_pitch 25 = .ok (.bipush 99, 2) := by decide +kernel
theorem dX6_pitch_27 : decode cX6_pitch 27 = .ok (.invokestatic 69, 3) := by decide +kernel
theorem dX6_pitch_30 : decode cX6_pitch 30 = .ok (.ifCond .ne 15, 3) := by decide +kernel
theorem dX6_pitch_33 : decode cX6_pitch 33 = .ok (.iload 4, 2) := by decide +kernel
theorem dX6_pitch_35 : decode cX6_pitch 35 = .ok (.iconst 0, 1) := by decide +kernel
theorem dX6_pitch_36 : decode cX6_pitch 36 = .ok (.sipush 999, 3) := by decide +kernel
theorem dX6_pitch_39 : decode cX6_pitch 39 = .ok (.invokestatic 69, 3) := by decide +kernel
theorem dX6_pitch_42 : decode cX6_pitch 42 = .ok (.ifCond .eq 6, 3) := by decide +kernel
theorem dX6_pitch_45 : decode cX6_pitch 45 = .ok (.bipush (-2), 2) := by decide +kernel
theorem dX6_pitch_47 : decode cX6_pitch 47 = .ok (.ireturn, 1) := by decide +kernel
theorem dX6_pitch_48 : decode cX6_pitch 48 = .ok (.aload_n 0, 1) := by decide +kernel
theorem dX6_pitch_49 : decode cX6_pitch 49 = .ok (.getfield 19, 3) := by decide +kernel
theorem dX6_pitch_52 : decode cX6_pitch 52 = .ok (.getfield 180, 3) := by decide +kernel
theorem dX6_pitch_55 : decode cX6_pitch 55 = .ok (.iload_n 1, 1) := by decide +kernel
theorem dX6_pitch_56 : decode cX6_pitch 56 = .ok (.iload_n 2, 1) := by decide +kernel
theorem dX6_pitch_57 : decode cX6_pitch 57 = .ok (.iastore, 1) := by decide +kernel
theorem dX6_pitch_58 : decode cX6_pitch 58 = .ok (.aload_n 0, 1) := by decide +kernel
theorem dX6_pitch_59 : decode cX6_pitch 59 = .ok (.getfield 19, 3) := by decide +kernel
theorem dX6_pitch_62 : decode cX6_pitch 62 = .ok (.getfield 183, 3) := by decide +kernel
theorem dX6_pitch_65 : decode cX6_pitch 65 = .ok (.iload_n 1, 1) := by decide +kernel
theorem dX6_pitch_66 : decode cX6_pitch 66 = .ok (.iload_n 3, 1) := by decide +kernel
theorem dX6_pitch_67 : decode cX6_pitch 67 = .ok (.iastore, 1) := by decide +kernel
theorem dX6_pitch_68 : decode cX6_pitch 68 = .ok (.aload_n 0, 1) := by decide +kernel
theorem dX6_pitch_69 : decode cX6_pitch 69 = .ok (.getfield 19, 3) := by decide +kernel
theorem dX6_pitch_72 : decode cX6_pitch 72 = .ok (.getfield 186, 3) := by decide +kernel
theorem dX6_pitch_75 : decode cX6_pitch 75 = .ok (.iload_n 1, 1) := by decide +kernel
theorem dX6_pitch_76 : decode cX6_pitch 76 = .ok (.iload 4, 2) := by decide +kernel
theorem dX6_pitch_78 : decode cX6_pitch 78 = .ok (.iastore, 1) := by decide +kernel
theorem dX6_pitch_79 : decode cX6_pitch 79 = .ok (.iconst 1, 1) := by decide +kernel
theorem dX6_pitch_80 : decode cX6_pitch 80 = .ok (.ireturn, 1) := by decide +kernel
theorem dX6_bears_0 : decode cX6_bears 0 = .ok (.aload_n 0, 1) := by decide +kernel
theorem dX6_bears_1 : decode cX6_bears 1 = .ok (.getfield 19, 3) := by decide +kernel
theorem dX6_bears_4 : decode cX6_bears 4 = .ok (.iload_n 1, 1) := by decide +kernel
theorem dX6_bears_5 : decode cX6_bears 5 = .ok (.invokevirtual 93, 3) := by decide +kernel
theorem dX6_bears_8 : decode cX6_bears 8 = .ok (.ifCond .ne 6, 3) := by decide +kernel
theorem dX6_bears_11 : decode cX6_bears 11 = .ok (.bipush (-2), 2) := by decide +kernel
theorem dX6_bears_13 : decode cX6_bears 13 = .ok (.ireturn, 1) := by decide +kernel
theorem dX6_bears_14 : decode cX6_bears 14 = .ok (.bipush 60, 2) := by decide +kernel
theorem dX6_bears_16 : decode cX6_bears 16 = .ok (.istore_n 2, 1) := by decide +kernel
theorem dX6_bears_17 : decode cX6_bears 17 = .ok (.iload_n 2, 1) := by decide +kernel
theorem dX6_bears_18 : decode cX6_bears 18 = .ok (.ifCond .le 18, 3) := by decide +kernel
theorem dX6_bears_21 : decode cX6_bears 21 = .ok (.aload_n 0, 1) := by decide +kernel
theorem dX6_bears_22 : decode cX6_bears 22 = .ok (.iload_n 1, 1) := by decide +kernel
theorem dX6_bears_23 : decode cX6_bears 23 = .ok (.iload_n 2, 1) := by decide +kernel
theorem dX6_bears_24 : decode cX6_bears 24 = .ok (.invokevirtual 189, 3) := by decide +kernel
theorem dX6_bears_27 : decode cX6_bears 27 = .ok (.ifCond .ne 9, 3) := by decide +kernel
theorem dX6_bears_30 : decode cX6_bears 30 = .ok (.iinc 2 (-1), 3) := by decide +kernel
theorem dX6_bears_33 : decode cX6_bears 33 = .ok (.goto (-16), 3) := by decide +kernel
theorem dX6_bears_36 : decode cX6_bears 36 = .ok (.iload_n 2, 1) := by decide +kernel
theorem dX6_bears_37 : decode cX6_bears 37 = .ok (.ireturn, 1) := by decide +kernel
theorem dX6_gust_0 : decode cX6_gust 0 = .ok (.iload_n 1, 1) := by decide +kernel
theorem dX6_gust_1 : decode cX6_gust 1 = .ok (.iconst 0, 1) := by decide +kernel
theorem dX6_gust_2 : decode cX6_gust 2 = .ok (.bipush 60, 2) := by decide +kernel
theorem dX6_gust_4 : decode cX6_gust 4 = .ok (.invokestatic 69, 3) := by decide +kernel
theorem dX6_gust_7 : decode cX6_gust 7 = .ok (.ifCond .ne 13, 3) := by decide +kernel
theorem dX6_gust_10 : decode cX6_gust 10 = .ok (.iload_n 2, 1) := by decide +kernel
theorem dX6_gust_11 : decode cX6_gust 11 = .ok (.iconst 0, 1) := by decide +kernel
theorem dX6_gust_12 : decode cX6_gust 12 = .ok (.bipush 60, 2) := by decide +kernel
theorem dX6_gust_14 : decode cX6_gust 14 = .ok (.invokestatic 69, 3) := by decide +kernel
theorem dX6_gust_17 : decode cX6_gust 17 = .ok (.ifCond .eq 6, 3) := by decide +kernel
theorem dX6_gust_20 : decode cX6_gust 20 = .ok (.bipush (-2), 2) := by decide +kernel
theorem dX6_gust_22 : decode cX6_gust 22 = .ok (.ireturn, 1) := by decide +kernel
theorem dX6_gust_23 : decode cX6_gust 23 = .ok (.iconst 0, 1) := by decide +kernel
theorem dX6_gust_24 : decode cX6_gust 24 = .ok (.istore_n 3, 1) := by decide +kernel
theorem dX6_gust_25 : decode cX6_gust 25 = .ok (.iconst 0, 1) := by decide +kernel
theorem dX6_gust_26 : decode cX6_gust 26 = .ok (.istore 4, 2) := by decide +kernel
theorem dX6_gust_28 : decode cX6_gust 28 = .ok (.iload 4, 2) := by decide +kernel
theorem dX6_gust_30 : decode cX6_gust 30 = .ok (.aload_n 0, 1) := by decide +kernel
theorem dX6_gust_31 : decode cX6_gust 31 = .ok (.getfield 19, 3) := by decide +kernel
theorem dX6_gust_34 : decode cX6_gust 34 = .ok (.getfield 193, 3) := by decide +kernel
theorem dX6_gust_37 : decode cX6_gust 37 = .ok (.if_icmp .ge 80, 3) := by decide +kernel
theorem dX6_gust_40 : decode cX6_gust 40 = .ok (.aload_n 0, 1) := by decide +kernel
theorem dX6_gust_41 : decode cX6_gust 41 = .ok (.getfield 19, 3) := by decide +kernel
theorem dX6_gust_44 : decode cX6_gust 44 = .ok (.getfield 96, 3) := by decide +kernel
theorem dX6_gust_47 : decode cX6_gust 47 = .ok (.iload 4, 2) := by decide +kernel
theorem dX6_gust_49 : decode cX6_gust 49 = .ok (.iaload, 1) := by decide +kernel
theorem dX6_gust_50 : decode cX6_gust 50 = .ok (.iconst 1, 1) := by decide +kernel
theorem dX6_gust_51 : decode cX6_gust 51 = .ok (.if_icmp .ne 35, 3) := by decide +kernel
theorem dX6_gust_54 : decode cX6_gust 54 = .ok (.aload_n 0, 1) := by decide +kernel
theorem dX6_gust_55 : decode cX6_gust 55 = .ok (.getfield 19, 3) := by decide +kernel
theorem dX6_gust_58 : decode cX6_gust 58 = .ok (.getfield 194, 3) := by decide +kernel
theorem dX6_gust_61 : decode cX6_gust 61 = .ok (.iload 4, 2) := by decide +kernel
theorem dX6_gust_63 : decode cX6_gust 63 = .ok (.iaload, 1) := by decide +kernel
theorem dX6_gust_64 : decode cX6_gust 64 = .ok (.iload_n 1, 1) := by decide +kernel
theorem dX6_gust_65 : decode cX6_gust 65 = .ok (.if_icmp .gt 21, 3) := by decide +kernel
theorem dX6_gust_68 : decode cX6_gust 68 = .ok (.iload_n 1, 1) := by decide +kernel
theorem dX6_gust_69 : decode cX6_gust 69 = .ok (.aload_n 0, 1) := by decide +kernel
theorem dX6_gust_70 : decode cX6_gust 70 = .ok (.getfield 19, 3) := by decide +kernel
theorem dX6_gust_73 : decode cX6_gust 73 = .ok (.getfield 197, 3) := by decide +kernel
theorem dX6_gust_76 : decode cX6_gust 76 = .ok (.iload 4, 2) := by decide +kernel
theorem dX6_gust_78 : decode cX6_gust 78 = .ok (.iaload, 1) := by decide +kernel
theorem dX6_gust_79 : decode cX6_gust 79 = .ok (.if_icmp .gt 7, 3) := by decide +kernel
theorem dX6_gust_82 : decode cX6_gust 82 = .ok (.iconst 1, 1) := by decide +kernel
theorem dX6_gust_83 : decode cX6_gust 83 = .ok (.goto 4, 3) := by decide +kernel
theorem dX6_gust_86 : decode cX6_gust 86 = .ok (.iconst 0, 1) := by decide +kernel
theorem dX6_gust_87 : decode cX6_gust 87 = .ok (.istore 5, 2) := by decide +kernel
theorem dX6_gust_89 : decode cX6_gust 89 = .ok (.iload 5, 2) := by decide +kernel
theorem dX6_gust_91 : decode cX6_gust 91 = .ok (.ifCond .eq 20, 3) := by decide +kernel
theorem dX6_gust_94 : decode cX6_gust 94 = .ok (.aload_n 0, 1) := by decide +kernel
theorem dX6_gust_95 : decode cX6_gust 95 = .ok (.iload 4, 2) := by decide +kernel
theorem dX6_gust_97 : decode cX6_gust 97 = .ok (.iload_n 2, 1) := by decide +kernel
theorem dX6_gust_98 : decode cX6_gust 98 = .ok (.invokevirtual 189, 3) := by decide +kernel
theorem dX6_gust_101 : decode cX6_gust 101 = .ok (.ifCond .ne 10, 3) := by decide +kernel
theorem dX6_gust_104 : decode cX6_gust 104 = .ok (.iload_n 3, 1) := by decide +kernel
theorem dX6_gust_105 : decode cX6_gust 105 = .ok (.iconst 1, 1) := by decide +kernel
theorem dX6_gust_106 : decode cX6_gust 106 = .ok (.iload 4, 2) := by decide +kernel
theorem dX6_gust_108 : decode cX6_gust 108 = .ok (.ishl, 1) := by decide +kernel
theorem dX6_gust_109 : decode cX6_gust 109 = .ok (.ior, 1) := by decide +kernel
theorem dX6_gust_110 : decode cX6_gust 110 = .ok (.istore_n 3, 1) := by decide +kernel
theorem dX6_gust_111 : decode cX6_gust 111 = .ok (.iinc 4 1, 3) := by decide +kernel
theorem dX6_gust_114 : decode cX6_gust 114 = .ok (.goto (-86), 3) := by decide +kernel
theorem dX6_gust_117 : decode cX6_gust 117 = .ok (.iload_n 3, 1) := by decide +kernel
theorem dX6_gust_118 : decode cX6_gust 118 = .ok (.ireturn, 1) := by decide +kernel
theorem dX6_hours_0 : decode cX6_hours 0 = .ok (.iload_n 1, 1) := by decide +kernel
theorem dX6_hours_1 : decode cX6_hours 1 = .ok (.iconst 0, 1) := by decide +kernel
theorem dX6_hours_2 : decode cX6_hours 2 = .ok (.bipush 60, 2) := by decide +kernel
theorem dX6_hours_4 : decode cX6_hours 4 = .ok (.invokestatic 69, 3) := by decide +kernel
theorem dX6_hours_7 : decode cX6_hours 7 = .ok (.ifCond .ne 12, 3) := by decide +kernel
theorem dX6_hours_10 : decode cX6_hours 10 = .ok (.iload_n 2, 1) := by decide +kernel
theorem dX6_hours_11 : decode cX6_hours 11 = .ok (.iconst 1, 1) := by decide +kernel
theorem dX6_hours_12 : decode cX6_hours 12 = .ok (.iconst 3, 1) := by decide +kernel
theorem dX6_hours_13 : decode cX6_hours 13 = .ok (.invokestatic 69, 3) := by decide +kernel
theorem dX6_hours_16 : decode cX6_hours 16 = .ok (.ifCond .eq 6, 3) := by decide +kernel
theorem dX6_hours_19 : decode cX6_hours 19 = .ok (.bipush (-2), 2) := by decide +kernel
theorem dX6_hours_21 : decode cX6_hours 21 = .ok (.ireturn, 1) := by decide +kernel
theorem dX6_hours_22 : decode cX6_hours 22 = .ok (.aload_n 0, 1) := by decide +kernel
theorem dX6_hours_23 : decode cX6_hours 23 = .ok (.iload_n 1, 1) := by decide +kernel
theorem dX6_hours_24 : decode cX6_hours 24 = .ok (.iload_n 2, 1) := by decide +kernel
theorem dX6_hours_25 : decode cX6_hours 25 = .ok (.invokevirtual 200, 3) := by decide +kernel
theorem dX6_hours_28 : decode cX6_hours 28 = .ok (.aload_n 0, 1) := by decide +kernel
theorem dX6_hours_29 : decode cX6_hours 29 = .ok (.getfield 47, 3) := by decide +kernel
theorem dX6_hours_32 : decode cX6_hours 32 = .ok (.getfield 204, 3) := by decide +kernel
theorem dX6_hours_35 : decode cX6_hours 35 = .ok (.ireturn, 1) := by decide +kernel
theorem dX6_crew_0 : decode cX6_crew 0 = .ok (.iload_n 1, 1) := by decide +kernel
theorem dX6_crew_1 : decode cX6_crew 1 = .ok (.iconst 0, 1) := by decide +kernel
theorem dX6_crew_2 : decode cX6_crew 2 = .ok (.bipush 60, 2) := by decide +kernel
theorem dX6_crew_4 : decode cX6_crew 4 = .ok (.invokestatic 69, 3) := by decide +kernel
theorem dX6_crew_7 : decode cX6_crew 7 = .ok (.ifCond .ne 23, 3) := by decide +kernel
theorem dX6_crew_10 : decode cX6_crew 10 = .ok (.iload_n 2, 1) := by decide +kernel
theorem dX6_crew_11 : decode cX6_crew 11 = .ok (.iconst 1, 1) := by decide +kernel
theorem dX6_crew_12 : decode cX6_crew 12 = .ok (.iconst 3, 1) := by decide +kernel
theorem dX6_crew_13 : decode cX6_crew 13 = .ok (.invokestatic 69, 3) := by decide +kernel
theorem dX6_crew_16 : decode cX6_crew 16 = .ok (.ifCond .ne 14, 3) := by decide +kernel
theorem dX6_crew_19 : decode cX6_crew 19 = .ok (.aload_n 0, 1) := by decide +kernel
theorem dX6_crew_20 : decode cX6_crew 20 = .ok (.getfield 19, 3) := by decide +kernel
theorem dX6_crew_23 : decode cX6_crew 23 = .ok (.iload_n 3, 1) := by decide +kernel
theorem dX6_crew_24 : decode cX6_crew 24 = .ok (.invokevirtual 93, 3) := by decide +kernel
theorem dX6_crew_27 : decode cX6_crew 27 = .ok (.ifCond .ne 6, 3) := by decide +kernel
theorem dX6_crew_30 : decode cX6_crew 30 = .ok (.bipush (-2), 2) := by decide +kernel
theorem dX6_crew_32 : decode cX6_crew 32 = .ok (.ireturn, 1) := by decide +kernel
theorem dX6_crew_33 : decode cX6_crew 33 = .ok (.aload_n 0, 1) := by decide +kernel
theorem dX6_crew_34 : decode cX6_crew 34 = .ok (.iload_n 1, 1) := by decide +kernel
theorem dX6_crew_35 : decode cX6_crew 35 = .ok (.iload_n 2, 1) := by decide +kernel
theorem dX6_crew_36 : decode cX6_crew 36 = .ok (.invokevirtual 200, 3) := by decide +kernel
theorem dX6_crew_39 : decode cX6_crew 39 = .ok (.aload_n 0, 1) := by decide +kernel
theorem dX6_crew_40 : decode cX6_crew 40 = .ok (.getfield 47, 3) := by decide +kernel
theorem dX6_crew_43 : decode cX6_crew 43 = .ok (.iload_n 3, 1) := by decide +kernel
theorem dX6_crew_44 : decode cX6_crew 44 = .ok (.invokevirtual 207, 3) := by decide +kernel
theorem dX6_crew_47 : decode cX6_crew 47 = .ok (.ireturn, 1) := by decide +kernel
theorem dX6_loads_0 : decode cX6_loads 0 = .ok (.iload_n 1, 1) := by decide +kernel
theorem dX6_loads_1 : decode cX6_loads 1 = .ok (.iconst 0, 1) := by decide +kernel
theorem dX6_loads_2 : decode cX6_loads 2 = .ok (.bipush 60, 2) := by decide +kernel
theorem dX6_loads_4 : decode cX6_loads 4 = .ok (.invokestatic 69, 3) := by decide +kernel
theorem dX6_loads_7 : decode cX6_loads 7 = .ok (.ifCond .ne 13, 3) := by decide +kernel
theorem dX6_loads_10 : decode cX6_loads 10 = .ok (.iload_n 2, 1) := by decide +kernel
theorem dX6_loads_11 : decode cX6_loads 11 = .ok (.iconst 1, 1) := by decide +kernel
theorem dX6_loads_12 : decode cX6_loads 12 = .ok (.ldc 88, 2) := by decide +kernel
theorem dX6_loads_14 : decode cX6_loads 14 = .ok (.invokestatic 69, 3) := by decide +kernel
theorem dX6_loads_17 : decode cX6_loads 17 = .ok (.ifCond .eq 6, 3) := by decide +kernel
theorem dX6_loads_20 : decode cX6_loads 20 = .ok (.bipush (-2), 2) := by decide +kernel
theorem dX6_loads_22 : decode cX6_loads 22 = .ok (.ireturn, 1) := by decide +kernel
theorem dX6_loads_23 : decode cX6_loads 23 = .ok (.iconst 0, 1) := by decide +kernel
theorem dX6_loads_24 : decode cX6_loads 24 = .ok (.istore_n 3, 1) := by decide +kernel
theorem dX6_loads_25 : decode cX6_loads 25 = .ok (.iconst 0, 1) := by decide +kernel
theorem dX6_loads_26 : decode cX6_loads 26 = .ok (.istore 4, 2) := by decide +kernel
theorem dX6_loads_28 : decode cX6_loads 28 = .ok (.iload 4, 2) := by decide +kernel
theorem dX6_loads_30 : decode cX6_loads 30 = .ok (.aload_n 0, 1) := by decide +kernel
theorem dX6_loads_31 : decode cX6_loads 31 = .ok (.getfield 19, 3) := by decide +kernel
theorem dX6_loads_34 : decode cX6_loads 34 = .ok (.getfield 193, 3) := by decide +kernel
theorem dX6_loads_37 : decode cX6_loads 37 = .ok (.if_icmp .ge 31, 3) := by decide +kernel
theorem dX6_loads_40 : decode cX6_loads 40 = .ok (.aload_n 0, 1) := by decide +kernel
theorem dX6_loads_41 : decode cX6_loads 41 = .ok (.getfield 19, 3) := by decide +kernel
theorem dX6_loads_44 : decode cX6_loads 44 = .ok (.iload 4, 2) := by decide +kernel
theorem dX6_loads_46 : decode cX6_loads 46 = .ok (.iload_n 1, 1) := by decide +kernel
theorem dX6_loads_47 : decode cX6_loads 47 = .ok (.invokevirtual 210, 3) := by decide +kernel
theorem dX6_loads_50 : decode cX6_loads 50 = .ok (.ifCond .eq 12, 3) := by decide +kernel
theorem dX6_loads_53 : decode cX6_loads 53 = .ok (.iload_n 3, 1) := by decide +kernel
theorem dX6_loads_54 : decode cX6_loads 54 = .ok (.aload_n 0, 1) := by decide +kernel
theorem dX6_loads_55 : decode cX6_loads 55 = .ok (.iload 4, 2) := by decide +kernel
theorem dX6_loads_57 : decode cX6_loads 57 = .ok (.invokevirtual 213, 3) := by decide +kernel
theorem dX6_loads_60 : decode cX6_loads 60 = .ok (.iadd, 1) := by decide +kernel
theorem dX6_loads_61 : decode cX6_loads 61 = .ok (.istore_n 3, 1) := by decide +kernel
theorem dX6_loads_62 : decode cX6_loads 62 = .ok (.iinc 4 1, 3) := by decide +kernel
theorem dX6_loads_65 : decode cX6_loads 65 = .ok (.goto (-37), 3) := by decide +kernel
theorem dX6_loads_68 : decode cX6_loads 68 = .ok (.iload_n 3, 1) := by decide +kernel
theorem dX6_loads_69 : decode cX6_loads 69 = .ok (.iload_n 2, 1) := by decide +kernel
theorem dX6_loads_70 : decode cX6_loads 70 = .ok (.invokestatic 168, 3) := by decide +kernel
theorem dX6_loads_73 : decode cX6_loads 73 = .ok (.ireturn, 1) := by decide +kernel
theorem dX6_count_0 : decode cX6_count 0 = .ok (.iload_n 1, 1) := by decide +kernel
theorem dX6_count_1 : decode cX6_count 1 = .ok (.iconst 0, 1) := by decide +kernel
theorem dX6_count_2 : decode cX6_count 2 = .ok (.iconst 5, 1) := by decide +kernel
theorem dX6_count_3 : decode cX6_count 3 = .ok (.invokestatic 69, 3) := by decide +kernel
theorem dX6_count_6 : decode cX6_count 6 = .ok (.ifCond .eq 8, 3) := by decide +kernel
theorem dX6_count_9 : decode cX6_count 9 = .ok (.bipush (-2), 2) := by decide +kernel
theorem dX6_count_11 : decode cX6_count 11 = .ok (.goto 8, 3) := by decide +kernel
theorem dX6_count_14 : decode cX6_count 14 = .ok (.aload_n 0, 1) := by decide +kernel
theorem dX6_count_15 : decode cX6_count 15 = .ok (.iload_n 1, 1) := by decide +kernel
theorem dX6_count_16 : decode cX6_count 16 = .ok (.invokevirtual 216, 3) := by decide +kernel
theorem dX6_count_19 : decode cX6_count 19 = .ok (.ireturn, 1) := by decide +kernel
theorem dX6_digest_0 : decode cX6_digest 0 = .ok (.ldc2_w 219, 3) := by decide +kernel
theorem dX6_digest_3 : decode cX6_digest 3 = .ok (.lstore_n 1, 1) := by decide +kernel
theorem dX6_digest_4 : decode cX6_digest 4 = .ok (.iconst 0, 1) := by decide +kernel
theorem dX6_digest_5 : decode cX6_digest 5 = .ok (.istore_n 3, 1) := by decide +kernel
theorem dX6_digest_6 : decode cX6_digest 6 = .ok (.iload_n 3, 1) := by decide +kernel
theorem dX6_digest_7 : decode cX6_digest 7 = .ok (.iconst 5, 1) := by decide +kernel
theorem dX6_digest_8 : decode cX6_digest 8 = .ok (.if_icmp .gt 22, 3) := by decide +kernel
theorem dX6_digest_11 : decode cX6_digest 11 = .ok (.ldc2_w 221, 3) := by decide +kernel
theorem dX6_digest_14 : decode cX6_digest 14 = .ok (.lload_n 1, 1) := by decide +kernel
theorem dX6_digest_15 : decode cX6_digest 15 = .ok (.lmul, 1) := by decide +kernel
theorem dX6_digest_16 : decode cX6_digest 16 = .ok (.aload_n 0, 1) := by decide +kernel
theorem dX6_digest_17 : decode cX6_digest 17 = .ok (.iload_n 3, 1) := by decide +kernel
theorem dX6_digest_18 : decode cX6_digest 18 = .ok (.invokevirtual 216, 3) := by decide +kernel
theorem dX6_digest_21 : decode cX6_digest 21 = .ok (.i2l, 1) := by decide +kernel
theorem dX6_digest_22 : decode cX6_digest 22 = .ok (.ladd, 1) := by decide +kernel
theorem dX6_digest_23 : decode cX6_digest 23 = .ok (.lstore_n 1, 1) := by decide +kernel
theorem dX6_digest_24 : decode cX6_digest 24 = .ok (.iinc 3 1, 3) := by decide +kernel
theorem dX6_digest_27 : decode cX6_digest 27 = .ok (.goto (-21), 3) := by decide +kernel
theorem dX6_digest_30 : decode cX6_digest 30 = .ok (.iconst 0, 1) := by decide +kernel
theorem dX6_digest_31 : decode cX6_digest 31 = .ok (.istore_n 3, 1) := by decide +kernel
theorem dX6_digest_32 : decode cX6_digest 32 = .ok (.iload_n 3, 1) := by decide +kernel
theorem dX6_digest_33 : decode cX6_digest 33 = .ok (.aload_n 0, 1) := by decide +kernel
theorem dX6_digest_34 : decode cX6_digest 34 = .ok (.getfield 19, 3) := by decide +kernel
theorem dX6_digest_37 : decode cX6_digest 37 = .ok (.getfield 193, 3) := by decide +kernel
theorem dX6_digest_40 : decode cX6_digest 40 = .ok (.if_icmp .ge 81, 3) := by decide +kernel
theorem dX6_digest_43 : decode cX6_digest 43 = .ok (.iconst 0, 1) := by decide +kernel
theorem dX6_digest_44 : decode cX6_digest 44 = .ok (.istore 4, 2) := by decide +kernel
theorem dX6_digest_46 : decode cX6_digest 46 = .ok (.iload 4, 2) := by decide +kernel
theorem dX6_digest_48 : decode cX6_digest 48 = .ok (.bipush 6, 2) := by decide +kernel
theorem dX6_digest_50 : decode cX6_digest 50 = .ok (.if_icmp .gt 27, 3) := by decide +kernel
theorem dX6_digest_53 : decode cX6_digest 53 = .ok (.ldc2_w 221, 3) := by decide +kernel
theorem dX6_digest_56 : decode cX6_digest 56 = .ok (.lload_n 1, 1) := by decide +kernel
theorem dX6_digest_57 : decode cX6_digest 57 = .ok (.lmul, 1) := by decide +kernel
theorem dX6_digest_58 : decode cX6_digest 58 = .ok (.aload_n 0, 1) := by decide +kernel
theorem dX6_digest_59 : decode cX6_digest 59 = .ok (.getfield 19, 3) := by decide +kernel
theorem dX6_digest_62 : decode cX6_digest 62 = .ok (.iload_n 3, 1) := by decide +kernel
theorem dX6_digest_63 : decode cX6_digest 63 = .ok (.iload 4, 2) := by decide +kernel
theorem dX6_digest_65 : decode cX6_digest 65 = .ok (.invokevirtual 136, 3) := by decide +kernel
theorem dX6_digest_68 : decode cX6_digest 68 = .ok (.i2l, 1) := by decide +kernel
theorem dX6_digest_69 : decode cX6_digest 69 = .ok (.ladd, 1) := by decide +kernel
theorem dX6_digest_70 : decode cX6_digest 70 = .ok (.lstore_n 1, 1) := by decide +kernel
theorem dX6_digest_71 : decode cX6_digest 71 = .ok (.iinc 4 1, 3) := by decide +kernel
theorem dX6_digest_74 : decode cX6_digest 74 = .ok (.goto (-28), 3) := by decide +kernel
theorem dX6_digest_77 : decode cX6_digest 77 = .ok (.iconst 0, 1) := by decide +kernel
theorem dX6_digest_78 : decode cX6_digest 78 = .ok (.istore 4, 2) := by decide +kernel
theorem dX6_digest_80 : decode cX6_digest 80 = .ok (.iload 4, 2) := by decide +kernel
theorem dX6_digest_82 : decode cX6_digest 82 = .ok (.bipush 6, 2) := by decide +kernel
theorem dX6_digest_84 : decode cX6_digest 84 = .ok (.if_icmp .ge 31, 3) := by decide +kernel
theorem dX6_digest_87 : decode cX6_digest 87 = .ok (.ldc2_w 221, 3) := by decide +kernel
theorem dX6_digest_90 : decode cX6_digest 90 = .ok (.lload_n 1, 1) := by decide +kernel
theorem dX6_digest_91 : decode cX6_digest 91 = .ok (.lmul, 1) := by decide +kernel
theorem dX6_digest_92 : decode cX6_digest 92 = .ok (.aload_n 0, 1) := by decide +kernel
theorem dX6_digest_93 : decode cX6_digest 93 = .ok (.getfield 19, 3) := by decide +kernel
theorem dX6_digest_96 : decode cX6_digest 96 = .ok (.getfield 99, 3) := by decide +kernel
theorem dX6_digest_99 : decode cX6_digest 99 = .ok (.iload_n 3, 1) := by decide +kernel
theorem dX6_digest_100 : decode cX6_digest 100 = .ok (.iload 4, 2) := by decide +kernel
theorem dX6_digest_102 : decode cX6_digest 102 = .ok (.invokestatic 102, 3) := by decide +kernel
theorem dX6_digest_105 : decode cX6_digest 105 = .ok (.iaload, 1) := by decide +kernel
theorem dX6_digest_106 : decode cX6_digest 106 = .ok (.i2l, 1) := by decide +kernel
theorem dX6_digest_107 : decode cX6_digest 107 = .ok (.ladd, 1) := by decide +kernel
theorem dX6_digest_108 : decode cX6_digest 108 = .ok (.lstore_n 1, 1) := by decide +kernel
theorem dX6_digest_109 : decode cX6_digest 109 = .ok (.iinc 4 1, 3) := by decide +kernel
theorem dX6_digest_112 : decode cX6_digest 112 = .ok (.goto (-32), 3) := by decide +kernel
theorem dX6_digest_115 : decode cX6_digest 115 = .ok (.iinc 3 1, 3) := by decide +kernel
theorem dX6_digest_118 : decode cX6_digest 118 = .ok (.goto (-86), 3) := by decide +kernel
theorem dX6_digest_121 : decode cX6_digest 121 = .ok (.iconst 0, 1) := by decide +kernel
theorem dX6_digest_122 : decode cX6_digest 122 = .ok (.istore_n 3, 1) := by decide +kernel
theorem dX6_digest_123 : decode cX6_digest 123 = .ok (.iload_n 3, 1) := by decide +kernel
theorem dX6_digest_124 : decode cX6_digest 124 = .ok (.bipush 6, 2) := by decide +kernel
theorem dX6_digest_126 : decode cX6_digest 126 = .ok (.if_icmp .ge 41, 3) := by decide +kernel
theorem dX6_digest_129 : decode cX6_digest 129 = .ok (.ldc2_w 221, 3) := by decide +kernel
theorem dX6_digest_132 : decode cX6_digest 132 = .ok (.ldc2_w 221, 3) := by decide +kernel
theorem dX6_digest_135 : decode cX6_digest 135 = .ok (.lload_n 1, 1) := by decide +kernel
theorem dX6_digest_136 : decode cX6_digest 136 = .ok (.lmul, 1) := by decide +kernel
theorem dX6_digest_137 : decode cX6_digest 137 = .ok (.aload_n 0, 1) := by decide +kernel
theorem dX6_digest_138 : decode cX6_digest 138 = .ok (.getfield 12, 3) := by decide +kernel
theorem dX6_digest_141 : decode cX6_digest 141 = .ok (.getfield 73, 3) := by decide +kernel
theorem dX6_digest_144 : decode cX6_digest 144 = .ok (.iload_n 3, 1) := by decide +kernel
theorem dX6_digest_145 : decode cX6_digest 145 = .ok (.iaload, 1) := by decide +kernel
theorem dX6_digest_146 : decode cX6_digest 146 = .ok (.i2l, 1) := by decide +kernel
theorem dX6_digest_147 : decode cX6_digest 147 = .ok (.ladd, 1) := by decide +kernel
theorem dX6_digest_148 : decode cX6_digest 148 = .ok (.lmul, 1) := by decide +kernel
theorem dX6_digest_149 : decode cX6_digest 149 = .ok (.aload_n 0, 1) := by decide +kernel
theorem dX6_digest_150 : decode cX6_digest 150 = .ok (.getfield 12, 3) := by decide +kernel
theorem dX6_digest_153 : decode cX6_digest 153 = .ok (.getfield 133, 3) := by decide +kernel
theorem dX6_digest_156 : decode cX6_digest 156 = .ok (.iload_n 3, 1) := by decide +kernel
theorem dX6_digest_157 : decode cX6_digest 157 = .ok (.iaload, 1) := by decide +kernel
theorem dX6_digest_158 : decode cX6_digest 158 = .ok (.i2l, 1) := by decide +kernel
theorem dX6_digest_159 : decode cX6_digest 159 = .ok (.ladd, 1) := by decide +kernel
theorem dX6_digest_160 : decode cX6_digest 160 = .ok (.lstore_n 1, 1) := by decide +kernel
theorem dX6_digest_161 : decode cX6_digest 161 = .ok (.iinc 3 1, 3) := by decide +kernel
theorem dX6_digest_164 : decode cX6_digest 164 = .ok (.goto (-41), 3) := by decide +kernel
theorem dX6_digest_167 : decode cX6_digest 167 = .ok (.iconst 0, 1) := by decide +kernel
theorem dX6_digest_168 : decode cX6_digest 168 = .ok (.istore_n 3, 1) := by decide +kernel
theorem dX6_digest_169 : decode cX6_digest 169 = .ok (.iload_n 3, 1) := by decide +kernel
theorem dX6_digest_170 : decode cX6_digest 170 = .ok (.aload_n 0, 1) := by decide +kernel
theorem dX6_digest_171 : decode cX6_digest 171 = .ok (.getfield 40, 3) := by decide +kernel
theorem dX6_digest_174 : decode cX6_digest 174 = .ok (.getfield 174, 3) := by decide +kernel
theorem dX6_digest_177 : decode cX6_digest 177 = .ok (.if_icmp .ge 41, 3) := by decide +kernel
theorem dX6_digest_180 : decode cX6_digest 180 = .ok (.ldc2_w 221, 3) := by decide +kernel
theorem dX6_digest_183 : decode cX6_digest 183 = .ok (.ldc2_w 221, 3) := by decide +kernel
theorem dX6_digest_186 : decode cX6_digest 186 = .ok (.lload_n 1, 1) := by decide +kernel
theorem dX6_digest_187 : decode cX6_digest 187 = .ok (.lmul, 1) := by decide +kernel
theorem dX6_digest_188 : decode cX6_digest 188 = .ok (.aload_n 0, 1) := by decide +kernel
theorem dX6_digest_189 : decode cX6_digest 189 = .ok (.getfield 40, 3) := by decide +kernel
theorem dX6_digest_192 : decode cX6_digest 192 = .ok (.getfield 223, 3) := by decide +kernel
theorem dX6_digest_195 : decode cX6_digest 195 = .ok (.iload_n 3, 1) := by decide +kernel
theorem dX6_digest_196 : decode cX6_digest 196 = .ok (.iaload, 1) := by decide +kernel
theorem dX6_digest_197 : decode cX6_digest 197 = .ok (.i2l, 1) := by decide +kernel
theorem dX6_digest_198 : decode cX6_digest 198 = .ok (.ladd, 1) := by decide +kernel
theorem dX6_digest_199 : decode cX6_digest 199 = .ok (.lmul, 1) := by decide +kernel
theorem dX6_digest_200 : decode cX6_digest 200 = .ok (.aload_n 0, 1) := by decide +kernel
theorem dX6_digest_201 : decode cX6_digest 201 = .ok (.getfield 40, 3) := by decide +kernel
theorem dX6_digest_204 : decode cX6_digest 204 = .ok (.getfield 226, 3) := by decide +kernel
theorem dX6_digest_207 : decode cX6_digest 207 = .ok (.iload_n 3, 1) := by decide +kernel
theorem dX6_digest_208 : decode cX6_digest 208 = .ok (.iaload, 1) := by decide +kernel
theorem dX6_digest_209 : decode cX6_digest 209 = .ok (.i2l, 1) := by decide +kernel
theorem dX6_digest_210 : decode cX6_digest 210 = .ok (.ladd, 1) := by decide +kernel
theorem dX6_digest_211 : decode cX6_digest 211 = .ok (.lstore_n 1, 1) := by decide +kernel
theorem dX6_digest_212 : decode cX6_digest 212 = .ok (.iinc 3 1, 3) := by decide +kernel
theorem dX6_digest_215 : decode cX6_digest 215 = .ok (.goto (-46), 3) := by decide +kernel
theorem dX6_digest_218 : decode cX6_digest 218 = .ok (.iconst 0, 1) := by decide +kernel
theorem dX6_digest_219 : decode cX6_digest 219 = .ok (.istore_n 3, 1) := by decide +kernel
theorem dX6_digest_220 : decode cX6_digest 220 = .ok (.iload_n 3, 1) := by decide +kernel
theorem dX6_digest_221 : decode cX6_digest 221 = .ok (.iconst 4, 1) := by decide +kernel
theorem dX6_digest_222 : decode cX6_digest 222 = .ok (.if_icmp .ge 23, 3) := by decide +kernel
theorem dX6_digest_225 : decode cX6_digest 225 = .ok (.ldc2_w 221, 3) := by decide +kernel
theorem dX6_digest_228 : decode cX6_digest 228 = .ok (.lload_n 1, 1) := by decide +kernel
theorem dX6_digest_229 : decode cX6_digest 229 = .ok (.lmul, 1) := by decide +kernel
theorem dX6_digest_230 : decode cX6_digest 230 = .ok (.aload_n 0, 1) := by decide +kernel
theorem dX6_digest_231 : decode cX6_digest 231 = .ok (.getfield 51, 3) := by decide +kernel
theorem dX6_digest_234 : decode cX6_digest 234 = .ok (.iload_n 3, 1) := by decide +kernel
theorem dX6_digest_235 : decode cX6_digest 235 = .ok (.iaload, 1) := by decide +kernel
theorem dX6_digest_236 : decode cX6_digest 236 = .ok (.i2l, 1) := by decide +kernel
theorem dX6_digest_237 : decode cX6_digest 237 = .ok (.ladd, 1) := by decide +kernel
theorem dX6_digest_238 : decode cX6_digest 238 = .ok (.lstore_n 1, 1) := by decide +kernel
theorem dX6_digest_239 : decode cX6_digest 239 = .ok (.iinc 3 1, 3) := by decide +kernel
theorem dX6_digest_242 : decode cX6_digest 242 = .ok (.goto (-22), 3) := by decide +kernel
theorem dX6_digest_245 : decode cX6_digest 245 = .ok (.lload_n 1, 1) := by decide +kernel
theorem dX6_digest_246 : decode cX6_digest 246 = .ok (.lreturn, 1) := by decide +kernel
theorem dX6_outside_0 : decode cX6_outside 0 = .ok (.iload_n 0, 1) := by decide +kernel
theorem dX6_outside_1 : decode cX6_outside 1 = .ok (.iload_n 1, 1) := by decide +kernel
theorem dX6_outside_2 : decode cX6_outside 2 = .ok (.if_icmp .lt 8, 3) := by decide +kernel
theorem dX6_outside_5 : decode cX6_outside 5 = .ok (.iload_n 0, 1) := by decide +kernel
theorem dX6_outside_6 : decode cX6_outside 6 = .ok (.iload_n 2, 1) := by decide +kernel
theorem dX6_outside_7 : decode cX6_outside 7 = .ok (.if_icmp .le 7, 3) := by decide +kernel
theorem dX6_outside_10 : decode cX6_outside 10 = .ok (.iconst 1, 1) := by decide +kernel
theorem dX6_outside_11 : decode cX6_outside 11 = .ok (.goto 4, 3) := by decide +kernel
theorem dX6_outside_14 : decode cX6_outside 14 = .ok (.iconst 0, 1) := by decide +kernel
theorem dX6_outside_15 : decode cX6_outside 15 = .ok (.ireturn, 1) := by decide +kernel
theorem dX6_isThing_0 : decode cX6_isThing 0 = .ok (.iload_n 0, 1) := by decide +kernel
theorem dX6_isThing_1 : decode cX6_isThing 1 = .ok (.ifCond .lt 13, 3) := by decide +kernel
theorem dX6_isThing_4 : decode cX6_isThing 4 = .ok (.iload_n 0, 1) := by decide +kernel
theorem dX6_isThing_5 : decode cX6_isThing 5 = .ok (.bipush 6, 2) := by decide +kernel
theorem dX6_isThing_7 : decode cX6_isThing 7 = .ok (.if_icmp .ge 7, 3) := by decide +kernel
theorem dX6_isThing_10 : decode cX6_isThing 10 = .ok (.iconst 1, 1) := by decide +kernel
theorem dX6_isThing_11 : decode cX6_isThing 11 = .ok (.goto 4, 3) := by decide +kernel
theorem dX6_isThing_14 : decode cX6_isThing 14 = .ok (.iconst 0, 1) := by decide +kernel
theorem dX6_isThing_15 : decode cX6_isThing 15 = .ok (.ireturn, 1) := by decide +kernel
theorem dX6_bit_0 : decode cX6_bit 0 = .ok (.iload_n 0, 1) := by decide +kernel
theorem dX6_bit_1 : decode cX6_bit 1 = .ok (.ifCond .eq 7, 3) := by decide +kernel
theorem dX6_bit_4 : decode cX6_bit 4 = .ok (.iconst 1, 1) := by decide +kernel
theorem dX6_bit_5 : decode cX6_bit 5 = .ok (.goto 4, 3) := by decide +kernel
theorem dX6_bit_8 : decode cX6_bit 8 = .ok (.iconst 0, 1) := by decide +kernel
theorem dX6_bit_9 : decode cX6_bit 9 = .ok (.ireturn, 1) := by decide +kernel
theorem dX6_cell_0 : decode cX6_cell 0 = .ok (.iload_n 0, 1) := by decide +kernel
theorem dX6_cell_1 : decode cX6_cell 1 = .ok (.bipush 6, 2) := by decide +kernel
theorem dX6_cell_3 : decode cX6_cell 3 = .ok (.imul, 1) := by decide +kernel
theorem dX6_cell_4 : decode cX6_cell 4 = .ok (.iload_n 1, 1) := by decide +kernel
theorem dX6_cell_5 : decode cX6_cell 5 = .ok (.iadd, 1) := by decide +kernel
theorem dX6_cell_6 : decode cX6_cell 6 = .ok (.ireturn, 1) := by decide +kernel
theorem dX6_cutUp_0 : decode cX6_cutUp 0 = .ok (.iload_n 1, 1) := by decide +kernel
theorem dX6_cutUp_1 : decode cX6_cutUp 1 = .ok (.iconst 1, 1) := by decide +kernel
theorem dX6_cutUp_2 : decode cX6_cutUp 2 = .ok (.if_icmp .ge 7, 3) := by decide +kernel
theorem dX6_cutUp_5 : decode cX6_cutUp 5 = .ok (.iconst 0, 1) := by decide +kernel
theorem dX6_cutUp_6 : decode cX6_cutUp 6 = .ok (.goto 10, 3) := by decide +kernel
theorem dX6_cutUp_9 : decode cX6_cutUp 9 = .ok (.iload_n 0, 1) := by decide +kernel
theorem dX6_cutUp_10 : decode cX6_cutUp 10 = .ok (.iload_n 1, 1) := by decide +kernel
theorem dX6_cutUp_11 : decode cX6_cutUp 11 = .ok (.iadd, 1) := by decide +kernel
theorem dX6_cutUp_12 : decode cX6_cutUp 12 = .ok (.iconst 1, 1) := by decide +kernel
theorem dX6_cutUp_13 : decode cX6_cutUp 13 = .ok (.isub, 1) := by decide +kernel
theorem dX6_cutUp_14 : decode cX6_cutUp 14 = .ok (.iload_n 1, 1) := by decide +kernel
theorem dX6_cutUp_15 : decode cX6_cutUp 15 = .ok (.idiv, 1) := by decide +kernel
theorem dX6_cutUp_16 : decode cX6_cutUp 16 = .ok (.ireturn, 1) := by decide +kernel
theorem dX6_goTogether_0 : decode cX6_goTogether 0 = .ok (.aload_n 0, 1) := by decide +kernel
theorem dX6_goTogether_1 : decode cX6_goTogether 1 = .ok (.iload_n 1, 1) := by decide +kernel
theorem dX6_goTogether_2 : decode cX6_goTogether 2 = .ok (.invokevirtual 117, 3) := by decide +kernel
theorem dX6_goTogether_5 : decode cX6_goTogether 5 = .ok (.aload_n 0, 1) := by decide +kernel
theorem dX6_goTogether_6 : decode cX6_goTogether 6 = .ok (.getfield 33, 3) := by decide +kernel
theorem dX6_goTogether_9 : decode cX6_goTogether 9 = .ok (.getfield 158, 3) := by decide +kernel
theorem dX6_goTogether_12 : decode cX6_goTogether 12 = .ok (.ifCond .ne 7, 3) := by decide +kernel
theorem dX6_goTogether_15 : decode cX6_goTogether 15 = .ok (.iconst 1, 1) := by decide +kernel
theorem dX6_goTogether_16 : decode cX6_goTogether 16 = .ok (.goto 4, 3) := by decide +kernel
theorem dX6_goTogether_19 : decode cX6_goTogether 19 = .ok (.iconst 0, 1) := by decide +kernel
theorem dX6_goTogether_20 : decode cX6_goTogether 20 = .ok (.ireturn, 1) := by decide +kernel
theorem dX6_countAnew_0 : decode cX6_countAnew 0 = .ok (.aload_n 0, 1) := by decide +kernel
theorem dX6_countAnew_1 : decode cX6_countAnew 1 = .ok (.getfield 33, 3) := by decide +kernel
theorem dX6_countAnew_4 : decode cX6_countAnew 4 = .ok (.invokevirtual 229, 3) := by decide +kernel
theorem dX6_countAnew_7 : decode cX6_countAnew 7 = .ok (.aload_n 0, 1) := by decide +kernel
theorem dX6_countAnew_8 : decode cX6_countAnew 8 = .ok (.iload_n 1, 1) := by decide +kernel
theorem dX6_countAnew_9 : decode cX6_countAnew 9 = .ok (.invokevirtual 155, 3) := by decide +kernel
theorem dX6_countAnew_12 : decode cX6_countAnew 12 = .ok (.return_, 1) := by decide +kernel
theorem dX6_countOn_0 : decode cX6_countOn 0 = .ok (.iload_n 1, 1) := by decide +kernel
theorem dX6_countOn_1 : decode cX6_countOn 1 = .ok (.aload_n 0, 1) := by decide +kernel
theorem dX6_countOn_2 : decode cX6_countOn 2 = .ok (.getfield 33, 3) := by decide +kernel
theorem dX6_countOn_5 : decode cX6_countOn 5 = .ok (.getfield 232, 3) := by decide +kernel
theorem dX6_countOn_8 : decode cX6_countOn 8 = .ok (.ixor, 1) := by decide +kernel
theorem dX6_countOn_9 : decode cX6_countOn 9 = .ok (.istore_n 2, 1) := by decide +kernel
theorem dX6_countOn_10 : decode cX6_countOn 10 = .ok (.iconst 0, 1) := by decide +kernel
theorem dX6_countOn_11 : decode cX6_countOn 11 = .ok (.istore_n 3, 1) := by decide +kernel
theorem dX6_countOn_12 : decode cX6_countOn 12 = .ok (.iload_n 3, 1) := by decide +kernel
theorem dX6_countOn_13 : decode cX6_countOn 13 = .ok (.aload_n 0, 1) := by decide +kernel
theorem dX6_countOn_14 : decode cX6_countOn 14 = .ok (.getfield 19, 3) := by decide +kernel
theorem dX6_countOn_17 : decode cX6_countOn 17 = .ok (.getfield 193, 3) := by decide +kernel
theorem dX6_countOn_20 : decode cX6_countOn 20 = .ok (.if_icmp .ge 37, 3) := by decide +kernel
theorem dX6_countOn_23 : decode cX6_countOn 23 = .ok (.iload_n 2, 1) := by decide +kernel
theorem dX6_countOn_24 : decode cX6_countOn 24 = .ok (.iload_n 3, 1) := by decide +kernel
theorem dX6_countOn_25 : decode cX6_countOn 25 = .ok (.ishr, 1) := by decide +kernel
theorem dX6_countOn_26 : decode cX6_countOn 26 = .ok (.iconst 1, 1) := by decide +kernel
theorem dX6_countOn_27 : decode cX6_countOn 27 = .ok (.iand, 1) := by decide +kernel
theorem dX6_countOn_28 : decode cX6_countOn 28 = .ok (.iconst 1, 1) := by decide +kernel
theorem dX6_countOn_29 : decode cX6_countOn 29 = .ok (.if_icmp .ne 22, 3) := by decide +kernel
theorem dX6_countOn_32 : decode cX6_countOn 32 = .ok (.aload_n 0, 1) := by decide +kernel
theorem dX6_countOn_33 : decode cX6_countOn 33 = .ok (.iload_n 3, 1) := by decide +kernel
theorem dX6_countOn_34 : decode cX6_countOn 34 = .ok (.iload_n 1, 1) := by decide +kernel
theorem dX6_countOn_35 : decode cX6_countOn 35 = .ok (.iload_n 3, 1) := by decide +kernel
theorem dX6_countOn_36 : decode cX6_countOn 36 = .ok (.ishr, 1) := by decide +kernel
theorem dX6_countOn_37 : decode cX6_countOn 37 = .ok (.iconst 1, 1) := by decide +kernel
theorem dX6_countOn_38 : decode cX6_countOn 38 = .ok (.iand, 1) := by decide +kernel
theorem dX6_countOn_39 : decode cX6_countOn 39 = .ok (.iconst 1, 1) := by decide +kernel
theorem dX6_countOn_40 : decode cX6_countOn 40 = .ok (.if_icmp .ne 7, 3) := by decide +kernel
theorem dX6_countOn_43 : decode cX6_countOn 43 = .ok (.iconst 1, 1) := by decide +kernel
theorem dX6_countOn_44 : decode cX6_countOn 44 = .ok (.goto 4, 3) := by decide +kernel
theorem dX6_countOn_47 : decode cX6_countOn 47 = .ok (.iconst (-1), 1) := by decide +kernel
theorem dX6_countOn_48 : decode cX6_countOn 48 = .ok (.invokevirtual 235, 3) := by decide +kernel
theorem dX6_countOn_51 : decode cX6_countOn 51 = .ok (.iinc 3 1, 3) := by decide +kernel
theorem dX6_countOn_54 : decode cX6_countOn 54 = .ok (.goto (-42), 3) := by decide +kernel
theorem dX6_countOn_57 : decode cX6_countOn 57 = .ok (.aload_n 0, 1) := by decide +kernel
theorem dX6_countOn_58 : decode cX6_countOn 58 = .ok (.getfield 33, 3) := by decide +kernel
theorem dX6_countOn_61 : decode cX6_countOn 61 = .ok (.iload_n 1, 1) := by decide +kernel
theorem dX6_countOn_62 : decode cX6_countOn 62 = .ok (.putfield 232, 3) := by decide +kernel
theorem dX6_countOn_65 : decode cX6_countOn 65 = .ok (.return_, 1) := by decide +kernel
theorem dX6_enter_0 : decode cX6_enter 0 = .ok (.aload_n 0, 1) := by decide +kernel
theorem dX6_enter_1 : decode cX6_enter 1 = .ok (.getfield 26, 3) := by decide +kernel
theorem dX6_enter_4 : decode cX6_enter 4 = .ok (.aload_n 0, 1) := by decide +kernel
theorem dX6_enter_5 : decode cX6_enter 5 = .ok (.getfield 19, 3) := by decide +kernel
theorem dX6_enter_8 : decode cX6_enter 8 = .ok (.getfield 197, 3) := by decide +kernel
theorem dX6_enter_11 : decode cX6_enter 11 = .ok (.iload_n 1, 1) := by decide +kernel
theorem dX6_enter_12 : decode cX6_enter 12 = .ok (.iaload, 1) := by decide +kernel
theorem dX6_enter_13 : decode cX6_enter 13 = .ok (.invokevirtual 238, 3) := by decide +kernel
theorem dX6_enter_16 : decode cX6_enter 16 = .ok (.istore_n 3, 1) := by decide +kernel
theorem dX6_enter_17 : decode cX6_enter 17 = .ok (.iconst 0, 1) := by decide +kernel
theorem dX6_enter_18 : decode cX6_enter 18 = .ok (.istore 4, 2) := by decide +kernel
theorem dX6_enter_20 : decode cX6_enter 20 = .ok (.iload 4, 2) := by decide +kernel
theorem dX6_enter_22 : decode cX6_enter 22 = .ok (.bipush 6, 2) := by decide +kernel
theorem dX6_enter_24 : decode cX6_enter 24 = .ok (.if_icmp .ge 103, 3) := by decide +kernel
theorem dX6_enter_27 : decode cX6_enter 27 = .ok (.aload_n 0, 1) := by decide +kernel
theorem dX6_enter_28 : decode cX6_enter 28 = .ok (.getfield 19, 3) := by decide +kernel
theorem dX6_enter_31 : decode cX6_enter 31 = .ok (.getfield 99, 3) := by decide +kernel
theorem dX6_enter_34 : decode cX6_enter 34 = .ok (.iload_n 1, 1) := by decide +kernel
theorem dX6_enter_35 : decode cX6_enter 35 = .ok (.iload 4, 2) := by decide +kernel
theorem dX6_enter_37 : decode cX6_enter 37 = .ok (.invokestatic 102, 3) := by decide +kernel
theorem dX6_enter_40 : decode cX6_enter 40 = .ok (.iaload, 1) := by decide +kernel
theorem dX6_enter_41 : decode cX6_enter 41 = .ok (.istore 5, 2) := by decide +kernel
theorem dX6_enter_43 : decode cX6_enter 43 = .ok (.aload_n 0, 1) := by decide +kernel
theorem dX6_enter_44 : decode cX6_enter 44 = .ok (.getfield 19, 3) := by decide +kernel
theorem dX6_enter_47 : decode cX6_enter 47 = .ok (.getfield 197, 3) := by decide +kernel
theorem dX6_enter_50 : decode cX6_enter 50 = .ok (.iload_n 1, 1) := by decide +kernel
theorem dX6_enter_51 : decode cX6_enter 51 = .ok (.iaload, 1) := by decide +kernel
theorem dX6_enter_52 : decode cX6_enter 52 = .ok (.iload_n 3, 1) := by decide +kernel
theorem dX6_enter_53 : decode cX6_enter 53 = .ok (.ifCond .eq 16, 3) := by decide +kernel
theorem dX6_enter_56 : decode cX6_enter 56 = .ok (.aload_n 0, 1) := by decide +kernel
theorem dX6_enter_57 : decode cX6_enter 57 = .ok (.getfield 12, 3) := by decide +kernel
theorem dX6_enter_60 : decode cX6_enter 60 = .ok (.getfield 76, 3) := by decide +kernel
theorem dX6_enter_63 : decode cX6_enter 63 = .ok (.iload 4, 2) := by decide +kernel
theorem dX6_enter_65 : decode cX6_enter 65 = .ok (.iaload, 1) := by decide +kernel
theorem dX6_enter_66 : decode cX6_enter 66 = .ok (.goto 4, 3) := by decide +kernel
theorem dX6_enter_69 : decode cX6_enter 69 = .ok (.iconst 0, 1) := by decide +kernel
theorem dX6_enter_70 : decode cX6_enter 70 = .ok (.iadd, 1) := by decide +kernel
theorem dX6_enter_71 : decode cX6_enter 71 = .ok (.istore 6, 2) := by decide +kernel
theorem dX6_enter_73 : decode cX6_enter 73 = .ok (.iload 5, 2) := by decide +kernel
theorem dX6_enter_75 : decode cX6_enter 75 = .ok (.ifCond .le 46, 3) := by decide +kernel
theorem dX6_enter_78 : decode cX6_enter 78 = .ok (.aload_n 0, 1) := by decide +kernel
theorem dX6_enter_79 : decode cX6_enter 79 = .ok (.getfield 33, 3) := by decide +kernel
theorem dX6_enter_82 : decode cX6_enter 82 = .ok (.iload 4, 2) := by decide +kernel
theorem dX6_enter_84 : decode cX6_enter 84 = .ok (.aload_n 0, 1) := by decide +kernel
theorem dX6_enter_85 : decode cX6_enter 85 = .ok (.getfield 19, 3) := by decide +kernel
theorem dX6_enter_88 : decode cX6_enter 88 = .ok (.getfield 194, 3) := by decide +kernel
theorem dX6_enter_91 : decode cX6_enter 91 = .ok (.iload_n 1, 1) := by decide +kernel
theorem dX6_enter_92 : decode cX6_enter 92 = .ok (.iaload, 1) := by decide +kernel
theorem dX6_enter_93 : decode cX6_enter 93 = .ok (.iload 6, 2) := by decide +kernel
theorem dX6_enter_95 : decode cX6_enter 95 = .ok (.iload_n 2, 1) := by decide +kernel
theorem dX6_enter_96 : decode cX6_enter 96 = .ok (.iload 5, 2) := by decide +kernel
theorem dX6_enter_98 : decode cX6_enter 98 = .ok (.imul, 1) := by decide +kernel
theorem dX6_enter_99 : decode cX6_enter 99 = .ok (.aload_n 0, 1) := by decide +kernel
theorem dX6_enter_100 : decode cX6_enter 100 = .ok (.getfield 12, 3) := by decide +kernel
theorem dX6_enter_103 : decode cX6_enter 103 = .ok (.iload 4, 2) := by decide +kernel
theorem dX6_enter_105 : decode cX6_enter 105 = .ok (.invokevirtual 141, 3) := by decide +kernel
theorem dX6_enter_108 : decode cX6_enter 108 = .ok (.aload_n 0, 1) := by decide +kernel
theorem dX6_enter_109 : decode cX6_enter 109 = .ok (.getfield 12, 3) := by decide +kernel
theorem dX6_enter_112 : decode cX6_enter 112 = .ok (.getfield 82, 3) := by decide +kernel
theorem dX6_enter_115 : decode cX6_enter 115 = .ok (.iload 4, 2) := by decide +kernel
theorem dX6_enter_117 : decode cX6_enter 117 = .ok (.iaload, 1) := by decide +kernel
theorem dX6_enter_118 : decode cX6_enter 118 = .ok (.invokevirtual 241, 3) := by decide +kernel
theorem dX6_enter_121 : decode cX6_enter 121 = .ok (.iinc 4 1, 3) := by decide +kernel
theorem dX6_enter_124 : decode cX6_enter 124 = .ok (.goto (-104), 3) := by decide +kernel
theorem dX6_enter_127 : decode cX6_enter 127 = .ok (.return_, 1) := by decide +kernel
theorem dX6_stands_0 : decode cX6_stands 0 = .ok (.iload_n 2, 1) := by decide +kernel
theorem dX6_stands_1 : decode cX6_stands 1 = .ok (.iload_n 2, 1) := by decide +kernel
theorem dX6_stands_2 : decode cX6_stands 2 = .ok (.imul, 1) := by decide +kernel
theorem dX6_stands_3 : decode cX6_stands 3 = .ok (.aload_n 0, 1) := by decide +kernel
theorem dX6_stands_4 : decode cX6_stands 4 = .ok (.getfield 19, 3) := by decide +kernel
theorem dX6_stands_7 : decode cX6_stands 7 = .ok (.getfield 183, 3) := by decide +kernel
theorem dX6_stands_10 : decode cX6_stands 10 = .ok (.iload_n 1, 1) := by decide +kernel
theorem dX6_stands_11 : decode cX6_stands 11 = .ok (.iaload, 1) := by decide +kernel
theorem dX6_stands_12 : decode cX6_stands 12 = .ok (.imul, 1) := by decide +kernel
theorem dX6_stands_13 : decode cX6_stands 13 = .ok (.aload_n 0, 1) := by decide +kernel
theorem dX6_stands_14 : decode cX6_stands 14 = .ok (.getfield 51, 3) := by decide +kernel
theorem dX6_stands_17 : decode cX6_stands 17 = .ok (.aload_n 0, 1) := by decide +kernel
theorem dX6_stands_18 : decode cX6_stands 18 = .ok (.getfield 19, 3) := by decide +kernel
theorem dX6_stands_21 : decode cX6_stands 21 = .ok (.getfield 180, 3) := by decide +kernel
theorem dX6_stands_24 : decode cX6_stands 24 = .ok (.iload_n 1, 1) := by decide +kernel
theorem dX6_stands_25 : decode cX6_stands 25 = .ok (.iaload, 1) := by decide +kernel
theorem dX6_stands_26 : decode cX6_stands 26 = .ok (.iaload, 1) := by decide +kernel
theorem dX6_stands_27 : decode cX6_stands 27 = .ok (.aload_n 0, 1) := by decide +kernel
theorem dX6_stands_28 : decode cX6_stands 28 = .ok (.getfield 19, 3) := by decide +kernel
theorem dX6_stands_31 : decode cX6_stands 31 = .ok (.getfield 186, 3) := by decide +kernel
theorem dX6_stands_34 : decode cX6_stands 34 = .ok (.iload_n 1, 1) := by decide +kernel
theorem dX6_stands_35 : decode cX6_stands 35 = .ok (.iaload, 1) := by decide +kernel
theorem dX6_stands_36 : decode cX6_stands 36 = .ok (.imul, 1) := by decide +kernel
theorem dX6_stands_37 : decode cX6_stands 37 = .ok (.if_icmp .gt 7, 3) := by decide +kernel
theorem dX6_stands_40 : decode cX6_stands 40 = .ok (.iconst 1, 1) := by decide +kernel
theorem dX6_stands_41 : decode cX6_stands 41 = .ok (.goto 4, 3) := by decide +kernel
theorem dX6_stands_44 : decode cX6_stands 44 = .ok (.iconst 0, 1) := by decide +kernel
theorem dX6_stands_45 : decode cX6_stands 45 = .ok (.ireturn, 1) := by decide +kernel
theorem dX6_sendCrews_0 : decode cX6_sendCrews 0 = .ok (.aload_n 0, 1) := by decide +kernel
theorem dX6_sendCrews_1 : decode cX6_sendCrews 1 = .ok (.getfield 47, 3) := by decide +kernel
theorem dX6_sendCrews_4 : decode cX6_sendCrews 4 = .ok (.invokevirtual 244, 3) := by decide +kernel
theorem dX6_sendCrews_7 : decode cX6_sendCrews 7 = .ok (.iconst 0, 1) := by decide +kernel
theorem dX6_sendCrews_8 : decode cX6_sendCrews 8 = .ok (.istore_n 3, 1) := by decide +kernel
theorem dX6_sendCrews_9 : decode cX6_sendCrews 9 = .ok (.iload_n 3, 1) := by decide +kernel
theorem dX6_sendCrews_10 : decode cX6_sendCrews 10 = .ok (.aload_n 0, 1) := by decide +kernel
theorem dX6_sendCrews_11 : decode cX6_sendCrews 11 = .ok (.getfield 19, 3) := by decide +kernel
theorem dX6_sendCrews_14 : decode cX6_sendCrews 14 = .ok (.getfield 193, 3) := by decide +kernel
theorem dX6_sendCrews_17 : decode cX6_sendCrews 17 = .ok (.if_icmp .ge 42, 3) := by decide +kernel
theorem dX6_sendCrews_20 : decode cX6_sendCrews 20 = .ok (.aload_n 0, 1) := by decide +kernel
theorem dX6_sendCrews_21 : decode cX6_sendCrews 21 = .ok (.getfield 19, 3) := by decide +kernel
theorem dX6_sendCrews_24 : decode cX6_sendCrews 24 = .ok (.iload_n 3, 1) := by decide +kernel
theorem dX6_sendCrews_25 : decode cX6_sendCrews 25 = .ok (.iload_n 1, 1) := by decide +kernel
theorem dX6_sendCrews_26 : decode cX6_sendCrews 26 = .ok (.invokevirtual 210, 3) := by decide +kernel
theorem dX6_sendCrews_29 : decode cX6_sendCrews 29 = .ok (.ifCond .eq 24, 3) := by decide +kernel
theorem dX6_sendCrews_32 : decode cX6_sendCrews 32 = .ok (.aload_n 0, 1) := by decide +kernel
theorem dX6_sendCrews_33 : decode cX6_sendCrews 33 = .ok (.getfield 47, 3) := by decide +kernel
theorem dX6_sendCrews_36 : decode cX6_sendCrews 36 = .ok (.iload_n 3, 1) := by decide +kernel
theorem dX6_sendCrews_37 : decode cX6_sendCrews 37 = .ok (.aload_n 0, 1) := by decide +kernel
theorem dX6_sendCrews_38 : decode cX6_sendCrews 38 = .ok (.getfield 19, 3) := by decide +kernel
theorem dX6_sendCrews_41 : decode cX6_sendCrews 41 = .ok (.getfield 183, 3) := by decide +kernel
theorem dX6_sendCrews_44 : decode cX6_sendCrews 44 = .ok (.iload_n 3, 1) := by decide +kernel
theorem dX6_sendCrews_45 : decode cX6_sendCrews 45 = .ok (.iaload, 1) := by decide +kernel
theorem dX6_sendCrews_46 : decode cX6_sendCrews 46 = .ok (.iconst 2, 1) := by decide +kernel
theorem dX6_sendCrews_47 : decode cX6_sendCrews 47 = .ok (.imul, 1) := by decide +kernel
theorem dX6_sendCrews_48 : decode cX6_sendCrews 48 = .ok (.iconst 1, 1) := by decide +kernel
theorem dX6_sendCrews_49 : decode cX6_sendCrews 49 = .ok (.iadd, 1) := by decide +kernel
theorem dX6_sendCrews_50 : decode cX6_sendCrews 50 = .ok (.invokevirtual 245, 3) := by decide +kernel
theorem dX6_sendCrews_53 : decode cX6_sendCrews 53 = .ok (.iinc 3 1, 3) := by decide +kernel
theorem dX6_sendCrews_56 : decode cX6_sendCrews 56 = .ok (.goto (-47), 3) := by decide +kernel
theorem dX6_sendCrews_59 : decode cX6_sendCrews 59 = .ok (.aload_n 0, 1) := by decide +kernel
theorem dX6_sendCrews_60 : decode cX6_sendCrews 60 = .ok (.getfield 47, 3) := by decide +kernel
theorem dX6_sendCrews_63 : decode cX6_sendCrews 63 = .ok (.iload_n 2, 1) := by decide +kernel
theorem dX6_sendCrews_64 : decode cX6_sendCrews 64 = .ok (.invokevirtual 248, 3) := by decide +kernel
theorem dX6_sendCrews_67 : decode cX6_sendCrews 67 = .ok (.return_, 1) := by decide +kernel
theorem dX6_weightOf_0 : decode cX6_weightOf 0 = .ok (.iconst 0, 1) := by decide +kernel
theorem dX6_weightOf_1 : decode cX6_weightOf 1 = .ok (.istore_n 2, 1) := by decide +kernel
theorem dX6_weightOf_2 : decode cX6_weightOf 2 = .ok (.iconst 0, 1) := by decide +kernel
theorem dX6_weightOf_3 : decode cX6_weightOf 3 = .ok (.istore_n 3, 1) := by decide +kernel
theorem dX6_weightOf_4 : decode cX6_weightOf 4 = .ok (.iload_n 3, 1) := by decide +kernel
theorem dX6_weightOf_5 : decode cX6_weightOf 5 = .ok (.bipush 6, 2) := by decide +kernel
theorem dX6_weightOf_7 : decode cX6_weightOf 7 = .ok (.if_icmp .ge 35, 3) := by decide +kernel
theorem dX6_weightOf_10 : decode cX6_weightOf 10 = .ok (.iload_n 2, 1) := by decide +kernel
theorem dX6_weightOf_11 : decode cX6_weightOf 11 = .ok (.aload_n 0, 1) := by decide +kernel
theorem dX6_weightOf_12 : decode cX6_weightOf 12 = .ok (.getfield 19, 3) := by decide +kernel
theorem dX6_weightOf_15 : decode cX6_weightOf 15 = .ok (.getfield 99, 3) := by decide +kernel
theorem dX6_weightOf_18 : decode cX6_weightOf 18 = .ok (.iload_n 1, 1) := by decide +kernel
theorem dX6_weightOf_19 : decode cX6_weightOf 19 = .ok (.iload_n 3, 1) := by decide +kernel
theorem dX6_weightOf_20 : decode cX6_weightOf 20 = .ok (.invokestatic 102, 3) := by decide +kernel
theorem dX6_weightOf_23 : decode cX6_weightOf 23 = .ok (.iaload, 1) := by decide +kernel
theorem dX6_weightOf_24 : decode cX6_weightOf 24 = .ok (.aload_n 0, 1) := by decide +kernel
theorem dX6_weightOf_25 : decode cX6_weightOf 25 = .ok (.getfield 12, 3) := by decide +kernel
theorem dX6_weightOf_28 : decode cX6_weightOf 28 = .ok (.getfield 79, 3) := by decide +kernel
theorem dX6_weightOf_31 : decode cX6_weightOf 31 = .ok (.iload_n 3, 1) := by decide +kernel
theorem dX6_weightOf_32 : decode cX6_weightOf 32 = .ok (.iaload, 1) := by decide +kernel
theorem dX6_weightOf_33 : decode cX6_weightOf 33 = .ok (.imul, 1) := by decide +kernel
theorem dX6_weightOf_34 : decode cX6_weightOf 34 = .ok (.iadd, 1) := by decide +kernel
theorem dX6_weightOf_35 : decode cX6_weightOf 35 = .ok (.istore_n 2, 1) := by decide +kernel
theorem dX6_weightOf_36 : decode cX6_weightOf 36 = .ok (.iinc 3 1, 3) := by decide +kernel
theorem dX6_weightOf_39 : decode cX6_weightOf 39 = .ok (.goto (-35), 3) := by decide +kernel
theorem dX6_weightOf_42 : decode cX6_weightOf 42 = .ok (.iload_n 2, 1) := by decide +kernel
theorem dX6_weightOf_43 : decode cX6_weightOf 43 = .ok (.ireturn, 1) := by decide +kernel
theorem dX6_total_0 : decode cX6_total 0 = .ok (.iload_n 1, 1) := by decide +kernel
theorem dX6_total_1 : decode cX6_total 1 = .ok (.tableswitch 79 0 4 #[35, 43, 55, 63, 71], 35) := by decide +kernel
theorem dX6_total_36 : decode cX6_total 36 = .ok (.aload_n 0, 1) := by decide +kernel
theorem dX6_total_37 : decode cX6_total 37 = .ok (.getfield 19, 3) := by decide +kernel
theorem dX6_total_40 : decode cX6_total 40 = .ok (.getfield 193, 3) := by decide +kernel
theorem dX6_total_43 : decode cX6_total 43 = .ok (.ireturn, 1) := by decide +kernel
theorem dX6_total_44 : decode cX6_total 44 = .ok (.aload_n 0, 1) := by decide +kernel
theorem dX6_total_45 : decode cX6_total 45 = .ok (.getfield 19, 3) := by decide +kernel
theorem dX6_total_48 : decode cX6_total 48 = .ok (.iconst 1, 1) := by decide +kernel
theorem dX6_total_49 : decode cX6_total 49 = .ok (.invokevirtual 110, 3) := by decide +kernel
theorem dX6_total_52 : decode cX6_total 52 = .ok (.invokestatic 163, 3) := by decide +kernel
theorem dX6_total_55 : decode cX6_total 55 = .ok (.ireturn, 1) := by decide +kernel
theorem dX6_total_56 : decode cX6_total 56 = .ok (.aload_n 0, 1) := by decide +kernel
theorem dX6_total_57 : decode cX6_total 57 = .ok (.getfield 40, 3) := by decide +kernel
theorem dX6_total_60 : decode cX6_total 60 = .ok (.getfield 174, 3) := by decide +kernel
theorem dX6_total_63 : decode cX6_total 63 = .ok (.ireturn, 1) := by decide +kernel
theorem dX6_total_64 : decode cX6_total 64 = .ok (.aload_n 0, 1) := by decide +kernel
theorem dX6_total_65 : decode cX6_total 65 = .ok (.getfield 26, 3) := by decide +kernel
theorem dX6_total_68 : decode cX6_total 68 = .ok (.getfield 251, 3) := by decide +kernel
theorem dX6_total_71 : decode cX6_total 71 = .ok (.ireturn, 1) := by decide +kernel
theorem dX6_total_72 : decode cX6_total 72 = .ok (.aload_n 0, 1) := by decide +kernel
theorem dX6_total_73 : decode cX6_total 73 = .ok (.getfield 12, 3) := by decide +kernel
theorem dX6_total_76 : decode cX6_total 76 = .ok (.invokevirtual 254, 3) := by decide +kernel
theorem dX6_total_79 : decode cX6_total 79 = .ok (.ireturn, 1) := by decide +kernel
theorem dX6_total_80 : decode cX6_total 80 = .ok (.aload_n 0, 1) := by decide +kernel
theorem dX6_total_81 : decode cX6_total 81 = .ok (.getfield 61, 3) := by decide +kernel
theorem dX6_total_84 : decode cX6_total 84 = .ok (.ireturn, 1) := by decide +kernel
theorem dJ6_bitCount_0f7a4_0 : decode cJ6_bitCount_0f7a4 0 = .ok (.iload_n 0, 1) := by decide +kernel
theorem dJ6_bitCount_0f7a4_1 : decode cJ6_bitCount_0f7a4 1 = .ok (.iload_n 0, 1) := by decide +kernel
theorem dJ6_bitCount_0f7a4_2 : decode cJ6_bitCount_0f7a4 2 = .ok (.iconst 1, 1) := by decide +kernel
theorem dJ6_bitCount_0f7a4_3 : decode cJ6_bitCount_0f7a4 3 = .ok (.iushr, 1) := by decide +kernel
theorem dJ6_bitCount_0f7a4_4 : decode cJ6_bitCount_0f7a4 4 = .ok (.ldc_w 265, 3) := by decide +kernel
theorem dJ6_bitCount_0f7a4_7 : decode cJ6_bitCount_0f7a4 7 = .ok (.iand, 1) := by decide +kernel
theorem dJ6_bitCount_0f7a4_8 : decode cJ6_bitCount_0f7a4 8 = .ok (.isub, 1) := by decide +kernel
theorem dJ6_bitCount_0f7a4_9 : decode cJ6_bitCount_0f7a4 9 = .ok (.istore_n 0, 1) := by decide +kernel
theorem dJ6_bitCount_0f7a4_10 : decode cJ6_bitCount_0f7a4 10 = .ok (.iload_n 0, 1) := by decide +kernel
theorem dJ6_bitCount_0f7a4_11 : decode cJ6_bitCount_0f7a4 11 = .ok (.ldc_w 266, 3) := by decide +kernel
theorem dJ6_bitCount_0f7a4_14 : decode cJ6_bitCount_0f7a4 14 = .ok (.iand, 1) := by decide +kernel
theorem dJ6_bitCount_0f7a4_15 : decode cJ6_bitCount_0f7a4 15 = .ok (.iload_n 0, 1) := by decide +kernel
theorem dJ6_bitCount_0f7a4_16 : decode cJ6_bitCount_0f7a4 16 = .ok (.iconst 2, 1) := by decide +kernel
theorem dJ6_bitCount_0f7a4_17 : decode cJ6_bitCount_0f7a4 17 = .ok (.iushr, 1) := by decide +kernel
theorem dJ6_bitCount_0f7a4_18 : decode cJ6_bitCount_0f7a4 18 = .ok (.ldc_w 266, 3) := by decide +kernel
theorem dJ6_bitCount_0f7a4_21 : decode cJ6_bitCount_0f7a4 21 = .ok (.iand, 1) := by decide +kernel
theorem dJ6_bitCount_0f7a4_22 : decode cJ6_bitCount_0f7a4 22 = .ok (.iadd, 1) := by decide +kernel
theorem dJ6_bitCount_0f7a4_23 : decode cJ6_bitCount_0f7a4 23 = .ok (.istore_n 0, 1) := by decide +kernel
theorem dJ6_bitCount_0f7a4_24 : decode cJ6_bitCount_0f7a4 24 = .ok (.iload_n 0, 1) := by decide +kernel
theorem dJ6_bitCount_0f7a4_25 : decode cJ6_bitCount_0f7a4 25 = .ok (.iload_n 0, 1) := by decide +kernel
theorem dJ6_bitCount_0f7a4_26 : decode cJ6_bitCount_0f7a4 26 = .ok (.iconst 4, 1) := by decide +kernel
theorem dJ6_bitCount_0f7a4_27 : decode cJ6_bitCount_0f7a4 27 = .ok (.iushr, 1) := by decide +kernel
theorem dJ6_bitCount_0f7a4_28 : decode cJ6_bitCount_0f7a4 28 = .ok (.iadd, 1) := by decide +kernel
theorem dJ6_bitCount_0f7a4_29 : decode cJ6_bitCount_0f7a4 29 = .ok (.ldc_w 267, 3) := by decide +kernel
theorem dJ6_bitCount_0f7a4_32 : decode cJ6_bitCount_0f7a4 32 = .ok (.iand, 1) := by decide +kernel
theorem dJ6_bitCount_0f7a4_33 : decode cJ6_bitCount_0f7a4 33 = .ok (.istore_n 0, 1) := by decide +kernel
theorem dJ6_bitCount_0f7a4_34 : decode cJ6_bitCount_0f7a4 34 = .ok (.iload_n 0, 1) := by decide +kernel
theorem dJ6_bitCount_0f7a4_35 : decode cJ6_bitCount_0f7a4 35 = .ok (.iload_n 0, 1) := by decide +kernel
theorem dJ6_bitCount_0f7a4_36 : decode cJ6_bitCount_0f7a4 36 = .ok (.bipush 8, 2) := by decide +kernel
theorem dJ6_bitCount_0f7a4_38 : decode cJ6_bitCount_0f7a4 38 = .ok (.iushr, 1) := by decide +kernel
theorem dJ6_bitCount_0f7a4_39 : decode cJ6_bitCount_0f7a4 39 = .ok (.iadd, 1) := by decide +kernel
theorem dJ6_bitCount_0f7a4_40 : decode cJ6_bitCount_0f7a4 40 = .ok (.istore_n 0, 1) := by decide +kernel
theorem dJ6_bitCount_0f7a4_41 : decode cJ6_bitCount_0f7a4 41 = .ok (.iload_n 0, 1) := by decide +kernel
theorem dJ6_bitCount_0f7a4_42 : decode cJ6_bitCount_0f7a4 42 = .ok (.iload_n 0, 1) := by decide +kernel
theorem dJ6_bitCount_0f7a4_43 : decode cJ6_bitCount_0f7a4 43 = .ok (.bipush 16, 2) := by decide +kernel
theorem dJ6_bitCount_0f7a4_45 : decode cJ6_bitCount_0f7a4 45 = .ok (.iushr, 1) := by decide +kernel
theorem dJ6_bitCount_0f7a4_46 : decode cJ6_bitCount_0f7a4 46 = .ok (.iadd, 1) := by decide +kernel
theorem dJ6_bitCount_0f7a4_47 : decode cJ6_bitCount_0f7a4 47 = .ok (.istore_n 0, 1) := by decide +kernel
theorem dJ6_bitCount_0f7a4_48 : decode cJ6_bitCount_0f7a4 48 = .ok (.iload_n 0, 1) := by decide +kernel
theorem dJ6_bitCount_0f7a4_49 : decode cJ6_bitCount_0f7a4 49 = .ok (.bipush 63, 2) := by decide +kernel
theorem dJ6_bitCount_0f7a4_51 : decode cJ6_bitCount_0f7a4 51 = .ok (.iand, 1) := by decide +kernel
theorem dJ6_bitCount_0f7a4_52 : decode cJ6_bitCount_0f7a4 52 = .ok (.ireturn, 1) := by decide +kernel
theorem dJ9_max_7cf53_0 : decode cJ9_max_7cf53 0 = .ok (.iload_n 0, 1) := by decide +kernel
theorem dJ9_max_7cf53_1 : decode cJ9_max_7cf53 1 = .ok (.iload_n 1, 1) := by decide +kernel
theorem dJ9_max_7cf53_2 : decode cJ9_max_7cf53 2 = .ok (.if_icmp .lt 7, 3) := by decide +kernel
theorem dJ9_max_7cf53_5 : decode cJ9_max_7cf53 5 = .ok (.iload_n 0, 1) := by decide +kernel
theorem dJ9_max_7cf53_6 : decode cJ9_max_7cf53 6 = .ok (.goto 4, 3) := by decide +kernel
theorem dJ9_max_7cf53_9 : decode cJ9_max_7cf53 9 = .ok (.iload_n 1, 1) := by decide +kernel
theorem dJ9_max_7cf53_10 : decode cJ9_max_7cf53 10 = .ok (.ireturn, 1) := by decide +kernel
theorem dJ7_fill_53178_0 : decode cJ7_fill_53178 0 = .ok (.iconst 0, 1) := by decide +kernel
theorem dJ7_fill_53178_1 : decode cJ7_fill_53178 1 = .ok (.istore_n 2, 1) := by decide +kernel
theorem dJ7_fill_53178_2 : decode cJ7_fill_53178 2 = .ok (.aload_n 0, 1) := by decide +kernel
theorem dJ7_fill_53178_3 : decode cJ7_fill_53178 3 = .ok (.arraylength, 1) := by decide +kernel
theorem dJ7_fill_53178_4 : decode cJ7_fill_53178 4 = .ok (.istore_n 3, 1) := by decide +kernel
theorem dJ7_fill_53178_5 : decode cJ7_fill_53178 5 = .ok (.iload_n 2, 1) := by decide +kernel
theorem dJ7_fill_53178_6 : decode cJ7_fill_53178 6 = .ok (.iload_n 3, 1) := by decide +kernel
theorem dJ7_fill_53178_7 : decode cJ7_fill_53178 7 = .ok (.if_icmp .ge 13, 3) := by decide +kernel
theorem dJ7_fill_53178_10 : decode cJ7_fill_53178 10 = .ok (.aload_n 0, 1) := by decide +kernel
theorem dJ7_fill_53178_11 : decode cJ7_fill_53178 11 = .ok (.iload_n 2, 1) := by decide +kernel
theorem dJ7_fill_53178_12 : decode cJ7_fill_53178 12 = .ok (.iload_n 1, 1) := by decide +kernel
theorem dJ7_fill_53178_13 : decode cJ7_fill_53178 13 = .ok (.iastore, 1) := by decide +kernel
theorem dJ7_fill_53178_14 : decode cJ7_fill_53178 14 = .ok (.iinc 2 1, 3) := by decide +kernel
theorem dJ7_fill_53178_17 : decode cJ7_fill_53178 17 = .ok (.goto (-12), 3) := by decide +kernel
theorem dJ7_fill_53178_20 : decode cJ7_fill_53178 20 = .ok (.return_, 1) := by decide +kernel

theorem dX0_init_0 : decode cX0_init 0 = .ok (.aload_n 0, 1) := by decide +kernel
theorem dX0_init_1 : decode cX0_init 1 = .ok (.invokespecial 3, 3) := by decide +kernel
theorem dX0_init_4 : decode cX0_init 4 = .ok (.aload_n 0, 1) := by decide +kernel
theorem dX0_init_5 : decode cX0_init 5 = .ok (.bipush 16, 2) := by decide +kernel
theorem dX0_init_7 : decode cX0_init 7 = .ok (.newarray .int, 2) := by decide +kernel
theorem dX0_init_9 : decode cX0_init 9 = .ok (.putfield 9, 3) := by decide +kernel
theorem dX0_init_12 : decode cX0_init 12 = .ok (.aload_n 0, 1) := by decide +kernel
theorem dX0_init_13 : decode cX0_init 13 = .ok (.bipush 16, 2) := by decide +kernel
theorem dX0_init_15 : decode cX0_init 15 = .ok (.newarray .int, 2) := by decide +kernel
theorem dX0_init_17 : decode cX0_init 17 = .ok (.putfield 15, 3) := by decide +kernel
theorem dX0_init_20 : decode cX0_init 20 = .ok (.aload_n 0, 1) := by decide +kernel
theorem dX0_init_21 : decode cX0_init 21 = .ok (.bipush 16, 2) := by decide +kernel
theorem dX0_init_23 : decode cX0_init 23 = .ok (.newarray .int, 2) := by decide +kernel
theorem dX0_init_25 : decode cX0_init 25 = .ok (.putfield 18, 3) := by decide +kernel
theorem dX0_init_28 : decode cX0_init 28 = .ok (.return_, 1) := by decide +kernel
theorem dX0_forget_0 : decode cX0_forget 0 = .ok (.aload_n 0, 1) := by decide +kernel
theorem dX0_forget_1 : decode cX0_forget 1 = .ok (.iconst 0, 1) := by decide +kernel
theorem dX0_forget_2 : decode cX0_forget 2 = .ok (.putfield 21, 3) := by decide +kernel
theorem dX0_forget_5 : decode cX0_forget 5 = .ok (.return_, 1) := by decide +kernel
theorem dX0_keep_0 : decode cX0_keep 0 = .ok (.aload_n 0, 1) := by decide +kernel
theorem dX0_keep_1 : decode cX0_keep 1 = .ok (.getfield 21, 3) := by decide +kernel
theorem dX0_keep_4 : decode cX0_keep 4 = .ok (.bipush 16, 2) := by decide +kernel
theorem dX0_keep_6 : decode cX0_keep 6 = .ok (.if_icmp .lt 7, 3) := by decide +kernel
theorem dX0_keep_9 : decode cX0_keep 9 = .ok (.aload_n 0, 1) := by decide +kernel
theorem dX0_keep_10 : decode cX0_keep 10 = .ok (.invokevirtual 25, 3) := by decide +kernel
theorem dX0_keep_13 : decode cX0_keep 13 = .ok (.aload_n 0, 1) := by decide +kernel
theorem dX0_keep_14 : decode cX0_keep 14 = .ok (.getfield 9, 3) := by decide +kernel
theorem dX0_keep_17 : decode cX0_keep 17 = .ok (.aload_n 0, 1) := by decide +kernel
theorem dX0_keep_18 : decode cX0_keep 18 = .ok (.getfield 21, 3) := by decide +kernel
theorem dX0_keep_21 : decode cX0_keep 21 = .ok (.iload_n 1, 1) := by decide +kernel
theorem dX0_keep_22 : decode cX0_keep 22 = .ok (.iastore, 1) := by decide +kernel
theorem dX0_keep_23 : decode cX0_keep 23 = .ok (.aload_n 0, 1) := by decide +kernel
theorem dX0_keep_24 : decode cX0_keep 24 = .ok (.getfield 15, 3) := by decide +kernel
theorem dX0_keep_27 : decode cX0_keep 27 = .ok (.aload_n 0, 1) := by decide +kernel
theorem dX0_keep_28 : decode cX0_keep 28 = .ok (.getfield 21, 3) := by decide +kernel
theorem dX0_keep_31 : decode cX0_keep 31 = .ok (.iload_n 2, 1) := by decide +kernel
theorem dX0_keep_32 : decode cX0_keep 32 = .ok (.iastore, 1) := by decide +kernel
theorem dX0_keep_33 : decode cX0_keep 33 = .ok (.aload_n 0, 1) := by decide +kernel
theorem dX0_keep_34 : decode cX0_keep 34 = .ok (.getfield 18, 3) := by decide +kernel
theorem dX0_keep_37 : decode cX0_keep 37 = .ok (.aload_n 0, 1) := by decide +kernel
theorem dX0_keep_38 : decode cX0_keep 38 = .ok (.getfield 21, 3) := by decide +kernel
theorem dX0_keep_41 : decode cX0_keep 41 = .ok (.iload_n 3, 1) := by decide +kernel
theorem dX0_keep_42 : decode cX0_keep 42 = .ok (.iastore, 1) := by decide +kernel
theorem dX0_keep_43 : decode cX0_keep 43 = .ok (.aload_n 0, 1) := by decide +kernel
theorem dX0_keep_44 : decode cX0_keep 44 = .ok (.dup, 1) := by decide +kernel
theorem dX0_keep_45 : decode cX0_keep 45 = .ok (.getfield 21, 3) := by decide +kernel
theorem dX0_keep_48 : decode cX0_keep 48 = .ok (.iconst 1, 1) := by decide +kernel
theorem dX0_keep_49 : decode cX0_keep 49 = .ok (.iadd, 1) := by decide +kernel
theorem dX0_keep_50 : decode cX0_keep 50 = .ok (.putfield 21, 3) := by decide +kernel
theorem dX0_keep_53 : decode cX0_keep 53 = .ok (.return_, 1) := by decide +kernel
theorem dX0_dropOldest_0 : decode cX0_dropOldest 0 = .ok (.iconst 1, 1) := by decide +kernel
theorem dX0_dropOldest_1 : decode cX0_dropOldest 1 = .ok (.istore_n 1, 1) := by decide +kernel
theorem dX0_dropOldest_2 : decode cX0_dropOldest 2 = .ok (.iload_n 1, 1) := by decide +kernel
theorem dX0_dropOldest_3 : decode cX0_dropOldest 3 = .ok (.bipush 16, 2) := by decide +kernel
theorem dX0_dropOldest_5 : decode cX0_dropOldest 5 = .ok (.if_icmp .ge 51, 3) := by decide +kernel
theorem dX0_dropOldest_8 : decode cX0_dropOldest 8 = .ok (.aload_n 0, 1) := by decide +kernel
theorem dX0_dropOldest_9 : decode cX0_dropOldest 9 = .ok (.getfield 9, 3) := by decide +kernel
theorem dX0_dropOldest_12 : decode cX0_dropOldest 12 = .ok (.iload_n 1, 1) := by decide +kernel
theorem dX0_dropOldest_13 : decode cX0_dropOldest 13 = .ok (.iconst 1, 1) := by decide +kernel
theorem dX0_dropOldest_14 : decode cX0_dropOldest 14 = .ok (.isub, 1) := by decide +kernel
theorem dX0_dropOldest_15 : decode cX0_dropOldest 15 = .ok (.aload_n 0, 1) := by decide +kernel
theorem dX0_dropOldest_16 : decode cX0_dropOldest 16 = .ok (.getfield 9, 3) := by decide +kernel
theorem dX0_dropOldest_19 : decode cX0_dropOldest 19 = .ok (.iload_n 1, 1) := by decide +kernel
theorem dX0_dropOldest_20 : decode cX0_dropOldest 20 = .ok (.iaload, 1) := by decide +kernel
theorem dX0_dropOldest_21 : decode cX0_dropOldest 21 = .ok (.iastore, 1) := by decide +kernel
theorem dX0_dropOldest_22 : decode cX0_dropOldest 22 = .ok (.aload_n 0, 1) := by decide +kernel
theorem dX0_dropOldest_23 : decode cX0_dropOldest 23 = .ok (.getfield 15, 3) := by decide +kernel
theorem dX0_dropOldest_26 : decode cX0_dropOldest 26 = .ok (.iload_n 1, 1) := by decide +kernel
theorem dX0_dropOldest_27 : decode cX0_dropOldest 27 = .ok (.iconst 1, 1) := by decide +kernel
theorem dX0_dropOldest_28 : decode cX0_dropOldest 28 = .ok (.isub, 1) := by decide +kernel
theorem dX0_dropOldest_29 : decode cX0_dropOldest 29 = .ok (.aload_n 0, 1) := by decide +kernel
theorem dX0_dropOldest_30 : decode cX0_dropOldest 30 = .ok (.getfield 15, 3) := by decide +kernel
theorem dX0_dropOldest_33 : decode cX0_dropOldest 33 = .ok (.iload_n 1, 1) := by decide +kernel
theorem dX0_dropOldest_34 : decode cX0_dropOldest 34 = .ok (.iaload, 1) := by decide +kernel
theorem dX0_dropOldest_35 : decode cX0_dropOldest 35 = .ok (.iastore, 1) := by decide +kernel
theorem dX0_dropOldest_36 : decode cX0_dropOldest 36 = .ok (.aload_n 0, 1) := by decide +kernel
theorem dX0_dropOldest_37 : decode cX0_dropOldest 37 = .ok (.getfield 18, 3) := by decide +kernel
theorem dX0_dropOldest_40 : decode cX0_dropOldest 40 = .ok (.iload_n 1, 1) := by decide +kernel
theorem dX0_dropOldest_41 : decode cX0_dropOldest 41 = .ok (.iconst 1, 1) := by decide +kernel
theorem dX0_dropOldest_42 : decode cX0_dropOldest 42 = .ok (.isub, 1) := by decide +kernel
theorem dX0_dropOldest_43 : decode cX0_dropOldest 43 = .ok (.aload_n 0, 1) := by decide +kernel
theorem dX0_dropOldest_44 : decode cX0_dropOldest 44 = .ok (.getfield 18, 3) := by decide +kernel
theorem dX0_dropOldest_47 : decode cX0_dropOldest 47 = .ok (.iload_n 1, 1) := by decide +kernel
theorem dX0_dropOldest_48 : decode cX0_dropOldest 48 = .ok (.iaload, 1) := by decide +kernel
theorem dX0_dropOldest_49 : decode cX0_dropOldest 49 = .ok (.iastore, 1) := by decide +kernel
theorem dX0_dropOldest_50 : decode cX0_dropOldest 50 = .ok (.iinc 1 1, 3) := by decide +kernel
theorem dX0_dropOldest_53 : decode cX0_dropOldest 53 = .ok (.goto (-51), 3) := by decide +kernel
theorem dX0_dropOldest_56 : decode cX0_dropOldest 56 = .ok (.aload_n 0, 1) := by decide +kernel
theorem dX0_dropOldest_57 : decode cX0_dropOldest 57 = .ok (.bipush 15, 2) := by decide +kernel
theorem dX0_dropOldest_59 : decode cX0_dropOldest 59 = .ok (.putfield 21, 3) := by decide +kernel
theorem dX0_dropOldest_62 : decode cX0_dropOldest 62 = .ok (.return_, 1) := by decide +kernel
theorem dX0_takeBack_0 : decode cX0_takeBack 0 = .ok (.aload_n 0, 1) := by decide +kernel
theorem dX0_takeBack_1 : decode cX0_takeBack 1 = .ok (.getfield 21, 3) := by decide +kernel
theorem dX0_takeBack_4 : decode cX0_takeBack 4 = .ok (.ifCond .gt 5, 3) := by decide +kernel
theorem dX0_takeBack_7 : decode cX0_takeBack 7 = .ok (.iconst 0, 1) := by decide +kernel
theorem dX0_takeBack_8 : decode cX0_takeBack 8 = .ok (.ireturn, 1) := by decide +kernel
theorem dX0_takeBack_9 : decode cX0_takeBack 9 = .ok (.aload_n 0, 1) := by decide +kernel
theorem dX0_takeBack_10 : decode cX0_takeBack 10 = .ok (.dup, 1) := by decide +kernel
theorem dX0_takeBack_11 : decode cX0_takeBack 11 = .ok (.getfield 21, 3) := by decide +kernel
theorem dX0_takeBack_14 : decode cX0_takeBack 14 = .ok (.iconst 1, 1) := by decide +kernel
theorem dX0_takeBack_15 : decode cX0_takeBack 15 = .ok (.isub, 1) := by decide +kernel
theorem dX0_takeBack_16 : decode cX0_takeBack 16 = .ok (.putfield 21, 3) := by decide +kernel
theorem dX0_takeBack_19 : decode cX0_takeBack 19 = .ok (.aload_n 0, 1) := by decide +kernel
theorem dX0_takeBack_20 : decode cX0_takeBack 20 = .ok (.getfield 15, 3) := by decide +kernel
theorem dX0_takeBack_23 : decode cX0_takeBack 23 = .ok (.aload_n 0, 1) := by decide +kernel
theorem dX0_takeBack_24 : decode cX0_takeBack 24 = .ok (.getfield 21, 3) := by decide +kernel
theorem dX0_takeBack_27 : decode cX0_takeBack 27 = .ok (.iaload, 1) := by decide +kernel
theorem dX0_takeBack_28 : decode cX0_takeBack 28 = .ok (.istore_n 2, 1) := by decide +kernel
theorem dX0_takeBack_29 : decode cX0_takeBack 29 = .ok (.aload_n 0, 1) := by decide +kernel
theorem dX0_takeBack_30 : decode cX0_takeBack 30 = .ok (.getfield 9, 3) := by decide +kernel
theorem dX0_takeBack_33 : decode cX0_takeBack 33 = .ok (.aload_n 0, 1) := by decide +kernel
theorem dX0_takeBack_34 : decode cX0_takeBack 34 = .ok (.getfield 21, 3) := by decide +kernel
theorem dX0_takeBack_37 : decode cX0_takeBack 37 = .ok (.iaload, 1) := by decide +kernel
theorem dX0_takeBack_38 : decode cX0_takeBack 38 = .ok (.iconst 1, 1) := by decide +kernel
theorem dX0_takeBack_39 : decode cX0_takeBack 39 = .ok (.if_icmp .ne 19, 3) := by decide +kernel
theorem dX0_takeBack_42 : decode cX0_takeBack 42 = .ok (.aload_n 1, 1) := by decide +kernel
theorem dX0_takeBack_43 : decode cX0_takeBack 43 = .ok (.aload_n 0, 1) := by decide +kernel
theorem dX0_takeBack_44 : decode cX0_takeBack 44 = .ok (.getfield 18, 3) := by decide +kernel
theorem dX0_takeBack_47 : decode cX0_takeBack 47 = .ok (.aload_n 0, 1) := by decide +kernel
theorem dX0_takeBack_48 : decode cX0_takeBack 48 = .ok (.getfield 21, 3) := by decide +kernel
theorem dX0_takeBack_51 : decode cX0_takeBack 51 = .ok (.iaload, 1) := by decide +kernel
theorem dX0_takeBack_52 : decode cX0_takeBack 52 = .ok (.putfield 28, 3) := by decide +kernel
theorem dX0_takeBack_55 : decode cX0_takeBack 55 = .ok (.goto 60, 3) := by decide +kernel
theorem dX0_takeBack_58 : decode cX0_takeBack 58 = .ok (.aload_n 0, 1) := by decide +kernel
theorem dX0_takeBack_59 : decode cX0_takeBack 59 = .ok (.getfield 9, 3) := by decide +kernel
theorem dX0_takeBack_62 : decode cX0_takeBack 62 = .ok (.aload_n 0, 1) := by decide +kernel
theorem dX0_takeBack_63 : decode cX0_takeBack 63 = .ok (.getfield 21, 3) := by decide +kernel
theorem dX0_takeBack_66 : decode cX0_takeBack 66 = .ok (.iaload, 1) := by decide +kernel
theorem dX0_takeBack_67 : decode cX0_takeBack 67 = .ok (.iconst 2, 1) := by decide +kernel
theorem dX0_takeBack_68 : decode cX0_takeBack 68 = .ok (.if_icmp .ne 19, 3) := by decide +kernel
theorem dX0_takeBack_71 : decode cX0_takeBack 71 = .ok (.aload_n 1, 1) := by decide +kernel
theorem dX0_takeBack_72 : decode cX0_takeBack 72 = .ok (.aload_n 0, 1) := by decide +kernel
theorem dX0_takeBack_73 : decode cX0_takeBack 73 = .ok (.getfield 18, 3) := by decide +kernel
theorem dX0_takeBack_76 : decode cX0_takeBack 76 = .ok (.aload_n 0, 1) := by decide +kernel
theorem dX0_takeBack_77 : decode cX0_takeBack 77 = .ok (.getfield 21, 3) := by decide +kernel
theorem dX0_takeBack_80 : decode cX0_takeBack 80 = .ok (.iaload, 1) := by decide +kernel
theorem dX0_takeBack_81 : decode cX0_takeBack 81 = .ok (.putfield 33, 3) := by decide +kernel
theorem dX0_takeBack_84 : decode cX0_takeBack 84 = .ok (.goto 31, 3) := by decide +kernel
theorem dX0_takeBack_87 : decode cX0_takeBack 87 = .ok (.iload_n 2, 1) := by decide +kernel
theorem dX0_takeBack_88 : decode cX0_takeBack 88 = .ok (.ifCond .lt 27, 3) := by decide +kernel
theorem dX0_takeBack_91 : decode cX0_takeBack 91 = .ok (.iload_n 2, 1) := by decide +kernel
theorem dX0_takeBack_92 : decode cX0_takeBack 92 = .ok (.aload_n 1, 1) := by decide +kernel
theorem dX0_takeBack_93 : decode cX0_takeBack 93 = .ok (.getfield 36, 3) := by decide +kernel
theorem dX0_takeBack_96 : decode cX0_takeBack 96 = .ok (.arraylength, 1) := by decide +kernel
theorem dX0_takeBack_97 : decode cX0_takeBack 97 = .ok (.if_icmp .ge 18, 3) := by decide +kernel
theorem dX0_takeBack_100 : decode cX0_takeBack 100 = .ok (.aload_n 1, 1) := by decide +kernel
theorem dX0_takeBack_101 : decode cX0_takeBack 101 = .ok (.getfield 36, 3) := by decide +kernel
theorem dX0_takeBack_104 : decode cX0_takeBack 104 = .ok (.iload_n 2, 1) := by decide +kernel
theorem dX0_takeBack_105 : decode cX0_takeBack 105 = .ok (.aload_n 0, 1) := by decide +kernel
theorem dX0_takeBack_106 : decode cX0_takeBack 106 = .ok (.getfield 18, 3) := by decide +kernel
theorem dX0_takeBack_109 : decode cX0_takeBack 109 = .ok (.aload_n 0, 1) := by decide +kernel
theorem dX0_takeBack_110 : decode cX0_takeBack 110 = .ok (.getfield 21, 3) := by decide +kernel
theorem dX0_takeBack_113 : decode cX0_takeBack 113 = .ok (.iaload, 1) := by decide +kernel
theorem dX0_takeBack_114 : decode cX0_takeBack 114 = .ok (.iastore, 1) := by decide +kernel
theorem dX0_takeBack_115 : decode cX0_takeBack 115 = .ok (.iconst 1, 1) := by decide +kernel
theorem dX0_takeBack_116 : decode cX0_takeBack 116 = .ok (.ireturn, 1) := by decide +kernel
theorem dX1_init_0 : decode cX1_init 0 = .ok (.aload_n 0, 1) := by decide +kernel
theorem dX1_init_1 : decode cX1_init 1 = .ok (.invokespecial 3, 3) := by decide +kernel
theorem dX1_init_4 : decode cX1_init 4 = .ok (.aload_n 0, 1) := by decide +kernel
theorem dX1_init_5 : decode cX1_init 5 = .ok (.bipush 36, 2) := by decide +kernel
theorem dX1_init_7 : decode cX1_init 7 = .ok (.newarray .int, 2) := by decide +kernel
theorem dX1_init_9 : decode cX1_init 9 = .ok (.putfield 9, 3) := by decide +kernel
theorem dX1_init_12 : decode cX1_init 12 = .ok (.aload_n 0, 1) := by decide +kernel
theorem dX1_init_13 : decode cX1_init 13 = .ok (.bipush 6, 2) := by decide +kernel
theorem dX1_init_15 : decode cX1_init 15 = .ok (.newarray .int, 2) := by decide +kernel
theorem dX1_init_17 : decode cX1_init 17 = .ok (.putfield 15, 3) := by decide +kernel
theorem dX1_init_20 : decode cX1_init 20 = .ok (.aload_n 0, 1) := by decide +kernel
theorem dX1_init_21 : decode cX1_init 21 = .ok (.bipush 6, 2) := by decide +kernel
theorem dX1_init_23 : decode cX1_init 23 = .ok (.newarray .int, 2) := by decide +kernel
theorem dX1_init_25 : decode cX1_init 25 = .ok (.putfield 18, 3) := by decide +kernel
theorem dX1_init_28 : decode cX1_init 28 = .ok (.return_, 1) := by decide +kernel
theorem dX1_settle_0 : decode cX1_settle 0 = .ok (.aload_n 0, 1) := by decide +kernel
theorem dX1_settle_1 : decode cX1_settle 1 = .ok (.iload_n 1, 1) := by decide +kernel
theorem dX1_settle_2 : decode cX1_settle 2 = .ok (.bipush 6, 2) := by decide +kernel
theorem dX1_settle_4 : decode cX1_settle 4 = .ok (.invokestatic 21, 3) := by decide +kernel
theorem dX1_settle_7 : decode cX1_settle 7 = .ok (.putfield 27, 3) := by decide +kernel
theorem dX1_settle_10 : decode cX1_settle 10 = .ok (.aload_n 0, 1) := by decide +kernel
theorem dX1_settle_11 : decode cX1_settle 11 = .ok (.sipush 181, 3) := by decide +kernel
theorem dX1_settle_14 : decode cX1_settle 14 = .ok (.putfield 31, 3) := by decide +kernel
theorem dX1_settle_17 : decode cX1_settle 17 = .ok (.aload_n 0, 1) := by decide +kernel
theorem dX1_settle_18 : decode cX1_settle 18 = .ok (.iconst 0, 1) := by decide +kernel
theorem dX1_settle_19 : decode cX1_settle 19 = .ok (.iconst 0, 1) := by decide +kernel
theorem dX1_settle_20 : decode cX1_settle 20 = .ok (.iconst 0, 1) := by decide +kernel
theorem dX1_settle_21 : decode cX1_settle 21 = .ok (.invokevirtual 34, 3) := by decide +kernel
theorem dX1_settle_24 : decode cX1_settle 24 = .ok (.return_, 1) := by decide +kernel
theorem dX1_tryOrders_0 : decode cX1_tryOrders 0 = .ok (.iload_n 3, 1) := by decide +kernel
theorem dX1_tryOrders_1 : decode cX1_tryOrders 1 = .ok (.aload_n 0, 1) := by decide +kernel
theorem dX1_tryOrders_2 : decode cX1_tryOrders 2 = .ok (.getfield 31, 3) := by decide +kernel
theorem dX1_tryOrders_5 : decode cX1_tryOrders 5 = .ok (.if_icmp .lt 4, 3) := by decide +kernel
theorem dX1_tryOrders_8 : decode cX1_tryOrders 8 = .ok (.return_, 1) := by decide +kernel
theorem dX1_tryOrders_9 : decode cX1_tryOrders 9 = .ok (.iload_n 1, 1) := by decide +kernel
theorem dX1_tryOrders_10 : decode cX1_tryOrders 10 = .ok (.aload_n 0, 1) := by decide +kernel
theorem dX1_tryOrders_11 : decode cX1_tryOrders 11 = .ok (.getfield 27, 3) := by decide +kernel
theorem dX1_tryOrders_14 : decode cX1_tryOrders 14 = .ok (.if_icmp .lt 27, 3) := by decide +kernel
theorem dX1_tryOrders_17 : decode cX1_tryOrders 17 = .ok (.aload_n 0, 1) := by decide +kernel
theorem dX1_tryOrders_18 : decode cX1_tryOrders 18 = .ok (.iload_n 3, 1) := by decide +kernel
theorem dX1_tryOrders_19 : decode cX1_tryOrders 19 = .ok (.putfield 31, 3) := by decide +kernel
theorem dX1_tryOrders_22 : decode cX1_tryOrders 22 = .ok (.aload_n 0, 1) := by decide +kernel
theorem dX1_tryOrders_23 : decode cX1_tryOrders 23 = .ok (.getfield 18, 3) := by decide +kernel
theorem dX1_tryOrders_26 : decode cX1_tryOrders 26 = .ok (.iconst 0, 1) := by decide +kernel
theorem dX1_tryOrders_27 : decode cX1_tryOrders 27 = .ok (.aload_n 0, 1) := by decide +kernel
theorem dX1_tryOrders_28 : decode cX1_tryOrders 28 = .ok (.getfield 15, 3) := by decide +kernel
theorem dX1_tryOrders_31 : decode cX1_tryOrders 31 = .ok (.iconst 0, 1) := by decide +kernel
theorem dX1_tryOrders_32 : decode cX1_tryOrders 32 = .ok (.aload_n 0, 1) := by decide +kernel
theorem dX1_tryOrders_33 : decode cX1_tryOrders 33 = .ok (.getfield 15, 3) := by decide +kernel
theorem dX1_tryOrders_36 : decode cX1_tryOrders 36 = .ok (.arraylength, 1) := by decide +kernel
theorem dX1_tryOrders_37 : decode cX1_tryOrders 37 = .ok (.invokestatic 38, 3) := by decide +kernel
theorem dX1_tryOrders_40 : decode cX1_tryOrders 40 = .ok (.return_, 1) := by decide +kernel
theorem dX1_tryOrders_41 : decode cX1_tryOrders 41 = .ok (.iconst 0, 1) := by decide +kernel
theorem dX1_tryOrders_42 : decode cX1_tryOrders 42 = .ok (.istore 4, 2) := by decide +kernel
theorem dX1_tryOrders_44 : decode cX1_tryOrders 44 = .ok (.iload 4, 2) := by decide +kernel
theorem dX1_tryOrders_46 : decode cX1_tryOrders 46 = .ok (.aload_n 0, 1) := by decide +kernel
theorem dX1_tryOrders_47 : decode cX1_tryOrders 47 = .ok (.getfield 27, 3) := by decide +kernel
theorem dX1_tryOrders_50 : decode cX1_tryOrders 50 = .ok (.if_icmp .ge 72, 3) := by decide +kernel
theorem dX1_tryOrders_53 : decode cX1_tryOrders 53 = .ok (.iload_n 2, 1) := by decide +kernel
theorem dX1_tryOrders_54 : decode cX1_tryOrders 54 = .ok (.iload 4, 2) := by decide +kernel
theorem dX1_tryOrders_56 : decode cX1_tryOrders 56 = .ok (.ishr, 1) := by decide +kernel
theorem dX1_tryOrders_57 : decode cX1_tryOrders 57 = .ok (.iconst 1, 1) := by decide +kernel
theorem dX1_tryOrders_58 : decode cX1_tryOrders 58 = .ok (.iand, 1) := by decide +kernel
theorem dX1_tryOrders_59 : decode cX1_tryOrders 59 = .ok (.ifCond .ne 57, 3) := by decide +kernel
theorem dX1_tryOrders_62 : decode cX1_tryOrders 62 = .ok (.aload_n 0, 1) := by decide +kernel
theorem dX1_tryOrders_63 : decode cX1_tryOrders 63 = .ok (.getfield 18, 3) := by decide +kernel
theorem dX1_tryOrders_66 : decode cX1_tryOrders 66 = .ok (.iload_n 1, 1) := by decide +kernel
theorem dX1_tryOrders_67 : decode cX1_tryOrders 67 = .ok (.iload 4, 2) := by decide +kernel
theorem dX1_tryOrders_69 : decode cX1_tryOrders 69 = .ok (.iastore, 1) := by decide +kernel
theorem dX1_tryOrders_70 : decode cX1_tryOrders 70 = .ok (.iload_n 1, 1) := by decide +kernel
theorem dX1_tryOrders_71 : decode cX1_tryOrders 71 = .ok (.ifCond .ne 7, 3) := by decide +kernel
theorem dX1_tryOrders_74 : decode cX1_tryOrders 74 = .ok (.iconst 0, 1) := by decide +kernel
theorem dX1_tryOrders_75 : decode cX1_tryOrders 75 = .ok (.goto 22, 3) := by decide +kernel
theorem dX1_tryOrders_78 : decode cX1_tryOrders 78 = .ok (.aload_n 0, 1) := by decide +kernel
theorem dX1_tryOrders_79 : decode cX1_tryOrders 79 = .ok (.getfield 9, 3) := by decide +kernel
theorem dX1_tryOrders_82 : decode cX1_tryOrders 82 = .ok (.aload_n 0, 1) := by decide +kernel
theorem dX1_tryOrders_83 : decode cX1_tryOrders 83 = .ok (.getfield 18, 3) := by decide +kernel
theorem dX1_tryOrders_86 : decode cX1_tryOrders 86 = .ok (.iload_n 1, 1) := by decide +kernel
theorem dX1_tryOrders_87 : decode cX1_tryOrders 87 = .ok (.iconst 1, 1) := by decide +kernel
theorem dX1_tryOrders_88 : decode cX1_tryOrders 88 = .ok (.isub, 1) := by decide +kernel
theorem dX1_tryOrders_89 : decode cX1_tryOrders 89 = .ok (.iaload, 1) := by decide +kernel
theorem dX1_tryOrders_90 : decode cX1_tryOrders 90 = .ok (.bipush 6, 2) := by decide +kernel
theorem dX1_tryOrders_92 : decode cX1_tryOrders 92 = .ok (.imul, 1) := by decide +kernel
theorem dX1_tryOrders_93 : decode cX1_tryOrders 93 = .ok (.iload 4, 2) := by decide +kernel
theorem dX1_tryOrders_95 : decode cX1_tryOrders 95 = .ok (.iadd, 1) := by decide +kernel
theorem dX1_tryOrders_96 : decode cX1_tryOrders 96 = .ok (.iaload, 1) := by decide +kernel
theorem dX1_tryOrders_97 : decode cX1_tryOrders 97 = .ok (.istore 5, 2) := by decide +kernel
theorem dX1_tryOrders_99 : decode cX1_tryOrders 99 = .ok (.aload_n 0, 1) := by decide +kernel
theorem dX1_tryOrders_100 : decode cX1_tryOrders 100 = .ok (.iload_n 1, 1) := by decide +kernel
theorem dX1_tryOrders_101 : decode cX1_tryOrders 101 = .ok (.iconst 1, 1) := by decide +kernel
theorem dX1_tryOrders_102 : decode cX1_tryOrders 102 = .ok (.iadd, 1) := by decide +kernel
theorem dX1_tryOrders_103 : decode cX1_tryOrders 103 = .ok (.iload_n 2, 1) := by decide +kernel
theorem dX1_tryOrders_104 : decode cX1_tryOrders 104 = .ok (.iconst 1, 1) := by decide +kernel
theorem dX1_tryOrders_105 : decode cX1_tryOrders 105 = .ok (.iload 4, 2) := by decide +kernel
theorem dX1_tryOrders_107 : decode cX1_tryOrders 107 = .ok (.ishl, 1) := by decide +kernel
theorem dX1_tryOrders_108 : decode cX1_tryOrders 108 = .ok (.ior, 1) := by decide +kernel
theorem dX1_tryOrders_109 : decode cX1_tryOrders 109 = .ok (.iload_n 3, 1) := by decide +kernel
theorem dX1_tryOrders_110 : decode cX1_tryOrders 110 = .ok (.iload 5, 2) := by decide +kernel
theorem dX1_tryOrders_112 : decode cX1_tryOrders 112 = .ok (.iadd, 1) := by decide +kernel
theorem dX1_tryOrders_113 : decode cX1_tryOrders 113 = .ok (.invokevirtual 34, 3) := by decide +kernel
theorem dX1_tryOrders_116 : decode cX1_tryOrders 116 = .ok (.iinc 4 1, 3) := by decide +kernel
theorem dX1_tryOrders_119 : decode cX1_tryOrders 119 = .ok (.goto (-75), 3) := by decide +kernel
theorem dX1_tryOrders_122 : decode cX1_tryOrders 122 = .ok (.return_, 1) := by decide +kernel
theorem dX2_init_0 : decode cX2_init 0 = .ok (.aload_n 0, 1) := by decide +kernel
theorem dX2_init_1 : decode cX2_init 1 = .ok (.invokespecial 3, 3) := by decide +kernel
theorem dX2_init_4 : decode cX2_init 4 = .ok (.aload_n 0, 1) := by decide +kernel
theorem dX2_init_5 : decode cX2_init 5 = .ok (.new 9, 3) := by decide +kernel
theorem dX2_init_8 : decode cX2_init 8 = .ok (.dup, 1) := by decide +kernel
theorem dX2_init_9 : decode cX2_init 9 = .ok (.invokespecial 11, 3) := by decide +kernel
theorem dX2_init_12 : decode cX2_init 12 = .ok (.putfield 12, 3) := by decide +kernel
theorem dX2_init_15 : decode cX2_init 15 = .ok (.aload_n 0, 1) := by decide +kernel
theorem dX2_init_16 : decode cX2_init 16 = .ok (.bipush 6, 2) := by decide +kernel
theorem dX2_init_18 : decode cX2_init 18 = .ok (.anewarray 18, 3) := by decide +kernel
theorem dX2_init_21 : decode cX2_init 21 = .ok (.putfield 20, 3) := by decide +kernel
theorem dX2_init_24 : decode cX2_init 24 = .ok (.aload_n 0, 1) := by decide +kernel
theorem dX2_init_25 : decode cX2_init 25 = .ok (.iconst 4, 1) := by decide +kernel
theorem dX2_init_26 : decode cX2_init 26 = .ok (.anewarray 18, 3) := by decide +kernel
theorem dX2_init_29 : decode cX2_init 29 = .ok (.putfield 24, 3) := by decide +kernel
theorem dX2_init_32 : decode cX2_init 32 = .ok (.aload_n 0, 1) := by decide +kernel
theorem dX2_init_33 : decode cX2_init 33 = .ok (.bipush 6, 2) := by decide +kernel
theorem dX2_init_35 : decode cX2_init 35 = .ok (.anewarray 18, 3) := by decide +kernel
theorem dX2_init_38 : decode cX2_init 38 = .ok (.putfield 27, 3) := by decide +kernel
theorem dX2_init_41 : decode cX2_init 41 = .ok (.aload_n 0, 1) := by decide +kernel
theorem dX2_init_42 : decode cX2_init 42 = .ok (.bipush 6, 2) := by decide +kernel
theorem dX2_init_44 : decode cX2_init 44 = .ok (.newarray .int, 2) := by decide +kernel
theorem dX2_init_46 : decode cX2_init 46 = .ok (.putfield 30, 3) := by decide +kernel
theorem dX2_init_49 : decode cX2_init 49 = .ok (.iconst 0, 1) := by decide +kernel
theorem dX2_init_50 : decode cX2_init 50 = .ok (.istore_n 1, 1) := by decide +kernel
theorem dX2_init_51 : decode cX2_init 51 = .ok (.iload_n 1, 1) := by decide +kernel
theorem dX2_init_52 : decode cX2_init 52 = .ok (.aload_n 0, 1) := by decide +kernel
theorem dX2_init_53 : decode cX2_init 53 = .ok (.getfield 20, 3) := by decide +kernel
theorem dX2_init_56 : decode cX2_init 56 = .ok (.arraylength, 1) := by decide +kernel
theorem dX2_init_57 : decode cX2_init 57 = .ok (.if_icmp .ge 22, 3) := by decide +kernel
theorem dX2_init_60 : decode cX2_init 60 = .ok (.aload_n 0, 1) := by decide +kernel
theorem dX2_init_61 : decode cX2_init 61 = .ok (.getfield 20, 3) := by decide +kernel
theorem dX2_init_64 : decode cX2_init 64 = .ok (.iload_n 1, 1) := by decide +kernel
theorem dX2_init_65 : decode cX2_init 65 = .ok (.new 18, 3) := by decide +kernel
theorem dX2_init_68 : decode cX2_init 68 = .ok (.dup, 1) := by decide +kernel
theorem dX2_init_69 : decode cX2_init 69 = .ok (.invokespecial 34, 3) := by decide +kernel
theorem dX2_init_72 : decode cX2_init 72 = .ok (.aastore, 1) := by decide +kernel
theorem dX2_init_73 : decode cX2_init 73 = .ok (.iinc 1 1, 3) := by decide +kernel
theorem dX2_init_76 : decode cX2_init 76 = .ok (.goto (-25), 3) := by decide +kernel
theorem dX2_init_79 : decode cX2_init 79 = .ok (.iconst 0, 1) := by decide +kernel
theorem dX2_init_80 : decode cX2_init 80 = .ok (.istore_n 1, 1) := by decide +kernel
theorem dX2_init_81 : decode cX2_init 81 = .ok (.iload_n 1, 1) := by decide +kernel
theorem dX2_init_82 : decode cX2_init 82 = .ok (.aload_n 0, 1) := by decide +kernel
theorem dX2_init_83 : decode cX2_init 83 = .ok (.getfield 24, 3) := by decide +kernel
theorem dX2_init_86 : decode cX2_init 86 = .ok (.arraylength, 1) := by decide +kernel
theorem dX2_init_87 : decode cX2_init 87 = .ok (.if_icmp .ge 22, 3) := by decide +kernel
theorem dX2_init_90 : decode cX2_init 90 = .ok (.aload_n 0, 1) := by decide +kernel
theorem dX2_init_91 : decode cX2_init 91 = .ok (.getfield 24, 3) := by decide +kernel
theorem dX2_init_94 : decode cX2_init 94 = .ok (.iload_n 1, 1) := by decide +kernel
theorem dX2_init_95 : decode cX2_init 95 = .ok (.new 18, 3) := by decide +kernel
theorem dX2_init_98 : decode cX2_init 98 = .ok (.dup, 1) := by decide +kernel
theorem dX2_init_99 : decode cX2_init 99 = .ok (.invokespecial 34, 3) := by decide +kernel
theorem dX2_init_102 : decode cX2_init 102 = .ok (.aastore, 1) := by decide +kernel
theorem dX2_init_103 : decode cX2_init 103 = .ok (.iinc 1 1, 3) := by decide +kernel
theorem dX2_init_106 : decode cX2_init 106 = .ok (.goto (-25), 3) := by decide +kernel
theorem dX2_init_109 : decode cX2_init 109 = .ok (.iconst 0, 1) := by decide +kernel
theorem dX2_init_110 : decode cX2_init 110 = .ok (.istore_n 1, 1) := by decide +kernel
theorem dX2_init_111 : decode cX2_init 111 = .ok (.iload_n 1, 1) := by decide +kernel
theorem dX2_init_112 : decode cX2_init 112 = .ok (.aload_n 0, 1) := by decide +kernel
theorem dX2_init_113 : decode cX2_init 113 = .ok (.getfield 27, 3) := by decide +kernel
theorem dX2_init_116 : decode cX2_init 116 = .ok (.arraylength, 1) := by decide +kernel
theorem dX2_init_117 : decode cX2_init 117 = .ok (.if_icmp .ge 22, 3) := by decide +kernel
theorem dX2_init_120 : decode cX2_init 120 = .ok (.aload_n 0, 1) := by decide +kernel
theorem dX2_init_121 : decode cX2_init 121 = .ok (.getfield 27, 3) := by decide +kernel
theorem dX2_init_124 : decode cX2_init 124 = .ok (.iload_n 1, 1) := by decide +kernel
theorem dX2_init_125 : decode cX2_init 125 = .ok (.new 18, 3) := by decide +kernel
theorem dX2_init_128 : decode cX2_init 128 = .ok (.dup, 1) := by decide +kernel
theorem dX2_init_129 : decode cX2_init 129 = .ok (.invokespecial 34, 3) := by decide +kernel
theorem dX2_init_132 : decode cX2_init 132 = .ok (.aastore, 1) := by decide +kernel
theorem dX2_init_133 : decode cX2_init 133 = .ok (.iinc 1 1, 3) := by decide +kernel
theorem dX2_init_136 : decode cX2_init 136 = .ok (.goto (-25), 3) := by decide +kernel
theorem dX2_init_139 : decode cX2_init 139 = .ok (.return_, 1) := by decide +kernel
theorem dX2_forget_0 : decode cX2_forget 0 = .ok (.aload_n 0, 1) := by decide +kernel
theorem dX2_forget_1 : decode cX2_forget 1 = .ok (.iconst 0, 1) := by decide +kernel
theorem dX2_forget_2 : decode cX2_forget 2 = .ok (.putfield 35, 3) := by decide +kernel
theorem dX2_forget_5 : decode cX2_forget 5 = .ok (.aload_n 0, 1) := by decide +kernel
theorem dX2_forget_6 : decode cX2_forget 6 = .ok (.iconst 0, 1) := by decide +kernel
theorem dX2_forget_7 : decode cX2_forget 7 = .ok (.putfield 39, 3) := by decide +kernel
theorem dX2_forget_10 : decode cX2_forget 10 = .ok (.aload_n 0, 1) := by decide +kernel
theorem dX2_forget_11 : decode cX2_forget 11 = .ok (.iconst 0, 1) := by decide +kernel
theorem dX2_forget_12 : decode cX2_forget 12 = .ok (.putfield 42, 3) := by decide +kernel
theorem dX2_forget_15 : decode cX2_forget 15 = .ok (.aload_n 0, 1) := by decide +kernel
theorem dX2_forget_16 : decode cX2_forget 16 = .ok (.iconst 0, 1) := by decide +kernel
theorem dX2_forget_17 : decode cX2_forget 17 = .ok (.putfield 45, 3) := by decide +kernel
theorem dX2_forget_20 : decode cX2_forget 20 = .ok (.aload_n 0, 1) := by decide +kernel
theorem dX2_forget_21 : decode cX2_forget 21 = .ok (.iconst 0, 1) := by decide +kernel
theorem dX2_forget_22 : decode cX2_forget 22 = .ok (.putfield 49, 3) := by decide +kernel
theorem dX2_forget_25 : decode cX2_forget 25 = .ok (.aload_n 0, 1) := by decide +kernel
theorem dX2_forget_26 : decode cX2_forget 26 = .ok (.getfield 12, 3) := by decide +kernel
theorem dX2_forget_29 : decode cX2_forget 29 = .ok (.invokevirtual 52, 3) := by decide +kernel
theorem dX2_forget_32 : decode cX2_forget 32 = .ok (.aload_n 0, 1) := by decide +kernel
theorem dX2_forget_33 : decode cX2_forget 33 = .ok (.iconst 0, 1) := by decide +kernel
theorem dX2_forget_34 : decode cX2_forget 34 = .ok (.putfield 55, 3) := by decide +kernel
theorem dX2_forget_37 : decode cX2_forget 37 = .ok (.aload_n 0, 1) := by decide +kernel
theorem dX2_forget_38 : decode cX2_forget 38 = .ok (.iconst 0, 1) := by decide +kernel
theorem dX2_forget_39 : decode cX2_forget 39 = .ok (.putfield 58, 3) := by decide +kernel
theorem dX2_forget_42 : decode cX2_forget 42 = .ok (.aload_n 0, 1) := by decide +kernel
theorem dX2_forget_43 : decode cX2_forget 43 = .ok (.iconst 0, 1) := by decide +kernel
theorem dX2_forget_44 : decode cX2_forget 44 = .ok (.putfield 61, 3) := by decide +kernel
theorem dX2_forget_47 : decode cX2_forget 47 = .ok (.aload_n 0, 1) := by decide +kernel
theorem dX2_forget_48 : decode cX2_forget 48 = .ok (.iconst 0, 1) := by decide +kernel
theorem dX2_forget_49 : decode cX2_forget 49 = .ok (.putfield 64, 3) := by decide +kernel
theorem dX2_forget_52 : decode cX2_forget 52 = .ok (.return_, 1) := by decide +kernel
theorem dX2_openings_0 : decode cX2_openings 0 = .ok (.aload_n 0, 1) := by decide +kernel
theorem dX2_openings_1 : decode cX2_openings 1 = .ok (.getfield 45, 3) := by decide +kernel
theorem dX2_openings_4 : decode cX2_openings 4 = .ok (.ifCond .eq 17, 3) := by decide +kernel
theorem dX2_openings_7 : decode cX2_openings 7 = .ok (.aload_n 0, 1) := by decide +kernel
theorem dX2_openings_8 : decode cX2_openings 8 = .ok (.getfield 39, 3) := by decide +kernel
theorem dX2_openings_11 : decode cX2_openings 11 = .ok (.aload_n 0, 1) := by decide +kernel
theorem dX2_openings_12 : decode cX2_openings 12 = .ok (.getfield 35, 3) := by decide +kernel
theorem dX2_openings_15 : decode cX2_openings 15 = .ok (.iconst 1, 1) := by decide +kernel
theorem dX2_openings_16 : decode cX2_openings 16 = .ok (.isub, 1) := by decide +kernel
theorem dX2_openings_17 : decode cX2_openings 17 = .ok (.imul, 1) := by decide +kernel
theorem dX2_openings_18 : decode cX2_openings 18 = .ok (.goto 7, 3) := by decide +kernel
theorem dX2_openings_21 : decode cX2_openings 21 = .ok (.aload_n 0, 1) := by decide +kernel
theorem dX2_openings_22 : decode cX2_openings 22 = .ok (.getfield 39, 3) := by decide +kernel
theorem dX2_openings_25 : decode cX2_openings 25 = .ok (.iconst 1, 1) := by decide +kernel
theorem dX2_openings_26 : decode cX2_openings 26 = .ok (.iadd, 1) := by decide +kernel
theorem dX2_openings_27 : decode cX2_openings 27 = .ok (.ireturn, 1) := by decide +kernel
theorem dX2_openCells_0 : decode cX2_openCells 0 = .ok (.iload_n 1, 1) := by decide +kernel
theorem dX2_openCells_1 : decode cX2_openCells 1 = .ok (.ifCond .ne 12, 3) := by decide +kernel
theorem dX2_openCells_4 : decode cX2_openCells 4 = .ok (.aload_n 0, 1) := by decide +kernel
theorem dX2_openCells_5 : decode cX2_openCells 5 = .ok (.getfield 35, 3) := by decide +kernel
theorem dX2_openCells_8 : decode cX2_openCells 8 = .ok (.iconst 1, 1) := by decide +kernel
theorem dX2_openCells_9 : decode cX2_openCells 9 = .ok (.isub, 1) := by decide +kernel
theorem dX2_openCells_10 : decode cX2_openCells 10 = .ok (.goto 4, 3) := by decide +kernel
theorem dX2_openCells_13 : decode cX2_openCells 13 = .ok (.iconst 0, 1) := by decide +kernel
theorem dX2_openCells_14 : decode cX2_openCells 14 = .ok (.istore 4, 2) := by decide +kernel
theorem dX2_openCells_16 : decode cX2_openCells 16 = .ok (.iload_n 2, 1) := by decide +kernel
theorem dX2_openCells_17 : decode cX2_openCells 17 = .ok (.iload 4, 2) := by decide +kernel
theorem dX2_openCells_19 : decode cX2_openCells 19 = .ok (.if_icmp .ne 8, 3) := by decide +kernel
theorem dX2_openCells_22 : decode cX2_openCells 22 = .ok (.aload_n 0, 1) := by decide +kernel
theorem dX2_openCells_23 : decode cX2_openCells 23 = .ok (.getfield 39, 3) := by decide +kernel
theorem dX2_openCells_26 : decode cX2_openCells 26 = .ok (.ireturn, 1) := by decide +kernel
theorem dX2_openCells_27 : decode cX2_openCells 27 = .ok (.aload_n 0, 1) := by decide +kernel
theorem dX2_openCells_28 : decode cX2_openCells 28 = .ok (.getfield 45, 3) := by decide +kernel
theorem dX2_openCells_31 : decode cX2_openCells 31 = .ok (.ifCond .eq 25, 3) := by decide +kernel
theorem dX2_openCells_34 : decode cX2_openCells 34 = .ok (.iconst 0, 1) := by decide +kernel
theorem dX2_openCells_35 : decode cX2_openCells 35 = .ok (.aload_n 0, 1) := by decide +kernel
theorem dX2_openCells_36 : decode cX2_openCells 36 = .ok (.getfield 39, 3) := by decide +kernel
theorem dX2_openCells_39 : decode cX2_openCells 39 = .ok (.iload_n 3, 1) := by decide +kernel
theorem dX2_openCells_40 : decode cX2_openCells 40 = .ok (.aload_n 0, 1) := by decide +kernel
theorem dX2_openCells_41 : decode cX2_openCells 41 = .ok (.getfield 39, 3) := by decide +kernel
theorem dX2_openCells_44 : decode cX2_openCells 44 = .ok (.iload_n 2, 1) := by decide +kernel
theorem dX2_openCells_45 : decode cX2_openCells 45 = .ok (.imul, 1) := by decide +kernel
theorem dX2_openCells_46 : decode cX2_openCells 46 = .ok (.isub, 1) := by decide +kernel
theorem dX2_openCells_47 : decode cX2_openCells 47 = .ok (.invokestatic 67, 3) := by decide +kernel
theorem dX2_openCells_50 : decode cX2_openCells 50 = .ok (.invokestatic 73, 3) := by decide +kernel
theorem dX2_openCells_53 : decode cX2_openCells 53 = .ok (.goto 4, 3) := by decide +kernel
theorem dX2_openCells_56 : decode cX2_openCells 56 = .ok (.iload_n 3, 1) := by decide +kernel
theorem dX2_openCells_57 : decode cX2_openCells 57 = .ok (.ireturn, 1) := by decide +kernel
theorem dX2_wholeLength_0 : decode cX2_wholeLength 0 = .ok (.iconst 0, 1) := by decide +kernel
theorem dX2_wholeLength_1 : decode cX2_wholeLength 1 = .ok (.istore_n 3, 1) := by decide +kernel
theorem dX2_wholeLength_2 : decode cX2_wholeLength 2 = .ok (.iconst 0, 1) := by decide +kernel
theorem dX2_wholeLength_3 : decode cX2_wholeLength 3 = .ok (.istore 4, 2) := by decide +kernel
theorem dX2_wholeLength_5 : decode cX2_wholeLength 5 = .ok (.iload 4, 2) := by decide +kernel
theorem dX2_wholeLength_7 : decode cX2_wholeLength 7 = .ok (.aload_n 0, 1) := by decide +kernel
theorem dX2_wholeLength_8 : decode cX2_wholeLength 8 = .ok (.getfield 35, 3) := by decide +kernel
theorem dX2_wholeLength_11 : decode cX2_wholeLength 11 = .ok (.if_icmp .ge 20, 3) := by decide +kernel
theorem dX2_wholeLength_14 : decode cX2_wholeLength 14 = .ok (.iload_n 3, 1) := by decide +kernel
theorem dX2_wholeLength_15 : decode cX2_wholeLength 15 = .ok (.aload_n 0, 1) := by decide +kernel
theorem dX2_wholeLength_16 : decode cX2_wholeLength 16 = .ok (.iload_n 1, 1) := by decide +kernel
theorem dX2_wholeLength_17 : decode cX2_wholeLength 17 = .ok (.iload 4, 2) := by decide +kernel
theorem dX2_wholeLength_19 : decode cX2_wholeLength 19 = .ok (.iload_n 2, 1) := by decide +kernel
theorem dX2_wholeLength_20 : decode cX2_wholeLength 20 = .ok (.invokevirtual 76, 3) := by decide +kernel
theorem dX2_wholeLength_23 : decode cX2_wholeLength 23 = .ok (.iadd, 1) := by decide +kernel
theorem dX2_wholeLength_24 : decode cX2_wholeLength 24 = .ok (.istore_n 3, 1) := by decide +kernel
theorem dX2_wholeLength_25 : decode cX2_wholeLength 25 = .ok (.iinc 4 1, 3) := by decide +kernel
theorem dX2_wholeLength_28 : decode cX2_wholeLength 28 = .ok (.goto (-23), 3) := by decide +kernel
theorem dX2_wholeLength_31 : decode cX2_wholeLength 31 = .ok (.iload_n 3, 1) := by decide +kernel
theorem dX2_wholeLength_32 : decode cX2_wholeLength 32 = .ok (.ireturn, 1) := by decide +kernel
theorem dX2_isWished_0 : decode cX2_isWished 0 = .ok (.iconst 0, 1) := by decide +kernel
theorem dX2_isWished_1 : decode cX2_isWished 1 = .ok (.istore 4, 2) := by decide +kernel
theorem dX2_isWished_3 : decode cX2_isWished 3 = .ok (.iload 4, 2) := by decide +kernel
theorem dX2_isWished_5 : decode cX2_isWished 5 = .ok (.aload_n 0, 1) := by decide +kernel
theorem dX2_isWished_6 : decode cX2_isWished 6 = .ok (.getfield 58, 3) := by decide +kernel
theorem dX2_isWished_9 : decode cX2_isWished 9 = .ok (.if_icmp .ge 47, 3) := by decide +kernel
theorem dX2_isWished_12 : decode cX2_isWished 12 = .ok (.aload_n 0, 1) := by decide +kernel
theorem dX2_isWished_13 : decode cX2_isWished 13 = .ok (.getfield 24, 3) := by decide +kernel
theorem dX2_isWished_16 : decode cX2_isWished 16 = .ok (.iload 4, 2) := by decide +kernel
theorem dX2_isWished_18 : decode cX2_isWished 18 = .ok (.aaload, 1) := by decide +kernel
theorem dX2_isWished_19 : decode cX2_isWished 19 = .ok (.astore 5, 2) := by decide +kernel
theorem dX2_isWished_21 : decode cX2_isWished 21 = .ok (.aload 5, 2) := by decide +kernel
theorem dX2_isWished_23 : decode cX2_isWished 23 = .ok (.getfield 80, 3) := by decide +kernel
theorem dX2_isWished_26 : decode cX2_isWished 26 = .ok (.iload_n 2, 1) := by decide +kernel
theorem dX2_isWished_27 : decode cX2_isWished 27 = .ok (.if_icmp .ne 23, 3) := by decide +kernel
theorem dX2_isWished_30 : decode cX2_isWished 30 = .ok (.aload 5, 2) := by decide +kernel
theorem dX2_isWished_32 : decode cX2_isWished 32 = .ok (.getfield 83, 3) := by decide +kernel
theorem dX2_isWished_35 : decode cX2_isWished 35 = .ok (.iload_n 3, 1) := by decide +kernel
theorem dX2_isWished_36 : decode cX2_isWished 36 = .ok (.if_icmp .ne 14, 3) := by decide +kernel
theorem dX2_isWished_39 : decode cX2_isWished 39 = .ok (.aload 5, 2) := by decide +kernel
theorem dX2_isWished_41 : decode cX2_isWished 41 = .ok (.aload_n 1, 1) := by decide +kernel
theorem dX2_isWished_42 : decode cX2_isWished 42 = .ok (.invokevirtual 86, 3) := by decide +kernel
theorem dX2_isWished_45 : decode cX2_isWished 45 = .ok (.ifCond .eq 5, 3) := by decide +kernel
theorem dX2_isWished_48 : decode cX2_isWished 48 = .ok (.iconst 1, 1) := by decide +kernel
theorem dX2_isWished_49 : decode cX2_isWished 49 = .ok (.ireturn, 1) := by decide +kernel
theorem dX2_isWished_50 : decode cX2_isWished 50 = .ok (.iinc 4 1, 3) := by decide +kernel
theorem dX2_isWished_53 : decode cX2_isWished 53 = .ok (.goto (-50), 3) := by decide +kernel
theorem dX2_isWished_56 : decode cX2_isWished 56 = .ok (.iconst 0, 1) := by decide +kernel
theorem dX2_isWished_57 : decode cX2_isWished 57 = .ok (.ireturn, 1) := by decide +kernel
theorem dX3_init_0 : decode cX3_init 0 = .ok (.aload_n 0, 1) := by decide +kernel
theorem dX3_init_1 : decode cX3_init 1 = .ok (.invokespecial 3, 3) := by decide +kernel
theorem dX3_init_4 : decode cX3_init 4 = .ok (.aload_n 0, 1) := by decide +kernel
theorem dX3_init_5 : decode cX3_init 5 = .ok (.iconst 4, 1) := by decide +kernel
theorem dX3_init_6 : decode cX3_init 6 = .ok (.anewarray 9, 3) := by decide +kernel
theorem dX3_init_9 : decode cX3_init 9 = .ok (.putfield 11, 3) := by decide +kernel
theorem dX3_init_12 : decode cX3_init 12 = .ok (.aload_n 0, 1) := by decide +kernel
theorem dX3_init_13 : decode cX3_init 13 = .ok (.iconst 4, 1) := by decide +kernel
theorem dX3_init_14 : decode cX3_init 14 = .ok (.anewarray 17, 3) := by decide +kernel
theorem dX3_init_17 : decode cX3_init 17 = .ok (.putfield 19, 3) := by decide +kernel
theorem dX3_init_20 : decode cX3_init 20 = .ok (.aload_n 0, 1) := by decide +kernel
theorem dX3_init_21 : decode cX3_init 21 = .ok (.bipush 30, 2) := by decide +kernel
theorem dX3_init_23 : decode cX3_init 23 = .ok (.newarray .int, 2) := by decide +kernel
theorem dX3_init_25 : decode cX3_init 25 = .ok (.putfield 23, 3) := by decide +kernel
theorem dX3_init_28 : decode cX3_init 28 = .ok (.aload_n 0, 1) := by decide +kernel
theorem dX3_init_29 : decode cX3_init 29 = .ok (.bipush 30, 2) := by decide +kernel
theorem dX3_init_31 : decode cX3_init 31 = .ok (.newarray .int, 2) := by decide +kernel
theorem dX3_init_33 : decode cX3_init 33 = .ok (.putfield 27, 3) := by decide +kernel
theorem dX3_init_36 : decode cX3_init 36 = .ok (.aload_n 0, 1) := by decide +kernel
theorem dX3_init_37 : decode cX3_init 37 = .ok (.bipush 120, 2) := by decide +kernel
theorem dX3_init_39 : decode cX3_init 39 = .ok (.newarray .int, 2) := by decide +kernel
theorem dX3_init_41 : decode cX3_init 41 = .ok (.putfield 30, 3) := by decide +kernel
theorem dX3_init_44 : decode cX3_init 44 = .ok (.aload_n 0, 1) := by decide +kernel
theorem dX3_init_45 : decode cX3_init 45 = .ok (.bipush 16, 2) := by decide +kernel
theorem dX3_init_47 : decode cX3_init 47 = .ok (.newarray .int, 2) := by decide +kernel
theorem dX3_init_49 : decode cX3_init 49 = .ok (.putfield 33, 3) := by decide +kernel
theorem dX3_init_52 : decode cX3_init 52 = .ok (.iconst 0, 1) := by decide +kernel
theorem dX3_init_53 : decode cX3_init 53 = .ok (.istore_n 1, 1) := by decide +kernel
theorem dX3_init_54 : decode cX3_init 54 = .ok (.iload_n 1, 1) := by decide +kernel
theorem dX3_init_55 : decode cX3_init 55 = .ok (.aload_n 0, 1) := by decide +kernel
theorem dX3_init_56 : decode cX3_init 56 = .ok (.getfield 11, 3) := by decide +kernel
theorem dX3_init_59 : decode cX3_init 59 = .ok (.arraylength, 1) := by decide +kernel
theorem dX3_init_60 : decode cX3_init 60 = .ok (.if_icmp .ge 35, 3) := by decide +kernel
theorem dX3_init_63 : decode cX3_init 63 = .ok (.aload_n 0, 1) := by decide +kernel
theorem dX3_init_64 : decode cX3_init 64 = .ok (.getfield 11, 3) := by decide +kernel
theorem dX3_init_67 : decode cX3_init 67 = .ok (.iload_n 1, 1) := by decide +kernel
theorem dX3_init_68 : decode cX3_init 68 = .ok (.new 9, 3) := by decide +kernel
theorem dX3_init_71 : decode cX3_init 71 = .ok (.dup, 1) := by decide +kernel
theorem dX3_init_72 : decode cX3_init 72 = .ok (.invokespecial 36, 3) := by decide +kernel
theorem dX3_init_75 : decode cX3_init 75 = .ok (.aastore, 1) := by decide +kernel
theorem dX3_init_76 : decode cX3_init 76 = .ok (.aload_n 0, 1) := by decide +kernel
theorem dX3_init_77 : decode cX3_init 77 = .ok (.getfield 19, 3) := by decide +kernel
theorem dX3_init_80 : decode cX3_init 80 = .ok (.iload_n 1, 1) := by decide +kernel
theorem dX3_init_81 : decode cX3_init 81 = .ok (.new 17, 3) := by decide +kernel
theorem dX3_init_84 : decode cX3_init 84 = .ok (.dup, 1) := by decide +kernel
theorem dX3_init_85 : decode cX3_init 85 = .ok (.invokespecial 37, 3) := by decide +kernel
theorem dX3_init_88 : decode cX3_init 88 = .ok (.aastore, 1) := by decide +kernel
theorem dX3_init_89 : decode cX3_init 89 = .ok (.iinc 1 1, 3) := by decide +kernel
theorem dX3_init_92 : decode cX3_init 92 = .ok (.goto (-38), 3) := by decide +kernel
theorem dX3_init_95 : decode cX3_init 95 = .ok (.return_, 1) := by decide +kernel
theorem dX3_fewestForAll_0 : decode cX3_fewestForAll 0 = .ok (.iconst 0, 1) := by decide +kernel
theorem dX3_fewestForAll_1 : decode cX3_fewestForAll 1 = .ok (.istore_n 3, 1) := by decide +kernel
theorem dX3_fewestForAll_2 : decode cX3_fewestForAll 2 = .ok (.iconst 0, 1) := by decide +kernel
theorem dX3_fewestForAll_3 : decode cX3_fewestForAll 3 = .ok (.istore 4, 2) := by decide +kernel
theorem dX3_fewestForAll_5 : decode cX3_fewestForAll 5 = .ok (.iload 4, 2) := by decide +kernel
theorem dX3_fewestForAll_7 : decode cX3_fewestForAll 7 = .ok (.iconst 1, 1) := by decide +kernel
theorem dX3_fewestForAll_8 : decode cX3_fewestForAll 8 = .ok (.if_icmp .gt 62, 3) := by decide +kernel
theorem dX3_fewestForAll_11 : decode cX3_fewestForAll 11 = .ok (.aload_n 0, 1) := by decide +kernel
theorem dX3_fewestForAll_12 : decode cX3_fewestForAll 12 = .ok (.aload_n 1, 1) := by decide +kernel
theorem dX3_fewestForAll_13 : decode cX3_fewestForAll 13 = .ok (.aload_n 2, 1) := by decide +kernel
theorem dX3_fewestForAll_14 : decode cX3_fewestForAll 14 = .ok (.iload 4, 2) := by decide +kernel
theorem dX3_fewestForAll_16 : decode cX3_fewestForAll 16 = .ok (.invokevirtual 38, 3) := by decide +kernel
theorem dX3_fewestForAll_19 : decode cX3_fewestForAll 19 = .ok (.aload_n 0, 1) := by decide +kernel
theorem dX3_fewestForAll_20 : decode cX3_fewestForAll 20 = .ok (.invokevirtual 42, 3) := by decide +kernel
theorem dX3_fewestForAll_23 : decode cX3_fewestForAll 23 = .ok (.ifCond .eq 6, 3) := by decide +kernel
theorem dX3_fewestForAll_26 : decode cX3_fewestForAll 26 = .ok (.bipush (-2), 2) := by decide +kernel
theorem dX3_fewestForAll_28 : decode cX3_fewestForAll 28 = .ok (.ireturn, 1) := by decide +kernel
theorem dX3_fewestForAll_29 : decode cX3_fewestForAll 29 = .ok (.aload_n 0, 1) := by decide +kernel
theorem dX3_fewestForAll_30 : decode cX3_fewestForAll 30 = .ok (.invokevirtual 46, 3) := by decide +kernel
theorem dX3_fewestForAll_33 : decode cX3_fewestForAll 33 = .ok (.aload_n 0, 1) := by decide +kernel
theorem dX3_fewestForAll_34 : decode cX3_fewestForAll 34 = .ok (.bipush 33, 2) := by decide +kernel
theorem dX3_fewestForAll_36 : decode cX3_fewestForAll 36 = .ok (.putfield 49, 3) := by decide +kernel
theorem dX3_fewestForAll_39 : decode cX3_fewestForAll 39 = .ok (.aload_n 0, 1) := by decide +kernel
theorem dX3_fewestForAll_40 : decode cX3_fewestForAll 40 = .ok (.iconst 0, 1) := by decide +kernel
theorem dX3_fewestForAll_41 : decode cX3_fewestForAll 41 = .ok (.iconst 0, 1) := by decide +kernel
theorem dX3_fewestForAll_42 : decode cX3_fewestForAll 42 = .ok (.invokevirtual 53, 3) := by decide +kernel
theorem dX3_fewestForAll_45 : decode cX3_fewestForAll 45 = .ok (.aload_n 0, 1) := by decide +kernel
theorem dX3_fewestForAll_46 : decode cX3_fewestForAll 46 = .ok (.getfield 49, 3) := by decide +kernel
theorem dX3_fewestForAll_49 : decode cX3_fewestForAll 49 = .ok (.bipush 33, 2) := by decide +kernel
theorem dX3_fewestForAll_51 : decode cX3_fewestForAll 51 = .ok (.if_icmp .ne 6, 3) := by decide +kernel
theorem dX3_fewestForAll_54 : decode cX3_fewestForAll 54 = .ok (.bipush (-2), 2) := by decide +kernel
theorem dX3_fewestForAll_56 : decode cX3_fewestForAll 56 = .ok (.ireturn, 1) := by decide +kernel
theorem dX3_fewestForAll_57 : decode cX3_fewestForAll 57 = .ok (.iload_n 3, 1) := by decide +kernel
theorem dX3_fewestForAll_58 : decode cX3_fewestForAll 58 = .ok (.aload_n 0, 1) := by decide +kernel
theorem dX3_fewestForAll_59 : decode cX3_fewestForAll 59 = .ok (.getfield 49, 3) := by decide +kernel
theorem dX3_fewestForAll_62 : decode cX3_fewestForAll 62 = .ok (.iadd, 1) := by decide +kernel
theorem dX3_fewestForAll_63 : decode cX3_fewestForAll 63 = .ok (.istore_n 3, 1) := by decide +kernel
theorem dX3_fewestForAll_64 : decode cX3_fewestForAll 64 = .ok (.iinc 4 1, 3) := by decide +kernel
theorem dX3_fewestForAll_67 : decode cX3_fewestForAll 67 = .ok (.goto (-62), 3) := by decide +kernel
theorem dX3_fewestForAll_70 : decode cX3_fewestForAll 70 = .ok (.iload_n 3, 1) := by decide +kernel
theorem dX3_fewestForAll_71 : decode cX3_fewestForAll 71 = .ok (.ireturn, 1) := by decide +kernel
theorem dX3_gather_0 : decode cX3_gather 0 = .ok (.aload_n 0, 1) := by decide +kernel
theorem dX3_gather_1 : decode cX3_gather 1 = .ok (.iconst 0, 1) := by decide +kernel
theorem dX3_gather_2 : decode cX3_gather 2 = .ok (.putfield 57, 3) := by decide +kernel
theorem dX3_gather_5 : decode cX3_gather 5 = .ok (.bipush 8, 2) := by decide +kernel
theorem dX3_gather_7 : decode cX3_gather 7 = .ok (.istore 4, 2) := by decide +kernel
theorem dX3_gather_9 : decode cX3_gather 9 = .ok (.iload 4, 2) := by decide +kernel
theorem dX3_gather_11 : decode cX3_gather 11 = .ok (.ifCond .le 100, 3) := by decide +kernel
theorem dX3_gather_14 : decode cX3_gather 14 = .ok (.iconst 0, 1) := by decide +kernel
theorem dX3_gather_15 : decode cX3_gather 15 = .ok (.istore 5, 2) := by decide +kernel
theorem dX3_gather_17 : decode cX3_gather 17 = .ok (.iload 5, 2) := by decide +kernel
theorem dX3_gather_19 : decode cX3_gather 19 = .ok (.aload_n 1, 1) := by decide +kernel
theorem dX3_gather_20 : decode cX3_gather 20 = .ok (.getfield 60, 3) := by decide +kernel
theorem dX3_gather_23 : decode cX3_gather 23 = .ok (.if_icmp .ge 82, 3) := by decide +kernel
theorem dX3_gather_26 : decode cX3_gather 26 = .ok (.aload_n 1, 1) := by decide +kernel
theorem dX3_gather_27 : decode cX3_gather 27 = .ok (.getfield 65, 3) := by decide +kernel
theorem dX3_gather_30 : decode cX3_gather 30 = .ok (.iload 5, 2) := by decide +kernel
theorem dX3_gather_32 : decode cX3_gather 32 = .ok (.aaload, 1) := by decide +kernel
theorem dX3_gather_33 : decode cX3_gather 33 = .ok (.astore 6, 2) := by decide +kernel
theorem dX3_gather_35 : decode cX3_gather 35 = .ok (.aload 6, 2) := by decide +kernel
theorem dX3_gather_37 : decode cX3_gather 37 = .ok (.getfield 66, 3) := by decide +kernel
theorem dX3_gather_40 : decode cX3_gather 40 = .ok (.iload_n 3, 1) := by decide +kernel
theorem dX3_gather_41 : decode cX3_gather 41 = .ok (.if_icmp .ne 58, 3) := by decide +kernel
theorem dX3_gather_44 : decode cX3_gather 44 = .ok (.aload 6, 2) := by decide +kernel
theorem dX3_gather_46 : decode cX3_gather 46 = .ok (.getfield 69, 3) := by decide +kernel
theorem dX3_gather_49 : decode cX3_gather 49 = .ok (.iload 4, 2) := by decide +kernel
theorem dX3_gather_51 : decode cX3_gather 51 = .ok (.if_icmp .ne 48, 3) := by decide +kernel
theorem dX3_gather_54 : decode cX3_gather 54 = .ok (.aload_n 0, 1) := by decide +kernel
theorem dX3_gather_55 : decode cX3_gather 55 = .ok (.getfield 19, 3) := by decide +kernel
theorem dX3_gather_58 : decode cX3_gather 58 = .ok (.aload_n 0, 1) := by decide +kernel
theorem dX3_gather_59 : decode cX3_gather 59 = .ok (.getfield 57, 3) := by decide +kernel
theorem dX3_gather_62 : decode cX3_gather 62 = .ok (.aload 6, 2) := by decide +kernel
theorem dX3_gather_64 : decode cX3_gather 64 = .ok (.aastore, 1) := by decide +kernel
theorem dX3_gather_65 : decode cX3_gather 65 = .ok (.aload_n 0, 1) := by decide +kernel
theorem dX3_gather_66 : decode cX3_gather 66 = .ok (.getfield 11, 3) := by decide +kernel
theorem dX3_gather_69 : decode cX3_gather 69 = .ok (.aload_n 0, 1) := by decide +kernel
theorem dX3_gather_70 : decode cX3_gather 70 = .ok (.getfield 57, 3) := by decide +kernel
theorem dX3_gather_73 : decode cX3_gather 73 = .ok (.aaload, 1) := by decide +kernel
theorem dX3_gather_74 : decode cX3_gather 74 = .ok (.aload_n 1, 1) := by decide +kernel
theorem dX3_gather_75 : decode cX3_gather 75 = .ok (.aload_n 2, 1) := by decide +kernel
theorem dX3_gather_76 : decode cX3_gather 76 = .ok (.aload_n 2, 1) := by decide +kernel
theorem dX3_gather_77 : decode cX3_gather 77 = .ok (.getfield 72, 3) := by decide +kernel
theorem dX3_gather_80 : decode cX3_gather 80 = .ok (.iload_n 3, 1) := by decide +kernel
theorem dX3_gather_81 : decode cX3_gather 81 = .ok (.aload 6, 2) := by decide +kernel
theorem dX3_gather_83 : decode cX3_gather 83 = .ok (.getfield 77, 3) := by decide +kernel
theorem dX3_gather_86 : decode cX3_gather 86 = .ok (.invokevirtual 80, 3) := by decide +kernel
theorem dX3_gather_89 : decode cX3_gather 89 = .ok (.aload_n 0, 1) := by decide +kernel
theorem dX3_gather_90 : decode cX3_gather 90 = .ok (.dup, 1) := by decide +kernel
theorem dX3_gather_91 : decode cX3_gather 91 = .ok (.getfield 57, 3) := by decide +kernel
theorem dX3_gather_94 : decode cX3_gather 94 = .ok (.iconst 1, 1) := by decide +kernel
theorem dX3_gather_95 : decode cX3_gather 95 = .ok (.iadd, 1) := by decide +kernel
theorem dX3_gather_96 : decode cX3_gather 96 = .ok (.putfield 57, 3) := by decide +kernel
theorem dX3_gather_99 : decode cX3_gather 99 = .ok (.iinc 5 1, 3) := by decide +kernel
theorem dX3_gather_102 : decode cX3_gather 102 = .ok (.goto (-85), 3) := by decide +kernel
theorem dX3_gather_105 : decode cX3_gather 105 = .ok (.iinc 4 (-1), 3) := by decide +kernel
theorem dX3_gather_108 : decode cX3_gather 108 = .ok (.goto (-99), 3) := by decide +kernel
theorem dX3_gather_111 : decode cX3_gather 111 = .ok (.iconst 0, 1) := by decide +kernel
theorem dX3_gather_112 : decode cX3_gather 112 = .ok (.istore 4, 2) := by decide +kernel
theorem dX3_gather_114 : decode cX3_gather 114 = .ok (.iload 4, 2) := by decide +kernel
theorem dX3_gather_116 : decode cX3_gather 116 = .ok (.aload_n 0, 1) := by decide +kernel
theorem dX3_gather_117 : decode cX3_gather 117 = .ok (.getfield 23, 3) := by decide +kernel
theorem dX3_gather_120 : decode cX3_gather 120 = .ok (.arraylength, 1) := by decide +kernel
theorem dX3_gather_121 : decode cX3_gather 121 = .ok (.if_icmp .ge 25, 3) := by decide +kernel
theorem dX3_gather_124 : decode cX3_gather 124 = .ok (.aload_n 0, 1) := by decide +kernel
theorem dX3_gather_125 : decode cX3_gather 125 = .ok (.getfield 23, 3) := by decide +kernel
theorem dX3_gather_128 : decode cX3_gather 128 = .ok (.iload 4, 2) := by decide +kernel
theorem dX3_gather_130 : decode cX3_gather 130 = .ok (.iconst (-1), 1) := by decide +kernel
theorem dX3_gather_131 : decode cX3_gather 131 = .ok (.iastore, 1) := by decide +kernel
theorem dX3_gather_132 : decode cX3_gather 132 = .ok (.aload_n 0, 1) := by decide +kernel
theorem dX3_gather_133 : decode cX3_gather 133 = .ok (.getfield 27, 3) := by decide +kernel
theorem dX3_gather_136 : decode cX3_gather 136 = .ok (.iload 4, 2) := by decide +kernel
theorem dX3_gather_138 : decode cX3_gather 138 = .ok (.iconst (-1), 1) := by decide +kernel
theorem dX3_gather_139 : decode cX3_gather 139 = .ok (.iastore, 1) := by decide +kernel
theorem dX3_gather_140 : decode cX3_gather 140 = .ok (.iinc 4 1, 3) := by decide +kernel
theorem dX3_gather_143 : decode cX3_gather 143 = .ok (.goto (-29), 3) := by decide +kernel
theorem dX3_gather_146 : decode cX3_gather 146 = .ok (.return_, 1) := by decide +kernel
theorem dX3_lacksPlace_0 : decode cX3_lacksPlace 0 = .ok (.iconst 0, 1) := by decide +kernel
theorem dX3_lacksPlace_1 : decode cX3_lacksPlace 1 = .ok (.istore_n 1, 1) := by decide +kernel
theorem dX3_lacksPlace_2 : decode cX3_lacksPlace 2 = .ok (.iload_n 1, 1) := by decide +kernel
theorem dX3_lacksPlace_3 : decode cX3_lacksPlace 3 = .ok (.aload_n 0, 1) := by decide +kernel
theorem dX3_lacksPlace_4 : decode cX3_lacksPlace 4 = .ok (.getfield 57, 3) := by decide +kernel
theorem dX3_lacksPlace_7 : decode cX3_lacksPlace 7 = .ok (.if_icmp .ge 31, 3) := by decide +kernel
theorem dX3_lacksPlace_10 : decode cX3_lacksPlace 10 = .ok (.aload_n 0, 1) := by decide +kernel
theorem dX3_lacksPlace_11 : decode cX3_lacksPlace 11 = .ok (.getfield 19, 3) := by decide +kernel
theorem dX3_lacksPlace_14 : decode cX3_lacksPlace 14 = .ok (.iload_n 1, 1) := by decide +kernel
theorem dX3_lacksPlace_15 : decode cX3_lacksPlace 15 = .ok (.aaload, 1) := by decide +kernel
theorem dX3_lacksPlace_16 : decode cX3_lacksPlace 16 = .ok (.invokevirtual 84, 3) := by decide +kernel
theorem dX3_lacksPlace_19 : decode cX3_lacksPlace 19 = .ok (.ifCond .ne 11, 3) := by decide +kernel
theorem dX3_lacksPlace_22 : decode cX3_lacksPlace 22 = .ok (.aload_n 0, 1) := by decide +kernel
theorem dX3_lacksPlace_23 : decode cX3_lacksPlace 23 = .ok (.iload_n 1, 1) := by decide +kernel
theorem dX3_lacksPlace_24 : decode cX3_lacksPlace 24 = .ok (.invokevirtual 87, 3) := by decide +kernel
theorem dX3_lacksPlace_27 : decode cX3_lacksPlace 27 = .ok (.ifCond .ge 5, 3) := by decide +kernel
theorem dX3_lacksPlace_30 : decode cX3_lacksPlace 30 = .ok (.iconst 1, 1) := by decide +kernel
theorem dX3_lacksPlace_31 : decode cX3_lacksPlace 31 = .ok (.ireturn, 1) := by decide +kernel
theorem dX3_lacksPlace_32 : decode cX3_lacksPlace 32 = .ok (.iinc 1 1, 3) := by decide +kernel
theorem dX3_lacksPlace_35 : decode cX3_lacksPlace 35 = .ok (.goto (-33), 3) := by decide +kernel
theorem dX3_lacksPlace_38 : decode cX3_lacksPlace 38 = .ok (.iconst 0, 1) := by decide +kernel
theorem dX3_lacksPlace_39 : decode cX3_lacksPlace 39 = .ok (.ireturn, 1) := by decide +kernel
theorem dX3_lastPlace_0 : decode cX3_lastPlace 0 = .ok (.aload_n 0, 1) := by decide +kernel
theorem dX3_lastPlace_1 : decode cX3_lastPlace 1 = .ok (.getfield 11, 3) := by decide +kernel
theorem dX3_lastPlace_4 : decode cX3_lastPlace 4 = .ok (.iload_n 1, 1) := by decide +kernel
theorem dX3_lastPlace_5 : decode cX3_lastPlace 5 = .ok (.aaload, 1) := by decide +kernel
theorem dX3_lastPlace_6 : decode cX3_lastPlace 6 = .ok (.getfield 91, 3) := by decide +kernel
theorem dX3_lastPlace_9 : decode cX3_lastPlace 9 = .ok (.aload_n 0, 1) := by decide +kernel
theorem dX3_lastPlace_10 : decode cX3_lastPlace 10 = .ok (.getfield 19, 3) := by decide +kernel
theorem dX3_lastPlace_13 : decode cX3_lastPlace 13 = .ok (.iload_n 1, 1) := by decide +kernel
theorem dX3_lastPlace_14 : decode cX3_lastPlace 14 = .ok (.aaload, 1) := by decide +kernel
theorem dX3_lastPlace_15 : decode cX3_lastPlace 15 = .ok (.getfield 69, 3) := by decide +kernel
theorem dX3_lastPlace_18 : decode cX3_lastPlace 18 = .ok (.isub, 1) := by decide +kernel
theorem dX3_lastPlace_19 : decode cX3_lastPlace 19 = .ok (.ireturn, 1) := by decide +kernel
theorem dX3_compareWishes_0 : decode cX3_compareWishes 0 = .ok (.iconst 0, 1) := by decide +kernel
theorem dX3_compareWishes_1 : decode cX3_compareWishes 1 = .ok (.istore_n 1, 1) := by decide +kernel
theorem dX3_compareWishes_2 : decode cX3_compareWishes 2 = .ok (.iload_n 1, 1) := by decide +kernel
theorem dX3_compareWishes_3 : decode cX3_compareWishes 3 = .ok (.aload_n 0, 1) := by decide +kernel
theorem dX3_compareWishes_4 : decode cX3_compareWishes 4 = .ok (.getfield 57, 3) := by decide +kernel
theorem dX3_compareWishes_7 : decode cX3_compareWishes 7 = .ok (.if_icmp .ge 43, 3) := by decide +kernel
theorem dX3_compareWishes_10 : decode cX3_compareWishes 10 = .ok (.iload_n 1, 1) := by decide +kernel
theorem dX3_compareWishes_11 : decode cX3_compareWishes 11 = .ok (.iconst 1, 1) := by decide +kernel
theorem dX3_compareWishes_12 : decode cX3_compareWishes 12 = .ok (.iadd, 1) := by decide +kernel
theorem dX3_compareWishes_13 : decode cX3_compareWishes 13 = .ok (.istore_n 2, 1) := by decide +kernel
theorem dX3_compareWishes_14 : decode cX3_compareWishes 14 = .ok (.iload_n 2, 1) := by decide +kernel
theorem dX3_compareWishes_15 : decode cX3_compareWishes 15 = .ok (.aload_n 0, 1) := by decide +kernel
theorem dX3_compareWishes_16 : decode cX3_compareWishes 16 = .ok (.getfield 57, 3) := by decide +kernel
theorem dX3_compareWishes_19 : decode cX3_compareWishes 19 = .ok (.if_icmp .ge 25, 3) := by decide +kernel
theorem dX3_compareWishes_22 : decode cX3_compareWishes 22 = .ok (.aload_n 0, 1) := by decide +kernel
theorem dX3_compareWishes_23 : decode cX3_compareWishes 23 = .ok (.getfield 33, 3) := by decide +kernel
theorem dX3_compareWishes_26 : decode cX3_compareWishes 26 = .ok (.iload_n 1, 1) := by decide +kernel
theorem dX3_compareWishes_27 : decode cX3_compareWishes 27 = .ok (.iconst 4, 1) := by decide +kernel
theorem dX3_compareWishes_28 : decode cX3_compareWishes 28 = .ok (.imul, 1) := by decide +kernel
theorem dX3_compareWishes_29 : decode cX3_compareWishes 29 = .ok (.iload_n 2, 1) := by decide +kernel
theorem dX3_compareWishes_30 : decode cX3_compareWishes 30 = .ok (.iadd, 1) := by decide +kernel
theorem dX3_compareWishes_31 : decode cX3_compareWishes 31 = .ok (.aload_n 0, 1) := by decide +kernel
theorem dX3_compareWishes_32 : decode cX3_compareWishes 32 = .ok (.iload_n 1, 1) := by decide +kernel
theorem dX3_compareWishes_33 : decode cX3_compareWishes 33 = .ok (.iload_n 2, 1) := by decide +kernel
theorem dX3_compareWishes_34 : decode cX3_compareWishes 34 = .ok (.invokevirtual 92, 3) := by decide +kernel
theorem dX3_compareWishes_37 : decode cX3_compareWishes 37 = .ok (.iastore, 1) := by decide +kernel
theorem dX3_compareWishes_38 : decode cX3_compareWishes 38 = .ok (.iinc 2 1, 3) := by decide +kernel
theorem dX3_compareWishes_41 : decode cX3_compareWishes 41 = .ok (.goto (-27), 3) := by decide +kernel
theorem dX3_compareWishes_44 : decode cX3_compareWishes 44 = .ok (.iinc 1 1, 3) := by decide +kernel
theorem dX3_compareWishes_47 : decode cX3_compareWishes 47 = .ok (.goto (-45), 3) := by decide +kernel
theorem dX3_compareWishes_50 : decode cX3_compareWishes 50 = .ok (.return_, 1) := by decide +kernel
theorem dX3_mostSaved_0 : decode cX3_mostSaved 0 = .ok (.iconst 0, 1) := by decide +kernel
theorem dX3_mostSaved_1 : decode cX3_mostSaved 1 = .ok (.istore_n 3, 1) := by decide +kernel
theorem dX3_mostSaved_2 : decode cX3_mostSaved 2 = .ok (.iconst 0, 1) := by decide +kernel
theorem dX3_mostSaved_3 : decode cX3_mostSaved 3 = .ok (.istore 4, 2) := by decide +kernel
theorem dX3_mostSaved_5 : decode cX3_mostSaved 5 = .ok (.iload 4, 2) := by decide +kernel
theorem dX3_mostSaved_7 : decode cX3_mostSaved 7 = .ok (.aload_n 0, 1) := by decide +kernel
theorem dX3_mostSaved_8 : decode cX3_mostSaved 8 = .ok (.iload_n 1, 1) := by decide +kernel
theorem dX3_mostSaved_9 : decode cX3_mostSaved 9 = .ok (.invokevirtual 87, 3) := by decide +kernel
theorem dX3_mostSaved_12 : decode cX3_mostSaved 12 = .ok (.if_icmp .gt 82, 3) := by decide +kernel
theorem dX3_mostSaved_15 : decode cX3_mostSaved 15 = .ok (.aload_n 0, 1) := by decide +kernel
theorem dX3_mostSaved_16 : decode cX3_mostSaved 16 = .ok (.iload_n 1, 1) := by decide +kernel
theorem dX3_mostSaved_17 : decode cX3_mostSaved 17 = .ok (.iload 4, 2) := by decide +kernel
theorem dX3_mostSaved_19 : decode cX3_mostSaved 19 = .ok (.invokevirtual 96, 3) := by decide +kernel
theorem dX3_mostSaved_22 : decode cX3_mostSaved 22 = .ok (.iconst 0, 1) := by decide +kernel
theorem dX3_mostSaved_23 : decode cX3_mostSaved 23 = .ok (.istore 5, 2) := by decide +kernel
theorem dX3_mostSaved_25 : decode cX3_mostSaved 25 = .ok (.iload 5, 2) := by decide +kernel
theorem dX3_mostSaved_27 : decode cX3_mostSaved 27 = .ok (.aload_n 0, 1) := by decide +kernel
theorem dX3_mostSaved_28 : decode cX3_mostSaved 28 = .ok (.iload_n 2, 1) := by decide +kernel
theorem dX3_mostSaved_29 : decode cX3_mostSaved 29 = .ok (.invokevirtual 87, 3) := by decide +kernel
theorem dX3_mostSaved_32 : decode cX3_mostSaved 32 = .ok (.if_icmp .gt 49, 3) := by decide +kernel
theorem dX3_mostSaved_35 : decode cX3_mostSaved 35 = .ok (.aload_n 0, 1) := by decide +kernel
theorem dX3_mostSaved_36 : decode cX3_mostSaved 36 = .ok (.iload_n 2, 1) := by decide +kernel
theorem dX3_mostSaved_37 : decode cX3_mostSaved 37 = .ok (.iload 5, 2) := by decide +kernel
theorem dX3_mostSaved_39 : decode cX3_mostSaved 39 = .ok (.invokevirtual 99, 3) := by decide +kernel
theorem dX3_mostSaved_42 : decode cX3_mostSaved 42 = .ok (.istore 6, 2) := by decide +kernel
theorem dX3_mostSaved_44 : decode cX3_mostSaved 44 = .ok (.iload 6, 2) := by decide +kernel
theorem dX3_mostSaved_46 : decode cX3_mostSaved 46 = .ok (.iconst (-1), 1) := by decide +kernel
theorem dX3_mostSaved_47 : decode cX3_mostSaved 47 = .ok (.if_icmp .eq 28, 3) := by decide +kernel
theorem dX3_mostSaved_50 : decode cX3_mostSaved 50 = .ok (.iload_n 3, 1) := by decide +kernel
theorem dX3_mostSaved_51 : decode cX3_mostSaved 51 = .ok (.aload_n 0, 1) := by decide +kernel
theorem dX3_mostSaved_52 : decode cX3_mostSaved 52 = .ok (.getfield 11, 3) := by decide +kernel
theorem dX3_mostSaved_55 : decode cX3_mostSaved 55 = .ok (.iload_n 2, 1) := by decide +kernel
theorem dX3_mostSaved_56 : decode cX3_mostSaved 56 = .ok (.aaload, 1) := by decide +kernel
theorem dX3_mostSaved_57 : decode cX3_mostSaved 57 = .ok (.aload_n 0, 1) := by decide +kernel
theorem dX3_mostSaved_58 : decode cX3_mostSaved 58 = .ok (.getfield 19, 3) := by decide +kernel
theorem dX3_mostSaved_61 : decode cX3_mostSaved 61 = .ok (.iload_n 2, 1) := by decide +kernel
theorem dX3_mostSaved_62 : decode cX3_mostSaved 62 = .ok (.aaload, 1) := by decide +kernel
theorem dX3_mostSaved_63 : decode cX3_mostSaved 63 = .ok (.iload 5, 2) := by decide +kernel
theorem dX3_mostSaved_65 : decode cX3_mostSaved 65 = .ok (.invokevirtual 102, 3) := by decide +kernel
theorem dX3_mostSaved_68 : decode cX3_mostSaved 68 = .ok (.iload 6, 2) := by decide +kernel
theorem dX3_mostSaved_70 : decode cX3_mostSaved 70 = .ok (.isub, 1) := by decide +kernel
theorem dX3_mostSaved_71 : decode cX3_mostSaved 71 = .ok (.invokestatic 106, 3) := by decide +kernel
theorem dX3_mostSaved_74 : decode cX3_mostSaved 74 = .ok (.istore_n 3, 1) := by decide +kernel
theorem dX3_mostSaved_75 : decode cX3_mostSaved 75 = .ok (.iinc 5 1, 3) := by decide +kernel
theorem dX3_mostSaved_78 : decode cX3_mostSaved 78 = .ok (.goto (-53), 3) := by decide +kernel
theorem dX3_mostSaved_81 : decode cX3_mostSaved 81 = .ok (.aload_n 0, 1) := by decide +kernel
theorem dX3_mostSaved_82 : decode cX3_mostSaved 82 = .ok (.iload_n 1, 1) := by decide +kernel
theorem dX3_mostSaved_83 : decode cX3_mostSaved 83 = .ok (.iload 4, 2) := by decide +kernel
theorem dX3_mostSaved_85 : decode cX3_mostSaved 85 = .ok (.invokevirtual 111, 3) := by decide +kernel
theorem dX3_mostSaved_88 : decode cX3_mostSaved 88 = .ok (.iinc 4 1, 3) := by decide +kernel
theorem dX3_mostSaved_91 : decode cX3_mostSaved 91 = .ok (.goto (-86), 3) := by decide +kernel
theorem dX3_mostSaved_94 : decode cX3_mostSaved 94 = .ok (.iload_n 3, 1) := by decide +kernel
theorem dX3_mostSaved_95 : decode cX3_mostSaved 95 = .ok (.ireturn, 1) := by decide +kernel
theorem dX3_tryPlaces_0 : decode cX3_tryPlaces 0 = .ok (.iload_n 1, 1) := by decide +kernel
theorem dX3_tryPlaces_1 : decode cX3_tryPlaces 1 = .ok (.aload_n 0, 1) := by decide +kernel
theorem dX3_tryPlaces_2 : decode cX3_tryPlaces 2 = .ok (.getfield 57, 3) := by decide +kernel
theorem dX3_tryPlaces_5 : decode cX3_tryPlaces 5 = .ok (.if_icmp .ge 8, 3) := by decide +kernel
theorem dX3_tryPlaces_8 : decode cX3_tryPlaces 8 = .ok (.iload_n 1, 1) := by decide +kernel
theorem dX3_tryPlaces_9 : decode cX3_tryPlaces 9 = .ok (.iconst 4, 1) := by decide +kernel
theorem dX3_tryPlaces_10 : decode cX3_tryPlaces 10 = .ok (.if_icmp .lt 16, 3) := by decide +kernel
theorem dX3_tryPlaces_13 : decode cX3_tryPlaces 13 = .ok (.aload_n 0, 1) := by decide +kernel
theorem dX3_tryPlaces_14 : decode cX3_tryPlaces 14 = .ok (.aload_n 0, 1) := by decide +kernel
theorem dX3_tryPlaces_15 : decode cX3_tryPlaces 15 = .ok (.getfield 49, 3) := by decide +kernel
theorem dX3_tryPlaces_18 : decode cX3_tryPlaces 18 = .ok (.iload_n 2, 1) := by decide +kernel
theorem dX3_tryPlaces_19 : decode cX3_tryPlaces 19 = .ok (.invokestatic 114, 3) := by decide +kernel
theorem dX3_tryPlaces_22 : decode cX3_tryPlaces 22 = .ok (.putfield 49, 3) := by decide +kernel
theorem dX3_tryPlaces_25 : decode cX3_tryPlaces 25 = .ok (.return_, 1) := by decide +kernel
theorem dX3_tryPlaces_26 : decode cX3_tryPlaces 26 = .ok (.iload_n 2, 1) := by decide +kernel
theorem dX3_tryPlaces_27 : decode cX3_tryPlaces 27 = .ok (.istore_n 3, 1) := by decide +kernel
theorem dX3_tryPlaces_28 : decode cX3_tryPlaces 28 = .ok (.iload_n 1, 1) := by decide +kernel
theorem dX3_tryPlaces_29 : decode cX3_tryPlaces 29 = .ok (.iconst 1, 1) := by decide +kernel
theorem dX3_tryPlaces_30 : decode cX3_tryPlaces 30 = .ok (.iadd, 1) := by decide +kernel
theorem dX3_tryPlaces_31 : decode cX3_tryPlaces 31 = .ok (.istore 4, 2) := by decide +kernel
theorem dX3_tryPlaces_33 : decode cX3_tryPlaces 33 = .ok (.iload 4, 2) := by decide +kernel
theorem dX3_tryPlaces_35 : decode cX3_tryPlaces 35 = .ok (.aload_n 0, 1) := by decide +kernel
theorem dX3_tryPlaces_36 : decode cX3_tryPlaces 36 = .ok (.getfield 57, 3) := by decide +kernel
theorem dX3_tryPlaces_39 : decode cX3_tryPlaces 39 = .ok (.if_icmp .ge 19, 3) := by decide +kernel
theorem dX3_tryPlaces_42 : decode cX3_tryPlaces 42 = .ok (.iload_n 3, 1) := by decide +kernel
theorem dX3_tryPlaces_43 : decode cX3_tryPlaces 43 = .ok (.aload_n 0, 1) := by decide +kernel
theorem dX3_tryPlaces_44 : decode cX3_tryPlaces 44 = .ok (.iload_n 1, 1) := by decide +kernel
theorem dX3_tryPlaces_45 : decode cX3_tryPlaces 45 = .ok (.iload 4, 2) := by decide +kernel
theorem dX3_tryPlaces_47 : decode cX3_tryPlaces 47 = .ok (.invokevirtual 117, 3) := by decide +kernel
theorem dX3_tryPlaces_50 : decode cX3_tryPlaces 50 = .ok (.iadd, 1) := by decide +kernel
theorem dX3_tryPlaces_51 : decode cX3_tryPlaces 51 = .ok (.istore_n 3, 1) := by decide +kernel
theorem dX3_tryPlaces_52 : decode cX3_tryPlaces 52 = .ok (.iinc 4 1, 3) := by decide +kernel
theorem dX3_tryPlaces_55 : decode cX3_tryPlaces 55 = .ok (.goto (-22), 3) := by decide +kernel
theorem dX3_tryPlaces_58 : decode cX3_tryPlaces 58 = .ok (.aload_n 0, 1) := by decide +kernel
theorem dX3_tryPlaces_59 : decode cX3_tryPlaces 59 = .ok (.iload_n 1, 1) := by decide +kernel
theorem dX3_tryPlaces_60 : decode cX3_tryPlaces 60 = .ok (.invokevirtual 120, 3) := by decide +kernel
theorem dX3_tryPlaces_63 : decode cX3_tryPlaces 63 = .ok (.pop, 1) := by decide +kernel
theorem dX3_tryPlaces_64 : decode cX3_tryPlaces 64 = .ok (.iconst 0, 1) := by decide +kernel
theorem dX3_tryPlaces_65 : decode cX3_tryPlaces 65 = .ok (.istore 4, 2) := by decide +kernel
theorem dX3_tryPlaces_67 : decode cX3_tryPlaces 67 = .ok (.iload 4, 2) := by decide +kernel
theorem dX3_tryPlaces_69 : decode cX3_tryPlaces 69 = .ok (.bipush 8, 2) := by decide +kernel
theorem dX3_tryPlaces_71 : decode cX3_tryPlaces 71 = .ok (.if_icmp .gt 92, 3) := by decide +kernel
theorem dX3_tryPlaces_74 : decode cX3_tryPlaces 74 = .ok (.iload_n 3, 1) := by decide +kernel
theorem dX3_tryPlaces_75 : decode cX3_tryPlaces 75 = .ok (.iload 4, 2) := by decide +kernel
theorem dX3_tryPlaces_77 : decode cX3_tryPlaces 77 = .ok (.iadd, 1) := by decide +kernel
theorem dX3_tryPlaces_78 : decode cX3_tryPlaces 78 = .ok (.aload_n 0, 1) := by decide +kernel
theorem dX3_tryPlaces_79 : decode cX3_tryPlaces 79 = .ok (.getfield 49, 3) := by decide +kernel
theorem dX3_tryPlaces_82 : decode cX3_tryPlaces 82 = .ok (.if_icmp .ge 81, 3) := by decide +kernel
theorem dX3_tryPlaces_85 : decode cX3_tryPlaces 85 = .ok (.iconst 0, 1) := by decide +kernel
theorem dX3_tryPlaces_86 : decode cX3_tryPlaces 86 = .ok (.istore 5, 2) := by decide +kernel
theorem dX3_tryPlaces_88 : decode cX3_tryPlaces 88 = .ok (.iload 5, 2) := by decide +kernel
theorem dX3_tryPlaces_90 : decode cX3_tryPlaces 90 = .ok (.aload_n 0, 1) := by decide +kernel
theorem dX3_tryPlaces_91 : decode cX3_tryPlaces 91 = .ok (.iload_n 1, 1) := by decide +kernel
theorem dX3_tryPlaces_92 : decode cX3_tryPlaces 92 = .ok (.invokevirtual 87, 3) := by decide +kernel
theorem dX3_tryPlaces_95 : decode cX3_tryPlaces 95 = .ok (.if_icmp .gt 62, 3) := by decide +kernel
theorem dX3_tryPlaces_98 : decode cX3_tryPlaces 98 = .ok (.iload_n 3, 1) := by decide +kernel
theorem dX3_tryPlaces_99 : decode cX3_tryPlaces 99 = .ok (.iload 4, 2) := by decide +kernel
theorem dX3_tryPlaces_101 : decode cX3_tryPlaces 101 = .ok (.iadd, 1) := by decide +kernel
theorem dX3_tryPlaces_102 : decode cX3_tryPlaces 102 = .ok (.aload_n 0, 1) := by decide +kernel
theorem dX3_tryPlaces_103 : decode cX3_tryPlaces 103 = .ok (.getfield 49, 3) := by decide +kernel
theorem dX3_tryPlaces_106 : decode cX3_tryPlaces 106 = .ok (.if_icmp .ge 51, 3) := by decide +kernel
theorem dX3_tryPlaces_109 : decode cX3_tryPlaces 109 = .ok (.aload_n 0, 1) := by decide +kernel
theorem dX3_tryPlaces_110 : decode cX3_tryPlaces 110 = .ok (.getfield 30, 3) := by decide +kernel
theorem dX3_tryPlaces_113 : decode cX3_tryPlaces 113 = .ok (.iload_n 1, 1) := by decide +kernel
theorem dX3_tryPlaces_114 : decode cX3_tryPlaces 114 = .ok (.bipush 30, 2) := by decide +kernel
theorem dX3_tryPlaces_116 : decode cX3_tryPlaces 116 = .ok (.imul, 1) := by decide +kernel
theorem dX3_tryPlaces_117 : decode cX3_tryPlaces 117 = .ok (.iload 5, 2) := by decide +kernel
theorem dX3_tryPlaces_119 : decode cX3_tryPlaces 119 = .ok (.iadd, 1) := by decide +kernel
theorem dX3_tryPlaces_120 : decode cX3_tryPlaces 120 = .ok (.iaload, 1) := by decide +kernel
theorem dX3_tryPlaces_121 : decode cX3_tryPlaces 121 = .ok (.iload 4, 2) := by decide +kernel
theorem dX3_tryPlaces_123 : decode cX3_tryPlaces 123 = .ok (.if_icmp .ne 28, 3) := by decide +kernel
theorem dX3_tryPlaces_126 : decode cX3_tryPlaces 126 = .ok (.aload_n 0, 1) := by decide +kernel
theorem dX3_tryPlaces_127 : decode cX3_tryPlaces 127 = .ok (.iload_n 1, 1) := by decide +kernel
theorem dX3_tryPlaces_128 : decode cX3_tryPlaces 128 = .ok (.iload 5, 2) := by decide +kernel
theorem dX3_tryPlaces_130 : decode cX3_tryPlaces 130 = .ok (.invokevirtual 96, 3) := by decide +kernel
theorem dX3_tryPlaces_133 : decode cX3_tryPlaces 133 = .ok (.aload_n 0, 1) := by decide +kernel
theorem dX3_tryPlaces_134 : decode cX3_tryPlaces 134 = .ok (.iload_n 1, 1) := by decide +kernel
theorem dX3_tryPlaces_135 : decode cX3_tryPlaces 135 = .ok (.iconst 1, 1) := by decide +kernel
theorem dX3_tryPlaces_136 : decode cX3_tryPlaces 136 = .ok (.iadd, 1) := by decide +kernel
theorem dX3_tryPlaces_137 : decode cX3_tryPlaces 137 = .ok (.iload_n 2, 1) := by decide +kernel
theorem dX3_tryPlaces_138 : decode cX3_tryPlaces 138 = .ok (.iload 4, 2) := by decide +kernel
theorem dX3_tryPlaces_140 : decode cX3_tryPlaces 140 = .ok (.iadd, 1) := by decide +kernel
theorem dX3_tryPlaces_141 : decode cX3_tryPlaces 141 = .ok (.invokevirtual 53, 3) := by decide +kernel
theorem dX3_tryPlaces_144 : decode cX3_tryPlaces 144 = .ok (.aload_n 0, 1) := by decide +kernel
theorem dX3_tryPlaces_145 : decode cX3_tryPlaces 145 = .ok (.iload_n 1, 1) := by decide +kernel
theorem dX3_tryPlaces_146 : decode cX3_tryPlaces 146 = .ok (.iload 5, 2) := by decide +kernel
theorem dX3_tryPlaces_148 : decode cX3_tryPlaces 148 = .ok (.invokevirtual 111, 3) := by decide +kernel
theorem dX3_tryPlaces_151 : decode cX3_tryPlaces 151 = .ok (.iinc 5 1, 3) := by decide +kernel
theorem dX3_tryPlaces_154 : decode cX3_tryPlaces 154 = .ok (.goto (-66), 3) := by decide +kernel
theorem dX3_tryPlaces_157 : decode cX3_tryPlaces 157 = .ok (.iinc 4 1, 3) := by decide +kernel
theorem dX3_tryPlaces_160 : decode cX3_tryPlaces 160 = .ok (.goto (-93), 3) := by decide +kernel
theorem dX3_tryPlaces_163 : decode cX3_tryPlaces 163 = .ok (.return_, 1) := by decide +kernel
theorem dX3_leastBeside_0 : decode cX3_leastBeside 0 = .ok (.aload_n 0, 1) := by decide +kernel
theorem dX3_leastBeside_1 : decode cX3_leastBeside 1 = .ok (.iload_n 2, 1) := by decide +kernel
theorem dX3_leastBeside_2 : decode cX3_leastBeside 2 = .ok (.invokevirtual 120, 3) := by decide +kernel
theorem dX3_leastBeside_5 : decode cX3_leastBeside 5 = .ok (.istore_n 3, 1) := by decide +kernel
theorem dX3_leastBeside_6 : decode cX3_leastBeside 6 = .ok (.iload_n 3, 1) := by decide +kernel
theorem dX3_leastBeside_7 : decode cX3_leastBeside 7 = .ok (.bipush 33, 2) := by decide +kernel
theorem dX3_leastBeside_9 : decode cX3_leastBeside 9 = .ok (.if_icmp .ne 6, 3) := by decide +kernel
theorem dX3_leastBeside_12 : decode cX3_leastBeside 12 = .ok (.bipush 33, 2) := by decide +kernel
theorem dX3_leastBeside_14 : decode cX3_leastBeside 14 = .ok (.ireturn, 1) := by decide +kernel
theorem dX3_leastBeside_15 : decode cX3_leastBeside 15 = .ok (.iload_n 1, 1) := by decide +kernel
theorem dX3_leastBeside_16 : decode cX3_leastBeside 16 = .ok (.istore 4, 2) := by decide +kernel
theorem dX3_leastBeside_18 : decode cX3_leastBeside 18 = .ok (.iload 4, 2) := by decide +kernel
theorem dX3_leastBeside_20 : decode cX3_leastBeside 20 = .ok (.iload_n 2, 1) := by decide +kernel
theorem dX3_leastBeside_21 : decode cX3_leastBeside 21 = .ok (.if_icmp .ge 23, 3) := by decide +kernel
theorem dX3_leastBeside_24 : decode cX3_leastBeside 24 = .ok (.iload_n 3, 1) := by decide +kernel
theorem dX3_leastBeside_25 : decode cX3_leastBeside 25 = .ok (.aload_n 0, 1) := by decide +kernel
theorem dX3_leastBeside_26 : decode cX3_leastBeside 26 = .ok (.getfield 33, 3) := by decide +kernel
theorem dX3_leastBeside_29 : decode cX3_leastBeside 29 = .ok (.iload 4, 2) := by decide +kernel
theorem dX3_leastBeside_31 : decode cX3_leastBeside 31 = .ok (.iconst 4, 1) := by decide +kernel
theorem dX3_leastBeside_32 : decode cX3_leastBeside 32 = .ok (.imul, 1) := by decide +kernel
theorem dX3_leastBeside_33 : decode cX3_leastBeside 33 = .ok (.iload_n 2, 1) := by decide +kernel
theorem dX3_leastBeside_34 : decode cX3_leastBeside 34 = .ok (.iadd, 1) := by decide +kernel
theorem dX3_leastBeside_35 : decode cX3_leastBeside 35 = .ok (.iaload, 1) := by decide +kernel
theorem dX3_leastBeside_36 : decode cX3_leastBeside 36 = .ok (.isub, 1) := by decide +kernel
theorem dX3_leastBeside_37 : decode cX3_leastBeside 37 = .ok (.istore_n 3, 1) := by decide +kernel
theorem dX3_leastBeside_38 : decode cX3_leastBeside 38 = .ok (.iinc 4 1, 3) := by decide +kernel
theorem dX3_leastBeside_41 : decode cX3_leastBeside 41 = .ok (.goto (-23), 3) := by decide +kernel
theorem dX3_leastBeside_44 : decode cX3_leastBeside 44 = .ok (.iconst 0, 1) := by decide +kernel
theorem dX3_leastBeside_45 : decode cX3_leastBeside 45 = .ok (.iload_n 3, 1) := by decide +kernel
theorem dX3_leastBeside_46 : decode cX3_leastBeside 46 = .ok (.invokestatic 106, 3) := by decide +kernel
theorem dX3_leastBeside_49 : decode cX3_leastBeside 49 = .ok (.ireturn, 1) := by decide +kernel
theorem dX3_weighPlaces_0 : decode cX3_weighPlaces 0 = .ok (.bipush 33, 2) := by decide +kernel
theorem dX3_weighPlaces_2 : decode cX3_weighPlaces 2 = .ok (.istore_n 2, 1) := by decide +kernel
theorem dX3_weighPlaces_3 : decode cX3_weighPlaces 3 = .ok (.iconst 0, 1) := by decide +kernel
theorem dX3_weighPlaces_4 : decode cX3_weighPlaces 4 = .ok (.istore_n 3, 1) := by decide +kernel
theorem dX3_weighPlaces_5 : decode cX3_weighPlaces 5 = .ok (.iload_n 3, 1) := by decide +kernel
theorem dX3_weighPlaces_6 : decode cX3_weighPlaces 6 = .ok (.aload_n 0, 1) := by decide +kernel
theorem dX3_weighPlaces_7 : decode cX3_weighPlaces 7 = .ok (.iload_n 1, 1) := by decide +kernel
theorem dX3_weighPlaces_8 : decode cX3_weighPlaces 8 = .ok (.invokevirtual 87, 3) := by decide +kernel
theorem dX3_weighPlaces_11 : decode cX3_weighPlaces 11 = .ok (.if_icmp .gt 43, 3) := by decide +kernel
theorem dX3_weighPlaces_14 : decode cX3_weighPlaces 14 = .ok (.aload_n 0, 1) := by decide +kernel
theorem dX3_weighPlaces_15 : decode cX3_weighPlaces 15 = .ok (.iload_n 1, 1) := by decide +kernel
theorem dX3_weighPlaces_16 : decode cX3_weighPlaces 16 = .ok (.iload_n 3, 1) := by decide +kernel
theorem dX3_weighPlaces_17 : decode cX3_weighPlaces 17 = .ok (.invokevirtual 99, 3) := by decide +kernel
theorem dX3_weighPlaces_20 : decode cX3_weighPlaces 20 = .ok (.istore 4, 2) := by decide +kernel
theorem dX3_weighPlaces_22 : decode cX3_weighPlaces 22 = .ok (.aload_n 0, 1) := by decide +kernel
theorem dX3_weighPlaces_23 : decode cX3_weighPlaces 23 = .ok (.getfield 30, 3) := by decide +kernel
theorem dX3_weighPlaces_26 : decode cX3_weighPlaces 26 = .ok (.iload_n 1, 1) := by decide +kernel
theorem dX3_weighPlaces_27 : decode cX3_weighPlaces 27 = .ok (.bipush 30, 2) := by decide +kernel
theorem dX3_weighPlaces_29 : decode cX3_weighPlaces 29 = .ok (.imul, 1) := by decide +kernel
theorem dX3_weighPlaces_30 : decode cX3_weighPlaces 30 = .ok (.iload_n 3, 1) := by decide +kernel
theorem dX3_weighPlaces_31 : decode cX3_weighPlaces 31 = .ok (.iadd, 1) := by decide +kernel
theorem dX3_weighPlaces_32 : decode cX3_weighPlaces 32 = .ok (.iload 4, 2) := by decide +kernel
theorem dX3_weighPlaces_34 : decode cX3_weighPlaces 34 = .ok (.iastore, 1) := by decide +kernel
theorem dX3_weighPlaces_35 : decode cX3_weighPlaces 35 = .ok (.iload 4, 2) := by decide +kernel
theorem dX3_weighPlaces_37 : decode cX3_weighPlaces 37 = .ok (.iconst (-1), 1) := by decide +kernel
theorem dX3_weighPlaces_38 : decode cX3_weighPlaces 38 = .ok (.if_icmp .eq 10, 3) := by decide +kernel
theorem dX3_weighPlaces_41 : decode cX3_weighPlaces 41 = .ok (.iload_n 2, 1) := by decide +kernel
theorem dX3_weighPlaces_42 : decode cX3_weighPlaces 42 = .ok (.iload 4, 2) := by decide +kernel
theorem dX3_weighPlaces_44 : decode cX3_weighPlaces 44 = .ok (.invokestatic 114, 3) := by decide +kernel
theorem dX3_weighPlaces_47 : decode cX3_weighPlaces 47 = .ok (.istore_n 2, 1) := by decide +kernel
theorem dX3_weighPlaces_48 : decode cX3_weighPlaces 48 = .ok (.iinc 3 1, 3) := by decide +kernel
theorem dX3_weighPlaces_51 : decode cX3_weighPlaces 51 = .ok (.goto (-46), 3) := by decide +kernel
theorem dX3_weighPlaces_54 : decode cX3_weighPlaces 54 = .ok (.iload_n 2, 1) := by decide +kernel
theorem dX3_weighPlaces_55 : decode cX3_weighPlaces 55 = .ok (.ireturn, 1) := by decide +kernel
theorem dX3_costFrom_0 : decode cX3_costFrom 0 = .ok (.aload_n 0, 1) := by decide +kernel
theorem dX3_costFrom_1 : decode cX3_costFrom 1 = .ok (.getfield 11, 3) := by decide +kernel
theorem dX3_costFrom_4 : decode cX3_costFrom 4 = .ok (.iload_n 1, 1) := by decide +kernel
theorem dX3_costFrom_5 : decode cX3_costFrom 5 = .ok (.aaload, 1) := by decide +kernel
theorem dX3_costFrom_6 : decode cX3_costFrom 6 = .ok (.astore_n 3, 1) := by decide +kernel
theorem dX3_costFrom_7 : decode cX3_costFrom 7 = .ok (.aload_n 0, 1) := by decide +kernel
theorem dX3_costFrom_8 : decode cX3_costFrom 8 = .ok (.getfield 19, 3) := by decide +kernel
theorem dX3_costFrom_11 : decode cX3_costFrom 11 = .ok (.iload_n 1, 1) := by decide +kernel
theorem dX3_costFrom_12 : decode cX3_costFrom 12 = .ok (.aaload, 1) := by decide +kernel
theorem dX3_costFrom_13 : decode cX3_costFrom 13 = .ok (.getfield 123, 3) := by decide +kernel
theorem dX3_costFrom_16 : decode cX3_costFrom 16 = .ok (.astore 4, 2) := by decide +kernel
theorem dX3_costFrom_18 : decode cX3_costFrom 18 = .ok (.iconst 0, 1) := by decide +kernel
theorem dX3_costFrom_19 : decode cX3_costFrom 19 = .ok (.istore 5, 2) := by decide +kernel
theorem dX3_costFrom_21 : decode cX3_costFrom 21 = .ok (.iconst 0, 1) := by decide +kernel
theorem dX3_costFrom_22 : decode cX3_costFrom 22 = .ok (.istore 6, 2) := by decide +kernel
theorem dX3_costFrom_24 : decode cX3_costFrom 24 = .ok (.iload 6, 2) := by decide +kernel
theorem dX3_costFrom_26 : decode cX3_costFrom 26 = .ok (.aload_n 0, 1) := by decide +kernel
theorem dX3_costFrom_27 : decode cX3_costFrom 27 = .ok (.getfield 19, 3) := by decide +kernel
theorem dX3_costFrom_30 : decode cX3_costFrom 30 = .ok (.iload_n 1, 1) := by decide +kernel
theorem dX3_costFrom_31 : decode cX3_costFrom 31 = .ok (.aaload, 1) := by decide +kernel
theorem dX3_costFrom_32 : decode cX3_costFrom 32 = .ok (.getfield 69, 3) := by decide +kernel
theorem dX3_costFrom_35 : decode cX3_costFrom 35 = .ok (.if_icmp .ge 73, 3) := by decide +kernel
theorem dX3_costFrom_38 : decode cX3_costFrom 38 = .ok (.aload_n 0, 1) := by decide +kernel
theorem dX3_costFrom_39 : decode cX3_costFrom 39 = .ok (.getfield 23, 3) := by decide +kernel
theorem dX3_costFrom_42 : decode cX3_costFrom 42 = .ok (.aload_n 3, 1) := by decide +kernel
theorem dX3_costFrom_43 : decode cX3_costFrom 43 = .ok (.getfield 126, 3) := by decide +kernel
theorem dX3_costFrom_46 : decode cX3_costFrom 46 = .ok (.iload_n 2, 1) := by decide +kernel
theorem dX3_costFrom_47 : decode cX3_costFrom 47 = .ok (.iload 6, 2) := by decide +kernel
theorem dX3_costFrom_49 : decode cX3_costFrom 49 = .ok (.iadd, 1) := by decide +kernel
theorem dX3_costFrom_50 : decode cX3_costFrom 50 = .ok (.iaload, 1) := by decide +kernel
theorem dX3_costFrom_51 : decode cX3_costFrom 51 = .ok (.iaload, 1) := by decide +kernel
theorem dX3_costFrom_52 : decode cX3_costFrom 52 = .ok (.istore 7, 2) := by decide +kernel
theorem dX3_costFrom_54 : decode cX3_costFrom 54 = .ok (.iload 7, 2) := by decide +kernel
theorem dX3_costFrom_56 : decode cX3_costFrom 56 = .ok (.iconst (-1), 1) := by decide +kernel
theorem dX3_costFrom_57 : decode cX3_costFrom 57 = .ok (.if_icmp .ne 33, 3) := by decide +kernel
theorem dX3_costFrom_60 : decode cX3_costFrom 60 = .ok (.iload 5, 2) := by decide +kernel
theorem dX3_costFrom_62 : decode cX3_costFrom 62 = .ok (.aload_n 3, 1) := by decide +kernel
theorem dX3_costFrom_63 : decode cX3_costFrom 63 = .ok (.getfield 129, 3) := by decide +kernel
theorem dX3_costFrom_66 : decode cX3_costFrom 66 = .ok (.iload_n 2, 1) := by decide +kernel
theorem dX3_costFrom_67 : decode cX3_costFrom 67 = .ok (.iload 6, 2) := by decide +kernel
theorem dX3_costFrom_69 : decode cX3_costFrom 69 = .ok (.iadd, 1) := by decide +kernel
theorem dX3_costFrom_70 : decode cX3_costFrom 70 = .ok (.iaload, 1) := by decide +kernel
theorem dX3_costFrom_71 : decode cX3_costFrom 71 = .ok (.aload 4, 2) := by decide +kernel
theorem dX3_costFrom_73 : decode cX3_costFrom 73 = .ok (.iload 6, 2) := by decide +kernel
theorem dX3_costFrom_75 : decode cX3_costFrom 75 = .ok (.iaload, 1) := by decide +kernel
theorem dX3_costFrom_76 : decode cX3_costFrom 76 = .ok (.if_icmp .ne 7, 3) := by decide +kernel
theorem dX3_costFrom_79 : decode cX3_costFrom 79 = .ok (.iconst 0, 1) := by decide +kernel
theorem dX3_costFrom_80 : decode cX3_costFrom 80 = .ok (.goto 4, 3) := by decide +kernel
theorem dX3_costFrom_83 : decode cX3_costFrom 83 = .ok (.iconst 1, 1) := by decide +kernel
theorem dX3_costFrom_84 : decode cX3_costFrom 84 = .ok (.iadd, 1) := by decide +kernel
theorem dX3_costFrom_85 : decode cX3_costFrom 85 = .ok (.istore 5, 2) := by decide +kernel
theorem dX3_costFrom_87 : decode cX3_costFrom 87 = .ok (.goto 15, 3) := by decide +kernel
theorem dX3_costFrom_90 : decode cX3_costFrom 90 = .ok (.iload 7, 2) := by decide +kernel
theorem dX3_costFrom_92 : decode cX3_costFrom 92 = .ok (.aload 4, 2) := by decide +kernel
theorem dX3_costFrom_94 : decode cX3_costFrom 94 = .ok (.iload 6, 2) := by decide +kernel
theorem dX3_costFrom_96 : decode cX3_costFrom 96 = .ok (.iaload, 1) := by decide +kernel
theorem dX3_costFrom_97 : decode cX3_costFrom 97 = .ok (.if_icmp .eq 5, 3) := by decide +kernel
theorem dX3_costFrom_100 : decode cX3_costFrom 100 = .ok (.iconst (-1), 1) := by decide +kernel
theorem dX3_costFrom_101 : decode cX3_costFrom 101 = .ok (.ireturn, 1) := by decide +kernel
theorem dX3_costFrom_102 : decode cX3_costFrom 102 = .ok (.iinc 6 1, 3) := by decide +kernel
theorem dX3_costFrom_105 : decode cX3_costFrom 105 = .ok (.goto (-81), 3) := by decide +kernel
theorem dX3_costFrom_108 : decode cX3_costFrom 108 = .ok (.iload 5, 2) := by decide +kernel
theorem dX3_costFrom_110 : decode cX3_costFrom 110 = .ok (.ireturn, 1) := by decide +kernel
theorem dX3_claim_0 : decode cX3_claim 0 = .ok (.iconst 0, 1) := by decide +kernel
theorem dX3_claim_1 : decode cX3_claim 1 = .ok (.istore_n 3, 1) := by decide +kernel
theorem dX3_claim_2 : decode cX3_claim 2 = .ok (.iload_n 3, 1) := by decide +kernel
theorem dX3_claim_3 : decode cX3_claim 3 = .ok (.aload_n 0, 1) := by decide +kernel
theorem dX3_claim_4 : decode cX3_claim 4 = .ok (.getfield 19, 3) := by decide +kernel
theorem dX3_claim_7 : decode cX3_claim 7 = .ok (.iload_n 1, 1) := by decide +kernel
theorem dX3_claim_8 : decode cX3_claim 8 = .ok (.aaload, 1) := by decide +kernel
theorem dX3_claim_9 : decode cX3_claim 9 = .ok (.getfield 69, 3) := by decide +kernel
theorem dX3_claim_12 : decode cX3_claim 12 = .ok (.if_icmp .ge 61, 3) := by decide +kernel
theorem dX3_claim_15 : decode cX3_claim 15 = .ok (.aload_n 0, 1) := by decide +kernel
theorem dX3_claim_16 : decode cX3_claim 16 = .ok (.getfield 11, 3) := by decide +kernel
theorem dX3_claim_19 : decode cX3_claim 19 = .ok (.iload_n 1, 1) := by decide +kernel
theorem dX3_claim_20 : decode cX3_claim 20 = .ok (.aaload, 1) := by decide +kernel
theorem dX3_claim_21 : decode cX3_claim 21 = .ok (.getfield 126, 3) := by decide +kernel
theorem dX3_claim_24 : decode cX3_claim 24 = .ok (.iload_n 2, 1) := by decide +kernel
theorem dX3_claim_25 : decode cX3_claim 25 = .ok (.iload_n 3, 1) := by decide +kernel
theorem dX3_claim_26 : decode cX3_claim 26 = .ok (.iadd, 1) := by decide +kernel
theorem dX3_claim_27 : decode cX3_claim 27 = .ok (.iaload, 1) := by decide +kernel
theorem dX3_claim_28 : decode cX3_claim 28 = .ok (.istore 4, 2) := by decide +kernel
theorem dX3_claim_30 : decode cX3_claim 30 = .ok (.aload_n 0, 1) := by decide +kernel
theorem dX3_claim_31 : decode cX3_claim 31 = .ok (.getfield 23, 3) := by decide +kernel
theorem dX3_claim_34 : decode cX3_claim 34 = .ok (.iload 4, 2) := by decide +kernel
theorem dX3_claim_36 : decode cX3_claim 36 = .ok (.iaload, 1) := by decide +kernel
theorem dX3_claim_37 : decode cX3_claim 37 = .ok (.iconst (-1), 1) := by decide +kernel
theorem dX3_claim_38 : decode cX3_claim 38 = .ok (.if_icmp .ne 29, 3) := by decide +kernel
theorem dX3_claim_41 : decode cX3_claim 41 = .ok (.aload_n 0, 1) := by decide +kernel
theorem dX3_claim_42 : decode cX3_claim 42 = .ok (.getfield 23, 3) := by decide +kernel
theorem dX3_claim_45 : decode cX3_claim 45 = .ok (.iload 4, 2) := by decide +kernel
theorem dX3_claim_47 : decode cX3_claim 47 = .ok (.aload_n 0, 1) := by decide +kernel
theorem dX3_claim_48 : decode cX3_claim 48 = .ok (.getfield 19, 3) := by decide +kernel
theorem dX3_claim_51 : decode cX3_claim 51 = .ok (.iload_n 1, 1) := by decide +kernel
theorem dX3_claim_52 : decode cX3_claim 52 = .ok (.aaload, 1) := by decide +kernel
theorem dX3_claim_53 : decode cX3_claim 53 = .ok (.getfield 123, 3) := by decide +kernel
theorem dX3_claim_56 : decode cX3_claim 56 = .ok (.iload_n 3, 1) := by decide +kernel
theorem dX3_claim_57 : decode cX3_claim 57 = .ok (.iaload, 1) := by decide +kernel
theorem dX3_claim_58 : decode cX3_claim 58 = .ok (.iastore, 1) := by decide +kernel
theorem dX3_claim_59 : decode cX3_claim 59 = .ok (.aload_n 0, 1) := by decide +kernel
theorem dX3_claim_60 : decode cX3_claim 60 = .ok (.getfield 27, 3) := by decide +kernel
theorem dX3_claim_63 : decode cX3_claim 63 = .ok (.iload 4, 2) := by decide +kernel
theorem dX3_claim_65 : decode cX3_claim 65 = .ok (.iload_n 1, 1) := by decide +kernel
theorem dX3_claim_66 : decode cX3_claim 66 = .ok (.iastore, 1) := by decide +kernel
theorem dX3_claim_67 : decode cX3_claim 67 = .ok (.iinc 3 1, 3) := by decide +kernel
theorem dX3_claim_70 : decode cX3_claim 70 = .ok (.goto (-68), 3) := by decide +kernel
theorem dX3_claim_73 : decode cX3_claim 73 = .ok (.return_, 1) := by decide +kernel
theorem dX3_release_0 : decode cX3_release 0 = .ok (.iconst 0, 1) := by decide +kernel
theorem dX3_release_1 : decode cX3_release 1 = .ok (.istore_n 3, 1) := by decide +kernel
theorem dX3_release_2 : decode cX3_release 2 = .ok (.iload_n 3, 1) := by decide +kernel
theorem dX3_release_3 : decode cX3_release 3 = .ok (.aload_n 0, 1) := by decide +kernel
theorem dX3_release_4 : decode cX3_release 4 = .ok (.getfield 19, 3) := by decide +kernel
theorem dX3_release_7 : decode cX3_release 7 = .ok (.iload_n 1, 1) := by decide +kernel
theorem dX3_release_8 : decode cX3_release 8 = .ok (.aaload, 1) := by decide +kernel
theorem dX3_release_9 : decode cX3_release 9 = .ok (.getfield 69, 3) := by decide +kernel
theorem dX3_release_12 : decode cX3_release 12 = .ok (.if_icmp .ge 51, 3) := by decide +kernel
theorem dX3_release_15 : decode cX3_release 15 = .ok (.aload_n 0, 1) := by decide +kernel
theorem dX3_release_16 : decode cX3_release 16 = .ok (.getfield 11, 3) := by decide +kernel
theorem dX3_release_19 : decode cX3_release 19 = .ok (.iload_n 1, 1) := by decide +kernel
theorem dX3_release_20 : decode cX3_release 20 = .ok (.aaload, 1) := by decide +kernel
theorem dX3_release_21 : decode cX3_release 21 = .ok (.getfield 126, 3) := by decide +kernel
theorem dX3_release_24 : decode cX3_release 24 = .ok (.iload_n 2, 1) := by decide +kernel
theorem dX3_release_25 : decode cX3_release 25 = .ok (.iload_n 3, 1) := by decide +kernel
theorem dX3_release_26 : decode cX3_release 26 = .ok (.iadd, 1) := by decide +kernel
theorem dX3_release_27 : decode cX3_release 27 = .ok (.iaload, 1) := by decide +kernel
theorem dX3_release_28 : decode cX3_release 28 = .ok (.istore 4, 2) := by decide +kernel
theorem dX3_release_30 : decode cX3_release 30 = .ok (.aload_n 0, 1) := by decide +kernel
theorem dX3_release_31 : decode cX3_release 31 = .ok (.getfield 27, 3) := by decide +kernel
theorem dX3_release_34 : decode cX3_release 34 = .ok (.iload 4, 2) := by decide +kernel
theorem dX3_release_36 : decode cX3_release 36 = .ok (.iaload, 1) := by decide +kernel
theorem dX3_release_37 : decode cX3_release 37 = .ok (.iload_n 1, 1) := by decide +kernel
theorem dX3_release_38 : decode cX3_release 38 = .ok (.if_icmp .ne 19, 3) := by decide +kernel
theorem dX3_release_41 : decode cX3_release 41 = .ok (.aload_n 0, 1) := by decide +kernel
theorem dX3_release_42 : decode cX3_release 42 = .ok (.getfield 23, 3) := by decide +kernel
theorem dX3_release_45 : decode cX3_release 45 = .ok (.iload 4, 2) := by decide +kernel
theorem dX3_release_47 : decode cX3_release 47 = .ok (.iconst (-1), 1) := by decide +kernel
theorem dX3_release_48 : decode cX3_release 48 = .ok (.iastore, 1) := by decide +kernel
theorem dX3_release_49 : decode cX3_release 49 = .ok (.aload_n 0, 1) := by decide +kernel
theorem dX3_release_50 : decode cX3_release 50 = .ok (.getfield 27, 3) := by decide +kernel
theorem dX3_release_53 : decode cX3_release 53 = .ok (.iload 4, 2) := by decide +kernel
theorem dX3_release_55 : decode cX3_release 55 = .ok (.iconst (-1), 1) := by decide +kernel
theorem dX3_release_56 : decode cX3_release 56 = .ok (.iastore, 1) := by decide +kernel
theorem dX3_release_57 : decode cX3_release 57 = .ok (.iinc 3 1, 3) := by decide +kernel
theorem dX3_release_60 : decode cX3_release 60 = .ok (.goto (-58), 3) := by decide +kernel
theorem dX3_release_63 : decode cX3_release 63 = .ok (.return_, 1) := by decide +kernel
theorem dX4_init_0 : decode cX4_init 0 = .ok (.aload_n 0, 1) := by decide +kernel
theorem dX4_init_1 : decode cX4_init 1 = .ok (.invokespecial 3, 3) := by decide +kernel
theorem dX4_init_4 : decode cX4_init 4 = .ok (.aload_n 0, 1) := by decide +kernel
theorem dX4_init_5 : decode cX4_init 5 = .ok (.bipush 36, 2) := by decide +kernel
theorem dX4_init_7 : decode cX4_init 7 = .ok (.newarray .int, 2) := by decide +kernel
theorem dX4_init_9 : decode cX4_init 9 = .ok (.putfield 9, 3) := by decide +kernel
theorem dX4_init_12 : decode cX4_init 12 = .ok (.aload_n 0, 1) := by decide +kernel
theorem dX4_init_13 : decode cX4_init 13 = .ok (.bipush 6, 2) := by decide +kernel
theorem dX4_init_15 : decode cX4_init 15 = .ok (.newarray .int, 2) := by decide +kernel
theorem dX4_init_17 : decode cX4_init 17 = .ok (.putfield 15, 3) := by decide +kernel
theorem dX4_init_20 : decode cX4_init 20 = .ok (.aload_n 0, 1) := by decide +kernel
theorem dX4_init_21 : decode cX4_init 21 = .ok (.sipush 384, 3) := by decide +kernel
theorem dX4_init_24 : decode cX4_init 24 = .ok (.newarray .int, 2) := by decide +kernel
theorem dX4_init_26 : decode cX4_init 26 = .ok (.putfield 18, 3) := by decide +kernel
theorem dX4_init_29 : decode cX4_init 29 = .ok (.return_, 1) := by decide +kernel
theorem dX4_packWords_0 : decode cX4_packWords 0 = .ok (.iconst 0, 1) := by decide +kernel
theorem dX4_packWords_1 : decode cX4_packWords 1 = .ok (.istore_n 2, 1) := by decide +kernel
theorem dX4_packWords_2 : decode cX4_packWords 2 = .ok (.iconst 0, 1) := by decide +kernel
theorem dX4_packWords_3 : decode cX4_packWords 3 = .ok (.istore_n 3, 1) := by decide +kernel
theorem dX4_packWords_4 : decode cX4_packWords 4 = .ok (.iload_n 3, 1) := by decide +kernel
theorem dX4_packWords_5 : decode cX4_packWords 5 = .ok (.aload_n 1, 1) := by decide +kernel
theorem dX4_packWords_6 : decode cX4_packWords 6 = .ok (.getfield 21, 3) := by decide +kernel
theorem dX4_packWords_9 : decode cX4_packWords 9 = .ok (.if_icmp .ge 27, 3) := by decide +kernel
theorem dX4_packWords_12 : decode cX4_packWords 12 = .ok (.aload_n 1, 1) := by decide +kernel
theorem dX4_packWords_13 : decode cX4_packWords 13 = .ok (.getfield 27, 3) := by decide +kernel
theorem dX4_packWords_16 : decode cX4_packWords 16 = .ok (.iload_n 3, 1) := by decide +kernel
theorem dX4_packWords_17 : decode cX4_packWords 17 = .ok (.aaload, 1) := by decide +kernel
theorem dX4_packWords_18 : decode cX4_packWords 18 = .ok (.invokevirtual 31, 3) := by decide +kernel
theorem dX4_packWords_21 : decode cX4_packWords 21 = .ok (.ifCond .ne 9, 3) := by decide +kernel
theorem dX4_packWords_24 : decode cX4_packWords 24 = .ok (.iload_n 2, 1) := by decide +kernel
theorem dX4_packWords_25 : decode cX4_packWords 25 = .ok (.iconst 1, 1) := by decide +kernel
theorem dX4_packWords_26 : decode cX4_packWords 26 = .ok (.iload_n 3, 1) := by decide +kernel
theorem dX4_packWords_27 : decode cX4_packWords 27 = .ok (.ishl, 1) := by decide +kernel
theorem dX4_packWords_28 : decode cX4_packWords 28 = .ok (.ior, 1) := by decide +kernel
theorem dX4_packWords_29 : decode cX4_packWords 29 = .ok (.istore_n 2, 1) := by decide +kernel
theorem dX4_packWords_30 : decode cX4_packWords 30 = .ok (.iinc 3 1, 3) := by decide +kernel
theorem dX4_packWords_33 : decode cX4_packWords 33 = .ok (.goto (-29), 3) := by decide +kernel
theorem dX4_packWords_36 : decode cX4_packWords 36 = .ok (.aload_n 0, 1) := by decide +kernel
theorem dX4_packWords_37 : decode cX4_packWords 37 = .ok (.aload_n 1, 1) := by decide +kernel
theorem dX4_packWords_38 : decode cX4_packWords 38 = .ok (.invokevirtual 37, 3) := by decide +kernel
theorem dX4_packWords_41 : decode cX4_packWords 41 = .ok (.aload_n 0, 1) := by decide +kernel
theorem dX4_packWords_42 : decode cX4_packWords 42 = .ok (.iconst 0, 1) := by decide +kernel
theorem dX4_packWords_43 : decode cX4_packWords 43 = .ok (.putfield 41, 3) := by decide +kernel
theorem dX4_packWords_46 : decode cX4_packWords 46 = .ok (.aload_n 0, 1) := by decide +kernel
theorem dX4_packWords_47 : decode cX4_packWords 47 = .ok (.iconst 0, 1) := by decide +kernel
theorem dX4_packWords_48 : decode cX4_packWords 48 = .ok (.putfield 44, 3) := by decide +kernel
theorem dX4_packWords_51 : decode cX4_packWords 51 = .ok (.iconst 1, 1) := by decide +kernel
theorem dX4_packWords_52 : decode cX4_packWords 52 = .ok (.istore_n 3, 1) := by decide +kernel
theorem dX4_packWords_53 : decode cX4_packWords 53 = .ok (.iload_n 3, 1) := by decide +kernel
theorem dX4_packWords_54 : decode cX4_packWords 54 = .ok (.iconst 1, 1) := by decide +kernel
theorem dX4_packWords_55 : decode cX4_packWords 55 = .ok (.aload_n 1, 1) := by decide +kernel
theorem dX4_packWords_56 : decode cX4_packWords 56 = .ok (.getfield 21, 3) := by decide +kernel
theorem dX4_packWords_59 : decode cX4_packWords 59 = .ok (.ishl, 1) := by decide +kernel
theorem dX4_packWords_60 : decode cX4_packWords 60 = .ok (.if_icmp .ge 48, 3) := by decide +kernel
theorem dX4_packWords_63 : decode cX4_packWords 63 = .ok (.iload_n 3, 1) := by decide +kernel
theorem dX4_packWords_64 : decode cX4_packWords 64 = .ok (.iload_n 2, 1) := by decide +kernel
theorem dX4_packWords_65 : decode cX4_packWords 65 = .ok (.iconst (-1), 1) := by decide +kernel
theorem dX4_packWords_66 : decode cX4_packWords 66 = .ok (.ixor, 1) := by decide +kernel
theorem dX4_packWords_67 : decode cX4_packWords 67 = .ok (.iand, 1) := by decide +kernel
theorem dX4_packWords_68 : decode cX4_packWords 68 = .ok (.ifCond .ne 34, 3) := by decide +kernel
theorem dX4_packWords_71 : decode cX4_packWords 71 = .ok (.aload_n 0, 1) := by decide +kernel
theorem dX4_packWords_72 : decode cX4_packWords 72 = .ok (.aload_n 1, 1) := by decide +kernel
theorem dX4_packWords_73 : decode cX4_packWords 73 = .ok (.iload_n 3, 1) := by decide +kernel
theorem dX4_packWords_74 : decode cX4_packWords 74 = .ok (.invokevirtual 47, 3) := by decide +kernel
theorem dX4_packWords_77 : decode cX4_packWords 77 = .ok (.aload_n 0, 1) := by decide +kernel
theorem dX4_packWords_78 : decode cX4_packWords 78 = .ok (.iload_n 3, 1) := by decide +kernel
theorem dX4_packWords_79 : decode cX4_packWords 79 = .ok (.aload_n 0, 1) := by decide +kernel
theorem dX4_packWords_80 : decode cX4_packWords 80 = .ok (.aload_n 1, 1) := by decide +kernel
theorem dX4_packWords_81 : decode cX4_packWords 81 = .ok (.aload_n 0, 1) := by decide +kernel
theorem dX4_packWords_82 : decode cX4_packWords 82 = .ok (.aload_n 1, 1) := by decide +kernel
theorem dX4_packWords_83 : decode cX4_packWords 83 = .ok (.iload_n 3, 1) := by decide +kernel
theorem dX4_packWords_84 : decode cX4_packWords 84 = .ok (.invokevirtual 51, 3) := by decide +kernel
theorem dX4_packWords_87 : decode cX4_packWords 87 = .ok (.invokevirtual 55, 3) := by decide +kernel
theorem dX4_packWords_90 : decode cX4_packWords 90 = .ok (.aload_n 1, 1) := by decide +kernel
theorem dX4_packWords_91 : decode cX4_packWords 91 = .ok (.getfield 58, 3) := by decide +kernel
theorem dX4_packWords_94 : decode cX4_packWords 94 = .ok (.aload_n 1, 1) := by decide +kernel
theorem dX4_packWords_95 : decode cX4_packWords 95 = .ok (.getfield 61, 3) := by decide +kernel
theorem dX4_packWords_98 : decode cX4_packWords 98 = .ok (.imul, 1) := by decide +kernel
theorem dX4_packWords_99 : decode cX4_packWords 99 = .ok (.invokevirtual 64, 3) := by decide +kernel
theorem dX4_packWords_102 : decode cX4_packWords 102 = .ok (.iinc 3 1, 3) := by decide +kernel
theorem dX4_packWords_105 : decode cX4_packWords 105 = .ok (.goto (-52), 3) := by decide +kernel
theorem dX4_packWords_108 : decode cX4_packWords 108 = .ok (.return_, 1) := by decide +kernel
theorem dX4_compareWords_0 : decode cX4_compareWords 0 = .ok (.iconst 0, 1) := by decide +kernel
theorem dX4_compareWords_1 : decode cX4_compareWords 1 = .ok (.istore_n 2, 1) := by decide +kernel
theorem dX4_compareWords_2 : decode cX4_compareWords 2 = .ok (.iload_n 2, 1) := by decide +kernel
theorem dX4_compareWords_3 : decode cX4_compareWords 3 = .ok (.aload_n 1, 1) := by decide +kernel
theorem dX4_compareWords_4 : decode cX4_compareWords 4 = .ok (.getfield 21, 3) := by decide +kernel
theorem dX4_compareWords_7 : decode cX4_compareWords 7 = .ok (.if_icmp .ge 93, 3) := by decide +kernel
theorem dX4_compareWords_10 : decode cX4_compareWords 10 = .ok (.aload_n 0, 1) := by decide +kernel
theorem dX4_compareWords_11 : decode cX4_compareWords 11 = .ok (.getfield 15, 3) := by decide +kernel
theorem dX4_compareWords_14 : decode cX4_compareWords 14 = .ok (.iload_n 2, 1) := by decide +kernel
theorem dX4_compareWords_15 : decode cX4_compareWords 15 = .ok (.iconst 0, 1) := by decide +kernel
theorem dX4_compareWords_16 : decode cX4_compareWords 16 = .ok (.iastore, 1) := by decide +kernel
theorem dX4_compareWords_17 : decode cX4_compareWords 17 = .ok (.iconst 0, 1) := by decide +kernel
theorem dX4_compareWords_18 : decode cX4_compareWords 18 = .ok (.istore_n 3, 1) := by decide +kernel
theorem dX4_compareWords_19 : decode cX4_compareWords 19 = .ok (.iload_n 3, 1) := by decide +kernel
theorem dX4_compareWords_20 : decode cX4_compareWords 20 = .ok (.aload_n 1, 1) := by decide +kernel
theorem dX4_compareWords_21 : decode cX4_compareWords 21 = .ok (.getfield 21, 3) := by decide +kernel
theorem dX4_compareWords_24 : decode cX4_compareWords 24 = .ok (.if_icmp .ge 70, 3) := by decide +kernel
theorem dX4_compareWords_27 : decode cX4_compareWords 27 = .ok (.aload_n 0, 1) := by decide +kernel
theorem dX4_compareWords_28 : decode cX4_compareWords 28 = .ok (.getfield 9, 3) := by decide +kernel
theorem dX4_compareWords_31 : decode cX4_compareWords 31 = .ok (.iload_n 2, 1) := by decide +kernel
theorem dX4_compareWords_32 : decode cX4_compareWords 32 = .ok (.bipush 6, 2) := by decide +kernel
theorem dX4_compareWords_34 : decode cX4_compareWords 34 = .ok (.imul, 1) := by decide +kernel
theorem dX4_compareWords_35 : decode cX4_compareWords 35 = .ok (.iload_n 3, 1) := by decide +kernel
theorem dX4_compareWords_36 : decode cX4_compareWords 36 = .ok (.iadd, 1) := by decide +kernel
theorem dX4_compareWords_37 : decode cX4_compareWords 37 = .ok (.aload_n 1, 1) := by decide +kernel
theorem dX4_compareWords_38 : decode cX4_compareWords 38 = .ok (.getfield 27, 3) := by decide +kernel
theorem dX4_compareWords_41 : decode cX4_compareWords 41 = .ok (.iload_n 2, 1) := by decide +kernel
theorem dX4_compareWords_42 : decode cX4_compareWords 42 = .ok (.aaload, 1) := by decide +kernel
theorem dX4_compareWords_43 : decode cX4_compareWords 43 = .ok (.aload_n 1, 1) := by decide +kernel
theorem dX4_compareWords_44 : decode cX4_compareWords 44 = .ok (.getfield 27, 3) := by decide +kernel
theorem dX4_compareWords_47 : decode cX4_compareWords 47 = .ok (.iload_n 3, 1) := by decide +kernel
theorem dX4_compareWords_48 : decode cX4_compareWords 48 = .ok (.aaload, 1) := by decide +kernel
theorem dX4_compareWords_49 : decode cX4_compareWords 49 = .ok (.invokestatic 68, 3) := by decide +kernel
theorem dX4_compareWords_52 : decode cX4_compareWords 52 = .ok (.iastore, 1) := by decide +kernel
theorem dX4_compareWords_53 : decode cX4_compareWords 53 = .ok (.iload_n 2, 1) := by decide +kernel
theorem dX4_compareWords_54 : decode cX4_compareWords 54 = .ok (.iload_n 3, 1) := by decide +kernel
theorem dX4_compareWords_55 : decode cX4_compareWords 55 = .ok (.if_icmp .eq 33, 3) := by decide +kernel
theorem dX4_compareWords_58 : decode cX4_compareWords 58 = .ok (.aload_n 1, 1) := by decide +kernel
theorem dX4_compareWords_59 : decode cX4_compareWords 59 = .ok (.getfield 27, 3) := by decide +kernel
theorem dX4_compareWords_62 : decode cX4_compareWords 62 = .ok (.iload_n 2, 1) := by decide +kernel
theorem dX4_compareWords_63 : decode cX4_compareWords 63 = .ok (.aaload, 1) := by decide +kernel
theorem dX4_compareWords_64 : decode cX4_compareWords 64 = .ok (.aload_n 1, 1) := by decide +kernel
theorem dX4_compareWords_65 : decode cX4_compareWords 65 = .ok (.getfield 27, 3) := by decide +kernel
theorem dX4_compareWords_68 : decode cX4_compareWords 68 = .ok (.iload_n 3, 1) := by decide +kernel
theorem dX4_compareWords_69 : decode cX4_compareWords 69 = .ok (.aaload, 1) := by decide +kernel
theorem dX4_compareWords_70 : decode cX4_compareWords 70 = .ok (.invokevirtual 72, 3) := by decide +kernel
theorem dX4_compareWords_73 : decode cX4_compareWords 73 = .ok (.ifCond .eq 15, 3) := by decide +kernel
theorem dX4_compareWords_76 : decode cX4_compareWords 76 = .ok (.aload_n 0, 1) := by decide +kernel
theorem dX4_compareWords_77 : decode cX4_compareWords 77 = .ok (.getfield 15, 3) := by decide +kernel
theorem dX4_compareWords_80 : decode cX4_compareWords 80 = .ok (.iload_n 2, 1) := by decide +kernel
theorem dX4_compareWords_81 : decode cX4_compareWords 81 = .ok (.dup2, 1) := by decide +kernel
theorem dX4_compareWords_82 : decode cX4_compareWords 82 = .ok (.iaload, 1) := by decide +kernel
theorem dX4_compareWords_83 : decode cX4_compareWords 83 = .ok (.iconst 1, 1) := by decide +kernel
theorem dX4_compareWords_84 : decode cX4_compareWords 84 = .ok (.iload_n 3, 1) := by decide +kernel
theorem dX4_compareWords_85 : decode cX4_compareWords 85 = .ok (.ishl, 1) := by decide +kernel
theorem dX4_compareWords_86 : decode cX4_compareWords 86 = .ok (.ior, 1) := by decide +kernel
theorem dX4_compareWords_87 : decode cX4_compareWords 87 = .ok (.iastore, 1) := by decide +kernel
theorem dX4_compareWords_88 : decode cX4_compareWords 88 = .ok (.iinc 3 1, 3) := by decide +kernel
theorem dX4_compareWords_91 : decode cX4_compareWords 91 = .ok (.goto (-72), 3) := by decide +kernel
theorem dX4_compareWords_94 : decode cX4_compareWords 94 = .ok (.iinc 2 1, 3) := by decide +kernel
theorem dX4_compareWords_97 : decode cX4_compareWords 97 = .ok (.goto (-95), 3) := by decide +kernel
theorem dX4_compareWords_100 : decode cX4_compareWords 100 = .ok (.return_, 1) := by decide +kernel
theorem dX4_overlapOf_0 : decode cX4_overlapOf 0 = .ok (.aload_n 0, 1) := by decide +kernel
theorem dX4_overlapOf_1 : decode cX4_overlapOf 1 = .ok (.getfield 76, 3) := by decide +kernel
theorem dX4_overlapOf_4 : decode cX4_overlapOf 4 = .ok (.aload_n 1, 1) := by decide +kernel
theorem dX4_overlapOf_5 : decode cX4_overlapOf 5 = .ok (.getfield 76, 3) := by decide +kernel
theorem dX4_overlapOf_8 : decode cX4_overlapOf 8 = .ok (.invokestatic 79, 3) := by decide +kernel
theorem dX4_overlapOf_11 : decode cX4_overlapOf 11 = .ok (.iconst 1, 1) := by decide +kernel
theorem dX4_overlapOf_12 : decode cX4_overlapOf 12 = .ok (.isub, 1) := by decide +kernel
theorem dX4_overlapOf_13 : decode cX4_overlapOf 13 = .ok (.istore_n 2, 1) := by decide +kernel
theorem dX4_overlapOf_14 : decode cX4_overlapOf 14 = .ok (.iload_n 2, 1) := by decide +kernel
theorem dX4_overlapOf_15 : decode cX4_overlapOf 15 = .ok (.ifCond .le 20, 3) := by decide +kernel
theorem dX4_overlapOf_18 : decode cX4_overlapOf 18 = .ok (.aload_n 0, 1) := by decide +kernel
theorem dX4_overlapOf_19 : decode cX4_overlapOf 19 = .ok (.aload_n 1, 1) := by decide +kernel
theorem dX4_overlapOf_20 : decode cX4_overlapOf 20 = .ok (.iload_n 2, 1) := by decide +kernel
theorem dX4_overlapOf_21 : decode cX4_overlapOf 21 = .ok (.invokevirtual 85, 3) := by decide +kernel
theorem dX4_overlapOf_24 : decode cX4_overlapOf 24 = .ok (.ifCond .eq 5, 3) := by decide +kernel
theorem dX4_overlapOf_27 : decode cX4_overlapOf 27 = .ok (.iload_n 2, 1) := by decide +kernel
theorem dX4_overlapOf_28 : decode cX4_overlapOf 28 = .ok (.ireturn, 1) := by decide +kernel
theorem dX4_overlapOf_29 : decode cX4_overlapOf 29 = .ok (.iinc 2 (-1), 3) := by decide +kernel
theorem dX4_overlapOf_32 : decode cX4_overlapOf 32 = .ok (.goto (-18), 3) := by decide +kernel
theorem dX4_overlapOf_35 : decode cX4_overlapOf 35 = .ok (.iconst 0, 1) := by decide +kernel
theorem dX4_overlapOf_36 : decode cX4_overlapOf 36 = .ok (.ireturn, 1) := by decide +kernel
theorem dX4_withoutHeld_0 : decode cX4_withoutHeld 0 = .ok (.iload_n 2, 1) := by decide +kernel
theorem dX4_withoutHeld_1 : decode cX4_withoutHeld 1 = .ok (.istore_n 3, 1) := by decide +kernel
theorem dX4_withoutHeld_2 : decode cX4_withoutHeld 2 = .ok (.iconst 0, 1) := by decide +kernel
theorem dX4_withoutHeld_3 : decode cX4_withoutHeld 3 = .ok (.istore 4, 2) := by decide +kernel
theorem dX4_withoutHeld_5 : decode cX4_withoutHeld 5 = .ok (.iload 4, 2) := by decide +kernel
theorem dX4_withoutHeld_7 : decode cX4_withoutHeld 7 = .ok (.aload_n 1, 1) := by decide +kernel
theorem dX4_withoutHeld_8 : decode cX4_withoutHeld 8 = .ok (.getfield 21, 3) := by decide +kernel
theorem dX4_withoutHeld_11 : decode cX4_withoutHeld 11 = .ok (.if_icmp .ge 30, 3) := by decide +kernel
theorem dX4_withoutHeld_14 : decode cX4_withoutHeld 14 = .ok (.aload_n 0, 1) := by decide +kernel
theorem dX4_withoutHeld_15 : decode cX4_withoutHeld 15 = .ok (.getfield 15, 3) := by decide +kernel
theorem dX4_withoutHeld_18 : decode cX4_withoutHeld 18 = .ok (.iload 4, 2) := by decide +kernel
theorem dX4_withoutHeld_20 : decode cX4_withoutHeld 20 = .ok (.iaload, 1) := by decide +kernel
theorem dX4_withoutHeld_21 : decode cX4_withoutHeld 21 = .ok (.iload_n 2, 1) := by decide +kernel
theorem dX4_withoutHeld_22 : decode cX4_withoutHeld 22 = .ok (.iand, 1) := by decide +kernel
theorem dX4_withoutHeld_23 : decode cX4_withoutHeld 23 = .ok (.ifCond .eq 12, 3) := by decide +kernel
theorem dX4_withoutHeld_26 : decode cX4_withoutHeld 26 = .ok (.iload_n 3, 1) := by decide +kernel
theorem dX4_withoutHeld_27 : decode cX4_withoutHeld 27 = .ok (.iconst 1, 1) := by decide +kernel
theorem dX4_withoutHeld_28 : decode cX4_withoutHeld 28 = .ok (.iload 4, 2) := by decide +kernel
theorem dX4_withoutHeld_30 : decode cX4_withoutHeld 30 = .ok (.ishl, 1) := by decide +kernel
theorem dX4_withoutHeld_31 : decode cX4_withoutHeld 31 = .ok (.iconst (-1), 1) := by decide +kernel
theorem dX4_withoutHeld_32 : decode cX4_withoutHeld 32 = .ok (.ixor, 1) := by decide +kernel
theorem dX4_withoutHeld_33 : decode cX4_withoutHeld 33 = .ok (.iand, 1) := by decide +kernel
theorem dX4_withoutHeld_34 : decode cX4_withoutHeld 34 = .ok (.istore_n 3, 1) := by decide +kernel
theorem dX4_withoutHeld_35 : decode cX4_withoutHeld 35 = .ok (.iinc 4 1, 3) := by decide +kernel
theorem dX4_withoutHeld_38 : decode cX4_withoutHeld 38 = .ok (.goto (-33), 3) := by decide +kernel
theorem dX4_withoutHeld_41 : decode cX4_withoutHeld 41 = .ok (.iload_n 3, 1) := by decide +kernel
theorem dX4_withoutHeld_42 : decode cX4_withoutHeld 42 = .ok (.ireturn, 1) := by decide +kernel
theorem dX4_findShortest_0 : decode cX4_findShortest 0 = .ok (.iconst 0, 1) := by decide +kernel
theorem dX4_findShortest_1 : decode cX4_findShortest 1 = .ok (.istore_n 3, 1) := by decide +kernel
theorem dX4_findShortest_2 : decode cX4_findShortest 2 = .ok (.iload_n 3, 1) := by decide +kernel
theorem dX4_findShortest_3 : decode cX4_findShortest 3 = .ok (.aload_n 1, 1) := by decide +kernel
theorem dX4_findShortest_4 : decode cX4_findShortest 4 = .ok (.getfield 21, 3) := by decide +kernel
theorem dX4_findShortest_7 : decode cX4_findShortest 7 = .ok (.if_icmp .ge 94, 3) := by decide +kernel
theorem dX4_findShortest_10 : decode cX4_findShortest 10 = .ok (.iload_n 2, 1) := by decide +kernel
theorem dX4_findShortest_11 : decode cX4_findShortest 11 = .ok (.bipush 6, 2) := by decide +kernel
theorem dX4_findShortest_13 : decode cX4_findShortest 13 = .ok (.imul, 1) := by decide +kernel
theorem dX4_findShortest_14 : decode cX4_findShortest 14 = .ok (.iload_n 3, 1) := by decide +kernel
theorem dX4_findShortest_15 : decode cX4_findShortest 15 = .ok (.iadd, 1) := by decide +kernel
theorem dX4_findShortest_16 : decode cX4_findShortest 16 = .ok (.istore 4, 2) := by decide +kernel
theorem dX4_findShortest_18 : decode cX4_findShortest 18 = .ok (.iload_n 2, 1) := by decide +kernel
theorem dX4_findShortest_19 : decode cX4_findShortest 19 = .ok (.iconst 1, 1) := by decide +kernel
theorem dX4_findShortest_20 : decode cX4_findShortest 20 = .ok (.iload_n 3, 1) := by decide +kernel
theorem dX4_findShortest_21 : decode cX4_findShortest 21 = .ok (.ishl, 1) := by decide +kernel
theorem dX4_findShortest_22 : decode cX4_findShortest 22 = .ok (.iconst (-1), 1) := by decide +kernel
theorem dX4_findShortest_23 : decode cX4_findShortest 23 = .ok (.ixor, 1) := by decide +kernel
theorem dX4_findShortest_24 : decode cX4_findShortest 24 = .ok (.iand, 1) := by decide +kernel
theorem dX4_findShortest_25 : decode cX4_findShortest 25 = .ok (.istore 5, 2) := by decide +kernel
theorem dX4_findShortest_27 : decode cX4_findShortest 27 = .ok (.iload 5, 2) := by decide +kernel
theorem dX4_findShortest_29 : decode cX4_findShortest 29 = .ok (.iload_n 2, 1) := by decide +kernel
theorem dX4_findShortest_30 : decode cX4_findShortest 30 = .ok (.if_icmp .ne 16, 3) := by decide +kernel
theorem dX4_findShortest_33 : decode cX4_findShortest 33 = .ok (.aload_n 0, 1) := by decide +kernel
theorem dX4_findShortest_34 : decode cX4_findShortest 34 = .ok (.getfield 18, 3) := by decide +kernel
theorem dX4_findShortest_37 : decode cX4_findShortest 37 = .ok (.iload 4, 2) := by decide +kernel
theorem dX4_findShortest_39 : decode cX4_findShortest 39 = .ok (.sipush 1000, 3) := by decide +kernel
theorem dX4_findShortest_42 : decode cX4_findShortest 42 = .ok (.iastore, 1) := by decide +kernel
theorem dX4_findShortest_43 : decode cX4_findShortest 43 = .ok (.goto 52, 3) := by decide +kernel
theorem dX4_findShortest_46 : decode cX4_findShortest 46 = .ok (.iload 5, 2) := by decide +kernel
theorem dX4_findShortest_48 : decode cX4_findShortest 48 = .ok (.ifCond .ne 22, 3) := by decide +kernel
theorem dX4_findShortest_51 : decode cX4_findShortest 51 = .ok (.aload_n 0, 1) := by decide +kernel
theorem dX4_findShortest_52 : decode cX4_findShortest 52 = .ok (.getfield 18, 3) := by decide +kernel
theorem dX4_findShortest_55 : decode cX4_findShortest 55 = .ok (.iload 4, 2) := by decide +kernel
theorem dX4_findShortest_57 : decode cX4_findShortest 57 = .ok (.aload_n 1, 1) := by decide +kernel
theorem dX4_findShortest_58 : decode cX4_findShortest 58 = .ok (.getfield 27, 3) := by decide +kernel
theorem dX4_findShortest_61 : decode cX4_findShortest 61 = .ok (.iload_n 3, 1) := by decide +kernel
theorem dX4_findShortest_62 : decode cX4_findShortest 62 = .ok (.aaload, 1) := by decide +kernel
theorem dX4_findShortest_63 : decode cX4_findShortest 63 = .ok (.getfield 76, 3) := by decide +kernel
theorem dX4_findShortest_66 : decode cX4_findShortest 66 = .ok (.iastore, 1) := by decide +kernel
theorem dX4_findShortest_67 : decode cX4_findShortest 67 = .ok (.goto 28, 3) := by decide +kernel
theorem dX4_findShortest_70 : decode cX4_findShortest 70 = .ok (.aload_n 0, 1) := by decide +kernel
theorem dX4_findShortest_71 : decode cX4_findShortest 71 = .ok (.getfield 18, 3) := by decide +kernel
theorem dX4_findShortest_74 : decode cX4_findShortest 74 = .ok (.iload 4, 2) := by decide +kernel
theorem dX4_findShortest_76 : decode cX4_findShortest 76 = .ok (.aload_n 1, 1) := by decide +kernel
theorem dX4_findShortest_77 : decode cX4_findShortest 77 = .ok (.getfield 27, 3) := by decide +kernel
theorem dX4_findShortest_80 : decode cX4_findShortest 80 = .ok (.iload_n 3, 1) := by decide +kernel
theorem dX4_findShortest_81 : decode cX4_findShortest 81 = .ok (.aaload, 1) := by decide +kernel
theorem dX4_findShortest_82 : decode cX4_findShortest 82 = .ok (.getfield 76, 3) := by decide +kernel
theorem dX4_findShortest_85 : decode cX4_findShortest 85 = .ok (.aload_n 0, 1) := by decide +kernel
theorem dX4_findShortest_86 : decode cX4_findShortest 86 = .ok (.aload_n 1, 1) := by decide +kernel
theorem dX4_findShortest_87 : decode cX4_findShortest 87 = .ok (.iload 5, 2) := by decide +kernel
theorem dX4_findShortest_89 : decode cX4_findShortest 89 = .ok (.iload_n 3, 1) := by decide +kernel
theorem dX4_findShortest_90 : decode cX4_findShortest 90 = .ok (.invokevirtual 89, 3) := by decide +kernel
theorem dX4_findShortest_93 : decode cX4_findShortest 93 = .ok (.iadd, 1) := by decide +kernel
theorem dX4_findShortest_94 : decode cX4_findShortest 94 = .ok (.iastore, 1) := by decide +kernel
theorem dX4_findShortest_95 : decode cX4_findShortest 95 = .ok (.iinc 3 1, 3) := by decide +kernel
theorem dX4_findShortest_98 : decode cX4_findShortest 98 = .ok (.goto (-96), 3) := by decide +kernel
theorem dX4_findShortest_101 : decode cX4_findShortest 101 = .ok (.return_, 1) := by decide +kernel
theorem dX4_shortestAhead_0 : decode cX4_shortestAhead 0 = .ok (.sipush 1000, 3) := by decide +kernel
theorem dX4_shortestAhead_3 : decode cX4_shortestAhead 3 = .ok (.istore 4, 2) := by decide +kernel
theorem dX4_shortestAhead_5 : decode cX4_shortestAhead 5 = .ok (.iconst 0, 1) := by decide +kernel
theorem dX4_shortestAhead_6 : decode cX4_shortestAhead 6 = .ok (.istore 5, 2) := by decide +kernel
theorem dX4_shortestAhead_8 : decode cX4_shortestAhead 8 = .ok (.iload 5, 2) := by decide +kernel
theorem dX4_shortestAhead_10 : decode cX4_shortestAhead 10 = .ok (.aload_n 1, 1) := by decide +kernel
theorem dX4_shortestAhead_11 : decode cX4_shortestAhead 11 = .ok (.getfield 21, 3) := by decide +kernel
theorem dX4_shortestAhead_14 : decode cX4_shortestAhead 14 = .ok (.if_icmp .ge 50, 3) := by decide +kernel
theorem dX4_shortestAhead_17 : decode cX4_shortestAhead 17 = .ok (.iload_n 2, 1) := by decide +kernel
theorem dX4_shortestAhead_18 : decode cX4_shortestAhead 18 = .ok (.iload 5, 2) := by decide +kernel
theorem dX4_shortestAhead_20 : decode cX4_shortestAhead 20 = .ok (.ishr, 1) := by decide +kernel
theorem dX4_shortestAhead_21 : decode cX4_shortestAhead 21 = .ok (.iconst 1, 1) := by decide +kernel
theorem dX4_shortestAhead_22 : decode cX4_shortestAhead 22 = .ok (.iand, 1) := by decide +kernel
theorem dX4_shortestAhead_23 : decode cX4_shortestAhead 23 = .ok (.ifCond .eq 35, 3) := by decide +kernel
theorem dX4_shortestAhead_26 : decode cX4_shortestAhead 26 = .ok (.iload 4, 2) := by decide +kernel
theorem dX4_shortestAhead_28 : decode cX4_shortestAhead 28 = .ok (.aload_n 0, 1) := by decide +kernel
theorem dX4_shortestAhead_29 : decode cX4_shortestAhead 29 = .ok (.getfield 18, 3) := by decide +kernel
theorem dX4_shortestAhead_32 : decode cX4_shortestAhead 32 = .ok (.iload_n 2, 1) := by decide +kernel
theorem dX4_shortestAhead_33 : decode cX4_shortestAhead 33 = .ok (.bipush 6, 2) := by decide +kernel
theorem dX4_shortestAhead_35 : decode cX4_shortestAhead 35 = .ok (.imul, 1) := by decide +kernel
theorem dX4_shortestAhead_36 : decode cX4_shortestAhead 36 = .ok (.iload 5, 2) := by decide +kernel
theorem dX4_shortestAhead_38 : decode cX4_shortestAhead 38 = .ok (.iadd, 1) := by decide +kernel
theorem dX4_shortestAhead_39 : decode cX4_shortestAhead 39 = .ok (.iaload, 1) := by decide +kernel
theorem dX4_shortestAhead_40 : decode cX4_shortestAhead 40 = .ok (.aload_n 0, 1) := by decide +kernel
theorem dX4_shortestAhead_41 : decode cX4_shortestAhead 41 = .ok (.getfield 9, 3) := by decide +kernel
theorem dX4_shortestAhead_44 : decode cX4_shortestAhead 44 = .ok (.iload 5, 2) := by decide +kernel
theorem dX4_shortestAhead_46 : decode cX4_shortestAhead 46 = .ok (.bipush 6, 2) := by decide +kernel
theorem dX4_shortestAhead_48 : decode cX4_shortestAhead 48 = .ok (.imul, 1) := by decide +kernel
theorem dX4_shortestAhead_49 : decode cX4_shortestAhead 49 = .ok (.iload_n 3, 1) := by decide +kernel
theorem dX4_shortestAhead_50 : decode cX4_shortestAhead 50 = .ok (.iadd, 1) := by decide +kernel
theorem dX4_shortestAhead_51 : decode cX4_shortestAhead 51 = .ok (.iaload, 1) := by decide +kernel
theorem dX4_shortestAhead_52 : decode cX4_shortestAhead 52 = .ok (.isub, 1) := by decide +kernel
theorem dX4_shortestAhead_53 : decode cX4_shortestAhead 53 = .ok (.invokestatic 79, 3) := by decide +kernel
theorem dX4_shortestAhead_56 : decode cX4_shortestAhead 56 = .ok (.istore 4, 2) := by decide +kernel
theorem dX4_shortestAhead_58 : decode cX4_shortestAhead 58 = .ok (.iinc 5 1, 3) := by decide +kernel
theorem dX4_shortestAhead_61 : decode cX4_shortestAhead 61 = .ok (.goto (-53), 3) := by decide +kernel
theorem dX4_shortestAhead_64 : decode cX4_shortestAhead 64 = .ok (.iload 4, 2) := by decide +kernel
theorem dX4_shortestAhead_66 : decode cX4_shortestAhead 66 = .ok (.ireturn, 1) := by decide +kernel
theorem dX4_shortestOf_0 : decode cX4_shortestOf 0 = .ok (.sipush 1000, 3) := by decide +kernel
theorem dX4_shortestOf_3 : decode cX4_shortestOf 3 = .ok (.istore_n 3, 1) := by decide +kernel
theorem dX4_shortestOf_4 : decode cX4_shortestOf 4 = .ok (.iconst 0, 1) := by decide +kernel
theorem dX4_shortestOf_5 : decode cX4_shortestOf 5 = .ok (.istore 4, 2) := by decide +kernel
theorem dX4_shortestOf_7 : decode cX4_shortestOf 7 = .ok (.iload 4, 2) := by decide +kernel
theorem dX4_shortestOf_9 : decode cX4_shortestOf 9 = .ok (.aload_n 1, 1) := by decide +kernel
theorem dX4_shortestOf_10 : decode cX4_shortestOf 10 = .ok (.getfield 21, 3) := by decide +kernel
theorem dX4_shortestOf_13 : decode cX4_shortestOf 13 = .ok (.if_icmp .ge 26, 3) := by decide +kernel
theorem dX4_shortestOf_16 : decode cX4_shortestOf 16 = .ok (.iload_n 3, 1) := by decide +kernel
theorem dX4_shortestOf_17 : decode cX4_shortestOf 17 = .ok (.aload_n 0, 1) := by decide +kernel
theorem dX4_shortestOf_18 : decode cX4_shortestOf 18 = .ok (.getfield 18, 3) := by decide +kernel
theorem dX4_shortestOf_21 : decode cX4_shortestOf 21 = .ok (.iload_n 2, 1) := by decide +kernel
theorem dX4_shortestOf_22 : decode cX4_shortestOf 22 = .ok (.bipush 6, 2) := by decide +kernel
theorem dX4_shortestOf_24 : decode cX4_shortestOf 24 = .ok (.imul, 1) := by decide +kernel
theorem dX4_shortestOf_25 : decode cX4_shortestOf 25 = .ok (.iload 4, 2) := by decide +kernel
theorem dX4_shortestOf_27 : decode cX4_shortestOf 27 = .ok (.iadd, 1) := by decide +kernel
theorem dX4_shortestOf_28 : decode cX4_shortestOf 28 = .ok (.iaload, 1) := by decide +kernel
theorem dX4_shortestOf_29 : decode cX4_shortestOf 29 = .ok (.invokestatic 79, 3) := by decide +kernel
theorem dX4_shortestOf_32 : decode cX4_shortestOf 32 = .ok (.istore_n 3, 1) := by decide +kernel
theorem dX4_shortestOf_33 : decode cX4_shortestOf 33 = .ok (.iinc 4 1, 3) := by decide +kernel
theorem dX4_shortestOf_36 : decode cX4_shortestOf 36 = .ok (.goto (-29), 3) := by decide +kernel
theorem dX4_shortestOf_39 : decode cX4_shortestOf 39 = .ok (.iload_n 3, 1) := by decide +kernel
theorem dX4_shortestOf_40 : decode cX4_shortestOf 40 = .ok (.ireturn, 1) := by decide +kernel
theorem dX4_weigh_0 : decode cX4_weigh 0 = .ok (.iload_n 1, 1) := by decide +kernel
theorem dX4_weigh_1 : decode cX4_weigh 1 = .ok (.invokestatic 93, 3) := by decide +kernel
theorem dX4_weigh_4 : decode cX4_weigh 4 = .ok (.aload_n 0, 1) := by decide +kernel
theorem dX4_weigh_5 : decode cX4_weigh 5 = .ok (.getfield 41, 3) := by decide +kernel
theorem dX4_weigh_8 : decode cX4_weigh 8 = .ok (.invokestatic 93, 3) := by decide +kernel
theorem dX4_weigh_11 : decode cX4_weigh 11 = .ok (.isub, 1) := by decide +kernel
theorem dX4_weigh_12 : decode cX4_weigh 12 = .ok (.istore 4, 2) := by decide +kernel
theorem dX4_weigh_14 : decode cX4_weigh 14 = .ok (.iload_n 2, 1) := by decide +kernel
theorem dX4_weigh_15 : decode cX4_weigh 15 = .ok (.iload_n 3, 1) := by decide +kernel
theorem dX4_weigh_16 : decode cX4_weigh 16 = .ok (.if_icmp .gt 31, 3) := by decide +kernel
theorem dX4_weigh_19 : decode cX4_weigh 19 = .ok (.iload 4, 2) := by decide +kernel
theorem dX4_weigh_21 : decode cX4_weigh 21 = .ok (.ifCond .gt 16, 3) := by decide +kernel
theorem dX4_weigh_24 : decode cX4_weigh 24 = .ok (.iload 4, 2) := by decide +kernel
theorem dX4_weigh_26 : decode cX4_weigh 26 = .ok (.ifCond .ne 21, 3) := by decide +kernel
theorem dX4_weigh_29 : decode cX4_weigh 29 = .ok (.iload_n 2, 1) := by decide +kernel
theorem dX4_weigh_30 : decode cX4_weigh 30 = .ok (.aload_n 0, 1) := by decide +kernel
theorem dX4_weigh_31 : decode cX4_weigh 31 = .ok (.getfield 44, 3) := by decide +kernel
theorem dX4_weigh_34 : decode cX4_weigh 34 = .ok (.if_icmp .ge 13, 3) := by decide +kernel
theorem dX4_weigh_37 : decode cX4_weigh 37 = .ok (.aload_n 0, 1) := by decide +kernel
theorem dX4_weigh_38 : decode cX4_weigh 38 = .ok (.iload_n 1, 1) := by decide +kernel
theorem dX4_weigh_39 : decode cX4_weigh 39 = .ok (.putfield 41, 3) := by decide +kernel
theorem dX4_weigh_42 : decode cX4_weigh 42 = .ok (.aload_n 0, 1) := by decide +kernel
theorem dX4_weigh_43 : decode cX4_weigh 43 = .ok (.iload_n 2, 1) := by decide +kernel
theorem dX4_weigh_44 : decode cX4_weigh 44 = .ok (.putfield 44, 3) := by decide +kernel
theorem dX4_weigh_47 : decode cX4_weigh 47 = .ok (.return_, 1) := by decide +kernel
theorem dX5_init_0 : decode cX5_init 0 = .ok (.aload_n 0, 1) := by decide +kernel
theorem dX5_init_1 : decode cX5_init 1 = .ok (.invokespecial 3, 3) := by decide +kernel
theorem dX5_init_4 : decode cX5_init 4 = .ok (.aload_n 0, 1) := by decide +kernel
theorem dX5_init_5 : decode cX5_init 5 = .ok (.bipush 60, 2) := by decide +kernel
theorem dX5_init_7 : decode cX5_init 7 = .ok (.newarray .int, 2) := by decide +kernel
theorem dX5_init_9 : decode cX5_init 9 = .ok (.putfield 9, 3) := by decide +kernel
theorem dX5_init_12 : decode cX5_init 12 = .ok (.return_, 1) := by decide +kernel
theorem dX5_wipe_0 : decode cX5_wipe 0 = .ok (.iconst 0, 1) := by decide +kernel
theorem dX5_wipe_1 : decode cX5_wipe 1 = .ok (.istore_n 1, 1) := by decide +kernel
theorem dX5_wipe_2 : decode cX5_wipe 2 = .ok (.iload_n 1, 1) := by decide +kernel
theorem dX5_wipe_3 : decode cX5_wipe 3 = .ok (.aload_n 0, 1) := by decide +kernel
theorem dX5_wipe_4 : decode cX5_wipe 4 = .ok (.getfield 9, 3) := by decide +kernel
theorem dX5_wipe_7 : decode cX5_wipe 7 = .ok (.arraylength, 1) := by decide +kernel
theorem dX5_wipe_8 : decode cX5_wipe 8 = .ok (.if_icmp .ge 17, 3) := by decide +kernel
theorem dX5_wipe_11 : decode cX5_wipe 11 = .ok (.aload_n 0, 1) := by decide +kernel
theorem dX5_wipe_12 : decode cX5_wipe 12 = .ok (.getfield 9, 3) := by decide +kernel
theorem dX5_wipe_15 : decode cX5_wipe 15 = .ok (.iload_n 1, 1) := by decide +kernel
theorem dX5_wipe_16 : decode cX5_wipe 16 = .ok (.bipush 25, 2) := by decide +kernel
theorem dX5_wipe_18 : decode cX5_wipe 18 = .ok (.iastore, 1) := by decide +kernel
theorem dX5_wipe_19 : decode cX5_wipe 19 = .ok (.iinc 1 1, 3) := by decide +kernel
theorem dX5_wipe_22 : decode cX5_wipe 22 = .ok (.goto (-20), 3) := by decide +kernel
theorem dX5_wipe_25 : decode cX5_wipe 25 = .ok (.aload_n 0, 1) := by decide +kernel
theorem dX5_wipe_26 : decode cX5_wipe 26 = .ok (.iconst 0, 1) := by decide +kernel
theorem dX5_wipe_27 : decode cX5_wipe 27 = .ok (.putfield 15, 3) := by decide +kernel
theorem dX5_wipe_30 : decode cX5_wipe 30 = .ok (.aload_n 0, 1) := by decide +kernel
theorem dX5_wipe_31 : decode cX5_wipe 31 = .ok (.iconst 0, 1) := by decide +kernel
theorem dX5_wipe_32 : decode cX5_wipe 32 = .ok (.putfield 19, 3) := by decide +kernel
theorem dX5_wipe_35 : decode cX5_wipe 35 = .ok (.return_, 1) := by decide +kernel
theorem dX5_copyFrom_0 : decode cX5_copyFrom 0 = .ok (.aload_n 1, 1) := by decide +kernel
theorem dX5_copyFrom_1 : decode cX5_copyFrom 1 = .ok (.getfield 9, 3) := by decide +kernel
theorem dX5_copyFrom_4 : decode cX5_copyFrom 4 = .ok (.iconst 0, 1) := by decide +kernel
theorem dX5_copyFrom_5 : decode cX5_copyFrom 5 = .ok (.aload_n 0, 1) := by decide +kernel
theorem dX5_copyFrom_6 : decode cX5_copyFrom 6 = .ok (.getfield 9, 3) := by decide +kernel
theorem dX5_copyFrom_9 : decode cX5_copyFrom 9 = .ok (.iconst 0, 1) := by decide +kernel
theorem dX5_copyFrom_10 : decode cX5_copyFrom 10 = .ok (.aload_n 0, 1) := by decide +kernel
theorem dX5_copyFrom_11 : decode cX5_copyFrom 11 = .ok (.getfield 9, 3) := by decide +kernel
theorem dX5_copyFrom_14 : decode cX5_copyFrom 14 = .ok (.arraylength, 1) := by decide +kernel
theorem dX5_copyFrom_15 : decode cX5_copyFrom 15 = .ok (.invokestatic 22, 3) := by decide +kernel
theorem dX5_copyFrom_18 : decode cX5_copyFrom 18 = .ok (.aload_n 0, 1) := by decide +kernel
theorem dX5_copyFrom_19 : decode cX5_copyFrom 19 = .ok (.aload_n 1, 1) := by decide +kernel
theorem dX5_copyFrom_20 : decode cX5_copyFrom 20 = .ok (.getfield 15, 3) := by decide +kernel
theorem dX5_copyFrom_23 : decode cX5_copyFrom 23 = .ok (.putfield 15, 3) := by decide +kernel
theorem dX5_copyFrom_26 : decode cX5_copyFrom 26 = .ok (.aload_n 0, 1) := by decide +kernel
theorem dX5_copyFrom_27 : decode cX5_copyFrom 27 = .ok (.aload_n 1, 1) := by decide +kernel
theorem dX5_copyFrom_28 : decode cX5_copyFrom 28 = .ok (.getfield 19, 3) := by decide +kernel
theorem dX5_copyFrom_31 : decode cX5_copyFrom 31 = .ok (.putfield 19, 3) := by decide +kernel
theorem dX5_copyFrom_34 : decode cX5_copyFrom 34 = .ok (.return_, 1) := by decide +kernel
theorem dX5_letterOf_0 : decode cX5_letterOf 0 = .ok (.iload_n 1, 1) := by decide +kernel
theorem dX5_letterOf_1 : decode cX5_letterOf 1 = .ok (.iload_n 2, 1) := by decide +kernel
theorem dX5_letterOf_2 : decode cX5_letterOf 2 = .ok (.invokestatic 28, 3) := by decide +kernel
theorem dX5_letterOf_5 : decode cX5_letterOf 5 = .ok (.istore_n 3, 1) := by decide +kernel
theorem dX5_letterOf_6 : decode cX5_letterOf 6 = .ok (.iload_n 3, 1) := by decide +kernel
theorem dX5_letterOf_7 : decode cX5_letterOf 7 = .ok (.ifCond .lt 12, 3) := by decide +kernel
theorem dX5_letterOf_10 : decode cX5_letterOf 10 = .ok (.iload_n 3, 1) := by decide +kernel
theorem dX5_letterOf_11 : decode cX5_letterOf 11 = .ok (.aload_n 0, 1) := by decide +kernel
theorem dX5_letterOf_12 : decode cX5_letterOf 12 = .ok (.getfield 9, 3) := by decide +kernel
theorem dX5_letterOf_15 : decode cX5_letterOf 15 = .ok (.arraylength, 1) := by decide +kernel
theorem dX5_letterOf_16 : decode cX5_letterOf 16 = .ok (.if_icmp .lt 8, 3) := by decide +kernel
theorem dX5_letterOf_19 : decode cX5_letterOf 19 = .ok (.bipush 25, 2) := by decide +kernel
theorem dX5_letterOf_21 : decode cX5_letterOf 21 = .ok (.goto 9, 3) := by decide +kernel
theorem dX5_letterOf_24 : decode cX5_letterOf 24 = .ok (.aload_n 0, 1) := by decide +kernel
theorem dX5_letterOf_25 : decode cX5_letterOf 25 = .ok (.getfield 9, 3) := by decide +kernel
theorem dX5_letterOf_28 : decode cX5_letterOf 28 = .ok (.iload_n 3, 1) := by decide +kernel
theorem dX5_letterOf_29 : decode cX5_letterOf 29 = .ok (.iaload, 1) := by decide +kernel
theorem dX5_letterOf_30 : decode cX5_letterOf 30 = .ok (.ireturn, 1) := by decide +kernel
theorem dX5_lacksRib_0 : decode cX5_lacksRib 0 = .ok (.aload_n 0, 1) := by decide +kernel
theorem dX5_lacksRib_1 : decode cX5_lacksRib 1 = .ok (.getfield 15, 3) := by decide +kernel
theorem dX5_lacksRib_4 : decode cX5_lacksRib 4 = .ok (.iload_n 1, 1) := by decide +kernel
theorem dX5_lacksRib_5 : decode cX5_lacksRib 5 = .ok (.ishr, 1) := by decide +kernel
theorem dX5_lacksRib_6 : decode cX5_lacksRib 6 = .ok (.iconst 1, 1) := by decide +kernel
theorem dX5_lacksRib_7 : decode cX5_lacksRib 7 = .ok (.iand, 1) := by decide +kernel
theorem dX5_lacksRib_8 : decode cX5_lacksRib 8 = .ok (.ifCond .eq 7, 3) := by decide +kernel
theorem dX5_lacksRib_11 : decode cX5_lacksRib 11 = .ok (.iconst 1, 1) := by decide +kernel
theorem dX5_lacksRib_12 : decode cX5_lacksRib 12 = .ok (.goto 4, 3) := by decide +kernel
theorem dX5_lacksRib_15 : decode cX5_lacksRib 15 = .ok (.iconst 0, 1) := by decide +kernel
theorem dX5_lacksRib_16 : decode cX5_lacksRib 16 = .ok (.ireturn, 1) := by decide +kernel
theorem dX5_countPainted_0 : decode cX5_countPainted 0 = .ok (.iconst 0, 1) := by decide +kernel
theorem dX5_countPainted_1 : decode cX5_countPainted 1 = .ok (.istore_n 1, 1) := by decide +kernel
theorem dX5_countPainted_2 : decode cX5_countPainted 2 = .ok (.iconst 0, 1) := by decide +kernel
theorem dX5_countPainted_3 : decode cX5_countPainted 3 = .ok (.istore_n 2, 1) := by decide +kernel
theorem dX5_countPainted_4 : decode cX5_countPainted 4 = .ok (.iload_n 2, 1) := by decide +kernel
theorem dX5_countPainted_5 : decode cX5_countPainted 5 = .ok (.aload_n 0, 1) := by decide +kernel
theorem dX5_countPainted_6 : decode cX5_countPainted 6 = .ok (.getfield 9, 3) := by decide +kernel
theorem dX5_countPainted_9 : decode cX5_countPainted 9 = .ok (.arraylength, 1) := by decide +kernel
theorem dX5_countPainted_10 : decode cX5_countPainted 10 = .ok (.if_icmp .ge 23, 3) := by decide +kernel
theorem dX5_countPainted_13 : decode cX5_countPainted 13 = .ok (.aload_n 0, 1) := by decide +kernel
theorem dX5_countPainted_14 : decode cX5_countPainted 14 = .ok (.getfield 9, 3) := by decide +kernel
theorem dX5_countPainted_17 : decode cX5_countPainted 17 = .ok (.iload_n 2, 1) := by decide +kernel
theorem dX5_countPainted_18 : decode cX5_countPainted 18 = .ok (.iaload, 1) := by decide +kernel
theorem dX5_countPainted_19 : decode cX5_countPainted 19 = .ok (.bipush 25, 2) := by decide +kernel
theorem dX5_countPainted_21 : decode cX5_countPainted 21 = .ok (.if_icmp .eq 6, 3) := by decide +kernel
theorem dX5_countPainted_24 : decode cX5_countPainted 24 = .ok (.iinc 1 1, 3) := by decide +kernel
theorem dX5_countPainted_27 : decode cX5_countPainted 27 = .ok (.iinc 2 1, 3) := by decide +kernel
theorem dX5_countPainted_30 : decode cX5_countPainted 30 = .ok (.goto (-26), 3) := by decide +kernel
theorem dX5_countPainted_33 : decode cX5_countPainted 33 = .ok (.iload_n 1, 1) := by decide +kernel
theorem dX5_countPainted_34 : decode cX5_countPainted 34 = .ok (.ireturn, 1) := by decide +kernel
theorem dX6_init_0 : decode cX6_init 0 = .ok (.aload_n 0, 1) := by decide +kernel
theorem dX6_init_1 : decode cX6_init 1 = .ok (.invokespecial 3, 3) := by decide +kernel
theorem dX6_init_4 : decode cX6_init 4 = .ok (.aload_n 0, 1) := by decide +kernel
theorem dX6_init_5 : decode cX6_init 5 = .ok (.sipush 900, 3) := by decide +kernel
theorem dX6_init_8 : decode cX6_init 8 = .ok (.newarray .byte, 2) := by decide +kernel
theorem dX6_init_10 : decode cX6_init 10 = .ok (.putfield 9, 3) := by decide +kernel
theorem dX6_init_13 : decode cX6_init 13 = .ok (.aload_n 0, 1) := by decide +kernel
theorem dX6_init_14 : decode cX6_init 14 = .ok (.new 15, 3) := by decide +kernel
theorem dX6_init_17 : decode cX6_init 17 = .ok (.dup, 1) := by decide +kernel
theorem dX6_init_18 : decode cX6_init 18 = .ok (.invokespecial 17, 3) := by decide +kernel
theorem dX6_init_21 : decode cX6_init 21 = .ok (.putfield 18, 3) := by decide +kernel
theorem dX6_init_24 : decode cX6_init 24 = .ok (.aload_n 0, 1) := by decide +kernel
theorem dX6_init_25 : decode cX6_init 25 = .ok (.iconst (-1), 1) := by decide +kernel
theorem dX6_init_26 : decode cX6_init 26 = .ok (.putfield 22, 3) := by decide +kernel
theorem dX6_init_29 : decode cX6_init 29 = .ok (.return_, 1) := by decide +kernel
theorem dX6_exchange_0 : decode cX6_exchange 0 = .ok (.aload_n 0, 1) := by decide +kernel
theorem dX6_exchange_1 : decode cX6_exchange 1 = .ok (.getfield 18, 3) := by decide +kernel
theorem dX6_exchange_4 : decode cX6_exchange 4 = .ok (.astore_n 2, 1) := by decide +kernel
theorem dX6_exchange_5 : decode cX6_exchange 5 = .ok (.aload_n 0, 1) := by decide +kernel
theorem dX6_exchange_6 : decode cX6_exchange 6 = .ok (.aload_n 1, 1) := by decide +kernel
theorem dX6_exchange_7 : decode cX6_exchange 7 = .ok (.putfield 18, 3) := by decide +kernel
theorem dX6_exchange_10 : decode cX6_exchange 10 = .ok (.aload_n 2, 1) := by decide +kernel
theorem dX6_exchange_11 : decode cX6_exchange 11 = .ok (.areturn, 1) := by decide +kernel
theorem dX6_readFan_0 : decode cX6_readFan 0 = .ok (.aload_n 0, 1) := by decide +kernel
theorem dX6_readFan_1 : decode cX6_readFan 1 = .ok (.iload_n 1, 1) := by decide +kernel
theorem dX6_readFan_2 : decode cX6_readFan 2 = .ok (.aload_n 0, 1) := by decide +kernel
theorem dX6_readFan_3 : decode cX6_readFan 3 = .ok (.getfield 9, 3) := by decide +kernel
theorem dX6_readFan_6 : decode cX6_readFan 6 = .ok (.arraylength, 1) := by decide +kernel
theorem dX6_readFan_7 : decode cX6_readFan 7 = .ok (.invokestatic 26, 3) := by decide +kernel
theorem dX6_readFan_10 : decode cX6_readFan 10 = .ok (.putfield 32, 3) := by decide +kernel
theorem dX6_readFan_13 : decode cX6_readFan 13 = .ok (.aload_n 0, 1) := by decide +kernel
theorem dX6_readFan_14 : decode cX6_readFan 14 = .ok (.getfield 18, 3) := by decide +kernel
theorem dX6_readFan_17 : decode cX6_readFan 17 = .ok (.invokevirtual 35, 3) := by decide +kernel
theorem dX6_readFan_20 : decode cX6_readFan 20 = .ok (.aload_n 0, 1) := by decide +kernel
theorem dX6_readFan_21 : decode cX6_readFan 21 = .ok (.iconst 0, 1) := by decide +kernel
theorem dX6_readFan_22 : decode cX6_readFan 22 = .ok (.putfield 38, 3) := by decide +kernel
theorem dX6_readFan_25 : decode cX6_readFan 25 = .ok (.aload_n 0, 1) := by decide +kernel
theorem dX6_readFan_26 : decode cX6_readFan 26 = .ok (.iconst 0, 1) := by decide +kernel
theorem dX6_readFan_27 : decode cX6_readFan 27 = .ok (.putfield 42, 3) := by decide +kernel
theorem dX6_readFan_30 : decode cX6_readFan 30 = .ok (.aload_n 0, 1) := by decide +kernel
theorem dX6_readFan_31 : decode cX6_readFan 31 = .ok (.iconst (-1), 1) := by decide +kernel
theorem dX6_readFan_32 : decode cX6_readFan 32 = .ok (.putfield 22, 3) := by decide +kernel
theorem dX6_readFan_35 : decode cX6_readFan 35 = .ok (.aload_n 0, 1) := by decide +kernel
theorem dX6_readFan_36 : decode cX6_readFan 36 = .ok (.iconst 0, 1) := by decide +kernel
theorem dX6_readFan_37 : decode cX6_readFan 37 = .ok (.putfield 45, 3) := by decide +kernel
theorem dX6_readFan_40 : decode cX6_readFan 40 = .ok (.aload_n 0, 1) := by decide +kernel
theorem dX6_readFan_41 : decode cX6_readFan 41 = .ok (.iconst 0, 1) := by decide +kernel
theorem dX6_readFan_42 : decode cX6_readFan 42 = .ok (.putfield 48, 3) := by decide +kernel
theorem dX6_readFan_45 : decode cX6_readFan 45 = .ok (.aload_n 0, 1) := by decide +kernel
theorem dX6_readFan_46 : decode cX6_readFan 46 = .ok (.invokevirtual 51, 3) := by decide +kernel
theorem dX6_readFan_49 : decode cX6_readFan 49 = .ok (.iconst 0, 1) := by decide +kernel
theorem dX6_readFan_50 : decode cX6_readFan 50 = .ok (.istore_n 2, 1) := by decide +kernel
theorem dX6_readFan_51 : decode cX6_readFan 51 = .ok (.iload_n 2, 1) := by decide +kernel
theorem dX6_readFan_52 : decode cX6_readFan 52 = .ok (.sipush 900, 3) := by decide +kernel
theorem dX6_readFan_55 : decode cX6_readFan 55 = .ok (.if_icmp .gt 45, 3) := by decide +kernel
theorem dX6_readFan_58 : decode cX6_readFan 58 = .ok (.aload_n 0, 1) := by decide +kernel
theorem dX6_readFan_59 : decode cX6_readFan 59 = .ok (.invokevirtual 54, 3) := by decide +kernel
theorem dX6_readFan_62 : decode cX6_readFan 62 = .ok (.ifCond .ne 5, 3) := by decide +kernel
theorem dX6_readFan_65 : decode cX6_readFan 65 = .ok (.iconst 0, 1) := by decide +kernel
theorem dX6_readFan_66 : decode cX6_readFan 66 = .ok (.ireturn, 1) := by decide +kernel
theorem dX6_readFan_67 : decode cX6_readFan 67 = .ok (.aload_n 0, 1) := by decide +kernel
theorem dX6_readFan_68 : decode cX6_readFan 68 = .ok (.getfield 58, 3) := by decide +kernel
theorem dX6_readFan_71 : decode cX6_readFan 71 = .ok (.ifCond .ne 5, 3) := by decide +kernel
theorem dX6_readFan_74 : decode cX6_readFan 74 = .ok (.iconst 1, 1) := by decide +kernel
theorem dX6_readFan_75 : decode cX6_readFan 75 = .ok (.ireturn, 1) := by decide +kernel
theorem dX6_readFan_76 : decode cX6_readFan 76 = .ok (.aload_n 0, 1) := by decide +kernel
theorem dX6_readFan_77 : decode cX6_readFan 77 = .ok (.getfield 58, 3) := by decide +kernel
theorem dX6_readFan_80 : decode cX6_readFan 80 = .ok (.iconst 3, 1) := by decide +kernel
theorem dX6_readFan_81 : decode cX6_readFan 81 = .ok (.if_icmp .eq 9, 3) := by decide +kernel
theorem dX6_readFan_84 : decode cX6_readFan 84 = .ok (.aload_n 0, 1) := by decide +kernel
theorem dX6_readFan_85 : decode cX6_readFan 85 = .ok (.iconst 1, 1) := by decide +kernel
theorem dX6_readFan_86 : decode cX6_readFan 86 = .ok (.invokevirtual 61, 3) := by decide +kernel
theorem dX6_readFan_89 : decode cX6_readFan 89 = .ok (.ireturn, 1) := by decide +kernel
theorem dX6_readFan_90 : decode cX6_readFan 90 = .ok (.aload_n 0, 1) := by decide +kernel
theorem dX6_readFan_91 : decode cX6_readFan 91 = .ok (.invokevirtual 51, 3) := by decide +kernel
theorem dX6_readFan_94 : decode cX6_readFan 94 = .ok (.iinc 2 1, 3) := by decide +kernel
theorem dX6_readFan_97 : decode cX6_readFan 97 = .ok (.goto (-46), 3) := by decide +kernel
theorem dX6_readFan_100 : decode cX6_readFan 100 = .ok (.aload_n 0, 1) := by decide +kernel
theorem dX6_readFan_101 : decode cX6_readFan 101 = .ok (.iconst 1, 1) := by decide +kernel
theorem dX6_readFan_102 : decode cX6_readFan 102 = .ok (.invokevirtual 61, 3) := by decide +kernel
theorem dX6_readFan_105 : decode cX6_readFan 105 = .ok (.ireturn, 1) := by decide +kernel
theorem dX6_fail_0 : decode cX6_fail 0 = .ok (.aload_n 0, 1) := by decide +kernel
theorem dX6_fail_1 : decode cX6_fail 1 = .ok (.iload_n 1, 1) := by decide +kernel
theorem dX6_fail_2 : decode cX6_fail 2 = .ok (.putfield 42, 3) := by decide +kernel
theorem dX6_fail_5 : decode cX6_fail 5 = .ok (.aload_n 0, 1) := by decide +kernel
theorem dX6_fail_6 : decode cX6_fail 6 = .ok (.aload_n 0, 1) := by decide +kernel
theorem dX6_fail_7 : decode cX6_fail 7 = .ok (.getfield 45, 3) := by decide +kernel
theorem dX6_fail_10 : decode cX6_fail 10 = .ok (.putfield 22, 3) := by decide +kernel
theorem dX6_fail_13 : decode cX6_fail 13 = .ok (.iconst 0, 1) := by decide +kernel
theorem dX6_fail_14 : decode cX6_fail 14 = .ok (.ireturn, 1) := by decide +kernel
theorem dX6_step_0 : decode cX6_step 0 = .ok (.aload_n 0, 1) := by decide +kernel
theorem dX6_step_1 : decode cX6_step 1 = .ok (.dup, 1) := by decide +kernel
theorem dX6_step_2 : decode cX6_step 2 = .ok (.getfield 45, 3) := by decide +kernel
theorem dX6_step_5 : decode cX6_step 5 = .ok (.aload_n 0, 1) := by decide +kernel
theorem dX6_step_6 : decode cX6_step 6 = .ok (.getfield 48, 3) := by decide +kernel
theorem dX6_step_9 : decode cX6_step 9 = .ok (.iadd, 1) := by decide +kernel
theorem dX6_step_10 : decode cX6_step 10 = .ok (.putfield 45, 3) := by decide +kernel
theorem dX6_step_13 : decode cX6_step 13 = .ok (.aload_n 0, 1) := by decide +kernel
theorem dX6_step_14 : decode cX6_step 14 = .ok (.iconst 0, 1) := by decide +kernel
theorem dX6_step_15 : decode cX6_step 15 = .ok (.putfield 48, 3) := by decide +kernel
theorem dX6_step_18 : decode cX6_step 18 = .ok (.aload_n 0, 1) := by decide +kernel
theorem dX6_step_19 : decode cX6_step 19 = .ok (.getfield 45, 3) := by decide +kernel
theorem dX6_step_22 : decode cX6_step 22 = .ok (.aload_n 0, 1) := by decide +kernel
theorem dX6_step_23 : decode cX6_step 23 = .ok (.getfield 32, 3) := by decide +kernel
theorem dX6_step_26 : decode cX6_step 26 = .ok (.if_icmp .ge 30, 3) := by decide +kernel
theorem dX6_step_29 : decode cX6_step 29 = .ok (.aload_n 0, 1) := by decide +kernel
theorem dX6_step_30 : decode cX6_step 30 = .ok (.getfield 9, 3) := by decide +kernel
theorem dX6_step_33 : decode cX6_step 33 = .ok (.aload_n 0, 1) := by decide +kernel
theorem dX6_step_34 : decode cX6_step 34 = .ok (.getfield 45, 3) := by decide +kernel
theorem dX6_step_37 : decode cX6_step 37 = .ok (.baload, 1) := by decide +kernel
theorem dX6_step_38 : decode cX6_step 38 = .ok (.bipush 32, 2) := by decide +kernel
theorem dX6_step_40 : decode cX6_step 40 = .ok (.if_icmp .ne 16, 3) := by decide +kernel
theorem dX6_step_43 : decode cX6_step 43 = .ok (.aload_n 0, 1) := by decide +kernel
theorem dX6_step_44 : decode cX6_step 44 = .ok (.dup, 1) := by decide +kernel
theorem dX6_step_45 : decode cX6_step 45 = .ok (.getfield 45, 3) := by decide +kernel
theorem dX6_step_48 : decode cX6_step 48 = .ok (.iconst 1, 1) := by decide +kernel
theorem dX6_step_49 : decode cX6_step 49 = .ok (.iadd, 1) := by decide +kernel
theorem dX6_step_50 : decode cX6_step 50 = .ok (.putfield 45, 3) := by decide +kernel
theorem dX6_step_53 : decode cX6_step 53 = .ok (.goto (-35), 3) := by decide +kernel
theorem dX6_step_56 : decode cX6_step 56 = .ok (.aload_n 0, 1) := by decide +kernel
theorem dX6_step_57 : decode cX6_step 57 = .ok (.getfield 45, 3) := by decide +kernel
theorem dX6_step_60 : decode cX6_step 60 = .ok (.aload_n 0, 1) := by decide +kernel
theorem dX6_step_61 : decode cX6_step 61 = .ok (.getfield 48, 3) := by decide +kernel
theorem dX6_step_64 : decode cX6_step 64 = .ok (.iadd, 1) := by decide +kernel
theorem dX6_step_65 : decode cX6_step 65 = .ok (.aload_n 0, 1) := by decide +kernel
theorem dX6_step_66 : decode cX6_step 66 = .ok (.getfield 32, 3) := by decide +kernel
theorem dX6_step_69 : decode cX6_step 69 = .ok (.if_icmp .ge 54, 3) := by decide +kernel
theorem dX6_step_72 : decode cX6_step 72 = .ok (.aload_n 0, 1) := by decide +kernel
theorem dX6_step_73 : decode cX6_step 73 = .ok (.getfield 9, 3) := by decide +kernel
theorem dX6_step_76 : decode cX6_step 76 = .ok (.aload_n 0, 1) := by decide +kernel
theorem dX6_step_77 : decode cX6_step 77 = .ok (.getfield 45, 3) := by decide +kernel
theorem dX6_step_80 : decode cX6_step 80 = .ok (.aload_n 0, 1) := by decide +kernel
theorem dX6_step_81 : decode cX6_step 81 = .ok (.getfield 48, 3) := by decide +kernel
theorem dX6_step_84 : decode cX6_step 84 = .ok (.iadd, 1) := by decide +kernel
theorem dX6_step_85 : decode cX6_step 85 = .ok (.baload, 1) := by decide +kernel
theorem dX6_step_86 : decode cX6_step 86 = .ok (.bipush 97, 2) := by decide +kernel
theorem dX6_step_88 : decode cX6_step 88 = .ok (.if_icmp .lt 35, 3) := by decide +kernel
theorem dX6_step_91 : decode cX6_step 91 = .ok (.aload_n 0, 1) := by decide +kernel
theorem dX6_step_92 : decode cX6_step 92 = .ok (.getfield 9, 3) := by decide +kernel
theorem dX6_step_95 : decode cX6_step 95 = .ok (.aload_n 0, 1) := by decide +kernel
theorem dX6_step_96 : decode cX6_step 96 = .ok (.getfield 45, 3) := by decide +kernel
theorem dX6_step_99 : decode cX6_step 99 = .ok (.aload_n 0, 1) := by decide +kernel
theorem dX6_step_100 : decode cX6_step 100 = .ok (.getfield 48, 3) := by decide +kernel
theorem dX6_step_103 : decode cX6_step 103 = .ok (.iadd, 1) := by decide +kernel
theorem dX6_step_104 : decode cX6_step 104 = .ok (.baload, 1) := by decide +kernel
theorem dX6_step_105 : decode cX6_step 105 = .ok (.bipush 122, 2) := by decide +kernel
theorem dX6_step_107 : decode cX6_step 107 = .ok (.if_icmp .gt 16, 3) := by decide +kernel
theorem dX6_step_110 : decode cX6_step 110 = .ok (.aload_n 0, 1) := by decide +kernel
theorem dX6_step_111 : decode cX6_step 111 = .ok (.dup, 1) := by decide +kernel
theorem dX6_step_112 : decode cX6_step 112 = .ok (.getfield 48, 3) := by decide +kernel
theorem dX6_step_115 : decode cX6_step 115 = .ok (.iconst 1, 1) := by decide +kernel
theorem dX6_step_116 : decode cX6_step 116 = .ok (.iadd, 1) := by decide +kernel
theorem dX6_step_117 : decode cX6_step 117 = .ok (.putfield 48, 3) := by decide +kernel
theorem dX6_step_120 : decode cX6_step 120 = .ok (.goto (-64), 3) := by decide +kernel
theorem dX6_step_123 : decode cX6_step 123 = .ok (.aload_n 0, 1) := by decide +kernel
theorem dX6_step_124 : decode cX6_step 124 = .ok (.getfield 48, 3) := by decide +kernel
theorem dX6_step_127 : decode cX6_step 127 = .ok (.ifCond .le 22, 3) := by decide +kernel
theorem dX6_step_130 : decode cX6_step 130 = .ok (.aload_n 0, 1) := by decide +kernel
theorem dX6_step_131 : decode cX6_step 131 = .ok (.aload_n 0, 1) := by decide +kernel
theorem dX6_step_132 : decode cX6_step 132 = .ok (.getfield 48, 3) := by decide +kernel
theorem dX6_step_135 : decode cX6_step 135 = .ok (.bipush 8, 2) := by decide +kernel
theorem dX6_step_137 : decode cX6_step 137 = .ok (.if_icmp .gt 7, 3) := by decide +kernel
theorem dX6_step_140 : decode cX6_step 140 = .ok (.iconst 1, 1) := by decide +kernel
theorem dX6_step_141 : decode cX6_step 141 = .ok (.goto 4, 3) := by decide +kernel
theorem dX6_step_144 : decode cX6_step 144 = .ok (.iconst 5, 1) := by decide +kernel
theorem dX6_step_145 : decode cX6_step 145 = .ok (.putfield 58, 3) := by decide +kernel
theorem dX6_step_148 : decode cX6_step 148 = .ok (.return_, 1) := by decide +kernel
theorem dX6_step_149 : decode cX6_step 149 = .ok (.aload_n 0, 1) := by decide +kernel
theorem dX6_step_150 : decode cX6_step 150 = .ok (.getfield 45, 3) := by decide +kernel
theorem dX6_step_153 : decode cX6_step 153 = .ok (.aload_n 0, 1) := by decide +kernel
theorem dX6_step_154 : decode cX6_step 154 = .ok (.getfield 48, 3) := by decide +kernel
theorem dX6_step_157 : decode cX6_step 157 = .ok (.iadd, 1) := by decide +kernel
theorem dX6_step_158 : decode cX6_step 158 = .ok (.aload_n 0, 1) := by decide +kernel
theorem dX6_step_159 : decode cX6_step 159 = .ok (.getfield 32, 3) := by decide +kernel
theorem dX6_step_162 : decode cX6_step 162 = .ok (.if_icmp .ge 54, 3) := by decide +kernel
theorem dX6_step_165 : decode cX6_step 165 = .ok (.aload_n 0, 1) := by decide +kernel
theorem dX6_step_166 : decode cX6_step 166 = .ok (.getfield 9, 3) := by decide +kernel
theorem dX6_step_169 : decode cX6_step 169 = .ok (.aload_n 0, 1) := by decide +kernel
theorem dX6_step_170 : decode cX6_step 170 = .ok (.getfield 45, 3) := by decide +kernel
theorem dX6_step_173 : decode cX6_step 173 = .ok (.aload_n 0, 1) := by decide +kernel
theorem dX6_step_174 : decode cX6_step 174 = .ok (.getfield 48, 3) := by decide +kernel
theorem dX6_step_177 : decode cX6_step 177 = .ok (.iadd, 1) := by decide +kernel
theorem dX6_step_178 : decode cX6_step 178 = .ok (.baload, 1) := by decide +kernel
theorem dX6_step_179 : decode cX6_step 179 = .ok (.bipush 48, 2) := by decide +kernel
theorem dX6_step_181 : decode cX6_step 181 = .ok (.if_icmp .lt 35, 3) := by decide +kernel
theorem dX6_step_184 : decode cX6_step 184 = .ok (.aload_n 0, 1) := by decide +kernel
theorem dX6_step_185 : decode cX6_step 185 = .ok (.getfield 9, 3) := by decide +kernel
theorem dX6_step_188 : decode cX6_step 188 = .ok (.aload_n 0, 1) := by decide +kernel
theorem dX6_step_189 : decode cX6_step 189 = .ok (.getfield 45, 3) := by decide +kernel
theorem dX6_step_192 : decode cX6_step 192 = .ok (.aload_n 0, 1) := by decide +kernel
theorem dX6_step_193 : decode cX6_step 193 = .ok (.getfield 48, 3) := by decide +kernel
theorem dX6_step_196 : decode cX6_step 196 = .ok (.iadd, 1) := by decide +kernel
theorem dX6_step_197 : decode cX6_step 197 = .ok (.baload, 1) := by decide +kernel
theorem dX6_step_198 : decode cX6_step 198 = .ok (.bipush 57, 2) := by decide +kernel
theorem dX6_step_200 : decode cX6_step 200 = .ok (.if_icmp .gt 16, 3) := by decide +kernel
theorem dX6_step_203 : decode cX6_step 203 = .ok (.aload_n 0, 1) := by decide +kernel
theorem dX6_step_204 : decode cX6_step 204 = .ok (.dup, 1) := by decide +kernel
theorem dX6_step_205 : decode cX6_step 205 = .ok (.getfield 48, 3) := by decide +kernel
theorem dX6_step_208 : decode cX6_step 208 = .ok (.iconst 1, 1) := by decide +kernel
theorem dX6_step_209 : decode cX6_step 209 = .ok (.iadd, 1) := by decide +kernel
theorem dX6_step_210 : decode cX6_step 210 = .ok (.putfield 48, 3) := by decide +kernel
theorem dX6_step_213 : decode cX6_step 213 = .ok (.goto (-64), 3) := by decide +kernel
theorem dX6_step_216 : decode cX6_step 216 = .ok (.aload_n 0, 1) := by decide +kernel
theorem dX6_step_217 : decode cX6_step 217 = .ok (.getfield 48, 3) := by decide +kernel
theorem dX6_step_220 : decode cX6_step 220 = .ok (.ifCond .le 21, 3) := by decide +kernel
theorem dX6_step_223 : decode cX6_step 223 = .ok (.aload_n 0, 1) := by decide +kernel
theorem dX6_step_224 : decode cX6_step 224 = .ok (.aload_n 0, 1) := by decide +kernel
theorem dX6_step_225 : decode cX6_step 225 = .ok (.getfield 48, 3) := by decide +kernel
theorem dX6_step_228 : decode cX6_step 228 = .ok (.iconst 3, 1) := by decide +kernel
theorem dX6_step_229 : decode cX6_step 229 = .ok (.if_icmp .gt 7, 3) := by decide +kernel
theorem dX6_step_232 : decode cX6_step 232 = .ok (.iconst 2, 1) := by decide +kernel
theorem dX6_step_233 : decode cX6_step 233 = .ok (.goto 4, 3) := by decide +kernel
theorem dX6_step_236 : decode cX6_step 236 = .ok (.iconst 5, 1) := by decide +kernel
theorem dX6_step_237 : decode cX6_step 237 = .ok (.putfield 58, 3) := by decide +kernel
theorem dX6_step_240 : decode cX6_step 240 = .ok (.return_, 1) := by decide +kernel
theorem dX6_step_241 : decode cX6_step 241 = .ok (.aload_n 0, 1) := by decide +kernel
theorem dX6_step_242 : decode cX6_step 242 = .ok (.getfield 45, 3) := by decide +kernel
theorem dX6_step_245 : decode cX6_step 245 = .ok (.aload_n 0, 1) := by decide +kernel
theorem dX6_step_246 : decode cX6_step 246 = .ok (.getfield 32, 3) := by decide +kernel
theorem dX6_step_249 : decode cX6_step 249 = .ok (.if_icmp .lt 9, 3) := by decide +kernel
theorem dX6_step_252 : decode cX6_step 252 = .ok (.aload_n 0, 1) := by decide +kernel
theorem dX6_step_253 : decode cX6_step 253 = .ok (.iconst 0, 1) := by decide +kernel
theorem dX6_step_254 : decode cX6_step 254 = .ok (.putfield 58, 3) := by decide +kernel
theorem dX6_step_257 : decode cX6_step 257 = .ok (.return_, 1) := by decide +kernel
theorem dX6_step_258 : decode cX6_step 258 = .ok (.aload_n 0, 1) := by decide +kernel
theorem dX6_step_259 : decode cX6_step 259 = .ok (.iconst 1, 1) := by decide +kernel
theorem dX6_step_260 : decode cX6_step 260 = .ok (.putfield 48, 3) := by decide +kernel
theorem dX6_step_263 : decode cX6_step 263 = .ok (.aload_n 0, 1) := by decide +kernel
theorem dX6_step_264 : decode cX6_step 264 = .ok (.aload_n 0, 1) := by decide +kernel
theorem dX6_step_265 : decode cX6_step 265 = .ok (.getfield 9, 3) := by decide +kernel
theorem dX6_step_268 : decode cX6_step 268 = .ok (.aload_n 0, 1) := by decide +kernel
theorem dX6_step_269 : decode cX6_step 269 = .ok (.getfield 45, 3) := by decide +kernel
theorem dX6_step_272 : decode cX6_step 272 = .ok (.baload, 1) := by decide +kernel
theorem dX6_step_273 : decode cX6_step 273 = .ok (.bipush 59, 2) := by decide +kernel
theorem dX6_step_275 : decode cX6_step 275 = .ok (.if_icmp .ne 7, 3) := by decide +kernel
theorem dX6_step_278 : decode cX6_step 278 = .ok (.iconst 3, 1) := by decide +kernel
theorem dX6_step_279 : decode cX6_step 279 = .ok (.goto 22, 3) := by decide +kernel
theorem dX6_step_282 : decode cX6_step 282 = .ok (.aload_n 0, 1) := by decide +kernel
theorem dX6_step_283 : decode cX6_step 283 = .ok (.getfield 9, 3) := by decide +kernel
theorem dX6_step_286 : decode cX6_step 286 = .ok (.aload_n 0, 1) := by decide +kernel
theorem dX6_step_287 : decode cX6_step 287 = .ok (.getfield 45, 3) := by decide +kernel
theorem dX6_step_290 : decode cX6_step 290 = .ok (.baload, 1) := by decide +kernel
theorem dX6_step_291 : decode cX6_step 291 = .ok (.bipush 44, 2) := by decide +kernel
theorem dX6_step_293 : decode cX6_step 293 = .ok (.if_icmp .ne 7, 3) := by decide +kernel
theorem dX6_step_296 : decode cX6_step 296 = .ok (.iconst 4, 1) := by decide +kernel
theorem dX6_step_297 : decode cX6_step 297 = .ok (.goto 4, 3) := by decide +kernel
theorem dX6_step_300 : decode cX6_step 300 = .ok (.iconst 5, 1) := by decide +kernel
theorem dX6_step_301 : decode cX6_step 301 = .ok (.putfield 58, 3) := by decide +kernel
theorem dX6_step_304 : decode cX6_step 304 = .ok (.return_, 1) := by decide +kernel
theorem dX6_isName_0 : decode cX6_isName 0 = .ok (.aload_n 0, 1) := by decide +kernel
theorem dX6_isName_1 : decode cX6_isName 1 = .ok (.getfield 58, 3) := by decide +kernel
theorem dX6_isName_4 : decode cX6_isName 4 = .ok (.iconst 1, 1) := by decide +kernel
theorem dX6_isName_5 : decode cX6_isName 5 = .ok (.if_icmp .ne 14, 3) := by decide +kernel
theorem dX6_isName_8 : decode cX6_isName 8 = .ok (.aload_n 0, 1) := by decide +kernel
theorem dX6_isName_9 : decode cX6_isName 9 = .ok (.getfield 48, 3) := by decide +kernel
theorem dX6_isName_12 : decode cX6_isName 12 = .ok (.aload_n 1, 1) := by decide +kernel
theorem dX6_isName_13 : decode cX6_isName 13 = .ok (.invokevirtual 65, 3) := by decide +kernel
theorem dX6_isName_16 : decode cX6_isName 16 = .ok (.if_icmp .eq 5, 3) := by decide +kernel
theorem dX6_isName_19 : decode cX6_isName 19 = .ok (.iconst 0, 1) := by decide +kernel
theorem dX6_isName_20 : decode cX6_isName 20 = .ok (.ireturn, 1) := by decide +kernel
theorem dX6_isName_21 : decode cX6_isName 21 = .ok (.iconst 0, 1) := by decide +kernel
theorem dX6_isName_22 : decode cX6_isName 22 = .ok (.istore_n 2, 1) := by decide +kernel
theorem dX6_isName_23 : decode cX6_isName 23 = .ok (.iload_n 2, 1) := by decide +kernel
theorem dX6_isName_24 : decode cX6_isName 24 = .ok (.aload_n 0, 1) := by decide +kernel
theorem dX6_isName_25 : decode cX6_isName 25 = .ok (.getfield 48, 3) := by decide +kernel
theorem dX6_isName_28 : decode cX6_isName 28 = .ok (.if_icmp .ge 30, 3) := by decide +kernel
theorem dX6_isName_31 : decode cX6_isName 31 = .ok (.aload_n 0, 1) := by decide +kernel
theorem dX6_isName_32 : decode cX6_isName 32 = .ok (.getfield 9, 3) := by decide +kernel
theorem dX6_isName_35 : decode cX6_isName 35 = .ok (.aload_n 0, 1) := by decide +kernel
theorem dX6_isName_36 : decode cX6_isName 36 = .ok (.getfield 45, 3) := by decide +kernel
theorem dX6_isName_39 : decode cX6_isName 39 = .ok (.iload_n 2, 1) := by decide +kernel
theorem dX6_isName_40 : decode cX6_isName 40 = .ok (.iadd, 1) := by decide +kernel
theorem dX6_isName_41 : decode cX6_isName 41 = .ok (.baload, 1) := by decide +kernel
theorem dX6_isName_42 : decode cX6_isName 42 = .ok (.aload_n 1, 1) := by decide +kernel
theorem dX6_isName_43 : decode cX6_isName 43 = .ok (.iload_n 2, 1) := by decide +kernel
theorem dX6_isName_44 : decode cX6_isName 44 = .ok (.invokevirtual 70, 3) := by decide +kernel
theorem dX6_isName_47 : decode cX6_isName 47 = .ok (.if_icmp .eq 5, 3) := by decide +kernel
theorem dX6_isName_50 : decode cX6_isName 50 = .ok (.iconst 0, 1) := by decide +kernel
theorem dX6_isName_51 : decode cX6_isName 51 = .ok (.ireturn, 1) := by decide +kernel
theorem dX6_isName_52 : decode cX6_isName 52 = .ok (.iinc 2 1, 3) := by decide +kernel
theorem dX6_isName_55 : decode cX6_isName 55 = .ok (.goto (-32), 3) := by decide +kernel
theorem dX6_isName_58 : decode cX6_isName 58 = .ok (.iconst 1, 1) := by decide +kernel
theorem dX6_isName_59 : decode cX6_isName 59 = .ok (.ireturn, 1) := by decide +kernel
theorem dX6_letterAt_0 : decode cX6_letterAt 0 = .ok (.aload_n 0, 1) := by decide +kernel
theorem dX6_letterAt_1 : decode cX6_letterAt 1 = .ok (.getfield 9, 3) := by decide +kernel
theorem dX6_letterAt_4 : decode cX6_letterAt 4 = .ok (.aload_n 0, 1) := by decide +kernel
theorem dX6_letterAt_5 : decode cX6_letterAt 5 = .ok (.getfield 45, 3) := by decide +kernel
theorem dX6_letterAt_8 : decode cX6_letterAt 8 = .ok (.iload_n 1, 1) := by decide +kernel
theorem dX6_letterAt_9 : decode cX6_letterAt 9 = .ok (.iadd, 1) := by decide +kernel
theorem dX6_letterAt_10 : decode cX6_letterAt 10 = .ok (.baload, 1) := by decide +kernel
theorem dX6_letterAt_11 : decode cX6_letterAt 11 = .ok (.bipush 97, 2) := by decide +kernel
theorem dX6_letterAt_13 : decode cX6_letterAt 13 = .ok (.isub, 1) := by decide +kernel
theorem dX6_letterAt_14 : decode cX6_letterAt 14 = .ok (.ireturn, 1) := by decide +kernel
theorem dX6_takeName_0 : decode cX6_takeName 0 = .ok (.aload_n 0, 1) := by decide +kernel
theorem dX6_takeName_1 : decode cX6_takeName 1 = .ok (.aload_n 1, 1) := by decide +kernel
theorem dX6_takeName_2 : decode cX6_takeName 2 = .ok (.invokevirtual 74, 3) := by decide +kernel
theorem dX6_takeName_5 : decode cX6_takeName 5 = .ok (.ifCond .ne 9, 3) := by decide +kernel
theorem dX6_takeName_8 : decode cX6_takeName 8 = .ok (.aload_n 0, 1) := by decide +kernel
theorem dX6_takeName_9 : decode cX6_takeName 9 = .ok (.iconst 1, 1) := by decide +kernel
theorem dX6_takeName_10 : decode cX6_takeName 10 = .ok (.invokevirtual 61, 3) := by decide +kernel
theorem dX6_takeName_13 : decode cX6_takeName 13 = .ok (.ireturn, 1) := by decide +kernel
theorem dX6_takeName_14 : decode cX6_takeName 14 = .ok (.aload_n 0, 1) := by decide +kernel
theorem dX6_takeName_15 : decode cX6_takeName 15 = .ok (.invokevirtual 51, 3) := by decide +kernel
theorem dX6_takeName_18 : decode cX6_takeName 18 = .ok (.iconst 1, 1) := by decide +kernel
theorem dX6_takeName_19 : decode cX6_takeName 19 = .ok (.ireturn, 1) := by decide +kernel
theorem dX6_takeOneOf_0 : decode cX6_takeOneOf 0 = .ok (.aload_n 0, 1) := by decide +kernel
theorem dX6_takeOneOf_1 : decode cX6_takeOneOf 1 = .ok (.aload_n 1, 1) := by decide +kernel
theorem dX6_takeOneOf_2 : decode cX6_takeOneOf 2 = .ok (.invokevirtual 74, 3) := by decide +kernel
theorem dX6_takeOneOf_5 : decode cX6_takeOneOf 5 = .ok (.ifCond .ne 17, 3) := by decide +kernel
theorem dX6_takeOneOf_8 : decode cX6_takeOneOf 8 = .ok (.aload_n 0, 1) := by decide +kernel
theorem dX6_takeOneOf_9 : decode cX6_takeOneOf 9 = .ok (.aload_n 2, 1) := by decide +kernel
theorem dX6_takeOneOf_10 : decode cX6_takeOneOf 10 = .ok (.invokevirtual 74, 3) := by decide +kernel
theorem dX6_takeOneOf_13 : decode cX6_takeOneOf 13 = .ok (.ifCond .ne 9, 3) := by decide +kernel
theorem dX6_takeOneOf_16 : decode cX6_takeOneOf 16 = .ok (.aload_n 0, 1) := by decide +kernel
theorem dX6_takeOneOf_17 : decode cX6_takeOneOf 17 = .ok (.iconst 1, 1) := by decide +kernel
theorem dX6_takeOneOf_18 : decode cX6_takeOneOf 18 = .ok (.invokevirtual 61, 3) := by decide +kernel
theorem dX6_takeOneOf_21 : decode cX6_takeOneOf 21 = .ok (.ireturn, 1) := by decide +kernel
theorem dX6_takeOneOf_22 : decode cX6_takeOneOf 22 = .ok (.aload_n 0, 1) := by decide +kernel
theorem dX6_takeOneOf_23 : decode cX6_takeOneOf 23 = .ok (.aload_n 0, 1) := by decide +kernel
theorem dX6_takeOneOf_24 : decode cX6_takeOneOf 24 = .ok (.aload_n 1, 1) := by decide +kernel
theorem dX6_takeOneOf_25 : decode cX6_takeOneOf 25 = .ok (.invokevirtual 74, 3) := by decide +kernel
theorem dX6_takeOneOf_28 : decode cX6_takeOneOf 28 = .ok (.ifCond .eq 7, 3) := by decide +kernel
theorem dX6_takeOneOf_31 : decode cX6_takeOneOf 31 = .ok (.iconst 0, 1) := by decide +kernel
theorem dX6_takeOneOf_32 : decode cX6_takeOneOf 32 = .ok (.goto 4, 3) := by decide +kernel
theorem dX6_takeOneOf_35 : decode cX6_takeOneOf 35 = .ok (.iconst 1, 1) := by decide +kernel
theorem dX6_takeOneOf_36 : decode cX6_takeOneOf 36 = .ok (.putfield 78, 3) := by decide +kernel
theorem dX6_takeOneOf_39 : decode cX6_takeOneOf 39 = .ok (.aload_n 0, 1) := by decide +kernel
theorem dX6_takeOneOf_40 : decode cX6_takeOneOf 40 = .ok (.invokevirtual 51, 3) := by decide +kernel
theorem dX6_takeOneOf_43 : decode cX6_takeOneOf 43 = .ok (.iconst 1, 1) := by decide +kernel
theorem dX6_takeOneOf_44 : decode cX6_takeOneOf 44 = .ok (.ireturn, 1) := by decide +kernel
theorem dX6_isWholeWithin_0 : decode cX6_isWholeWithin 0 = .ok (.aload_n 0, 1) := by decide +kernel
theorem dX6_isWholeWithin_1 : decode cX6_isWholeWithin 1 = .ok (.getfield 58, 3) := by decide +kernel
theorem dX6_isWholeWithin_4 : decode cX6_isWholeWithin 4 = .ok (.iconst 2, 1) := by decide +kernel
theorem dX6_isWholeWithin_5 : decode cX6_isWholeWithin 5 = .ok (.if_icmp .eq 9, 3) := by decide +kernel
theorem dX6_isWholeWithin_8 : decode cX6_isWholeWithin 8 = .ok (.aload_n 0, 1) := by decide +kernel
theorem dX6_isWholeWithin_9 : decode cX6_isWholeWithin 9 = .ok (.iconst 1, 1) := by decide +kernel
theorem dX6_isWholeWithin_10 : decode cX6_isWholeWithin 10 = .ok (.invokevirtual 61, 3) := by decide +kernel
theorem dX6_isWholeWithin_13 : decode cX6_isWholeWithin 13 = .ok (.ireturn, 1) := by decide +kernel
theorem dX6_isWholeWithin_14 : decode cX6_isWholeWithin 14 = .ok (.aload_n 0, 1) := by decide +kernel
theorem dX6_isWholeWithin_15 : decode cX6_isWholeWithin 15 = .ok (.iconst 0, 1) := by decide +kernel
theorem dX6_isWholeWithin_16 : decode cX6_isWholeWithin 16 = .ok (.putfield 78, 3) := by decide +kernel
theorem dX6_isWholeWithin_19 : decode cX6_isWholeWithin 19 = .ok (.iconst 0, 1) := by decide +kernel
theorem dX6_isWholeWithin_20 : decode cX6_isWholeWithin 20 = .ok (.istore_n 3, 1) := by decide +kernel
theorem dX6_isWholeWithin_21 : decode cX6_isWholeWithin 21 = .ok (.iload_n 3, 1) := by decide +kernel
theorem dX6_isWholeWithin_22 : decode cX6_isWholeWithin 22 = .ok (.aload_n 0, 1) := by decide +kernel
theorem dX6_isWholeWithin_23 : decode cX6_isWholeWithin 23 = .ok (.getfield 48, 3) := by decide +kernel
theorem dX6_isWholeWithin_26 : decode cX6_isWholeWithin 26 = .ok (.if_icmp .ge 35, 3) := by decide +kernel
theorem dX6_isWholeWithin_29 : decode cX6_isWholeWithin 29 = .ok (.aload_n 0, 1) := by decide +kernel
theorem dX6_isWholeWithin_30 : decode cX6_isWholeWithin 30 = .ok (.bipush 10, 2) := by decide +kernel
theorem dX6_isWholeWithin_32 : decode cX6_isWholeWithin 32 = .ok (.aload_n 0, 1) := by decide +kernel
theorem dX6_isWholeWithin_33 : decode cX6_isWholeWithin 33 = .ok (.getfield 78, 3) := by decide +kernel
theorem dX6_isWholeWithin_36 : decode cX6_isWholeWithin 36 = .ok (.imul, 1) := by decide +kernel
theorem dX6_isWholeWithin_37 : decode cX6_isWholeWithin 37 = .ok (.aload_n 0, 1) := by decide +kernel
theorem dX6_isWholeWithin_38 : decode cX6_isWholeWithin 38 = .ok (.getfield 9, 3) := by decide +kernel
theorem dX6_isWholeWithin_41 : decode cX6_isWholeWithin 41 = .ok (.aload_n 0, 1) := by decide +kernel
theorem dX6_isWholeWithin_42 : decode cX6_isWholeWithin 42 = .ok (.getfield 45, 3) := by decide +kernel
theorem dX6_isWholeWithin_45 : decode cX6_isWholeWithin 45 = .ok (.iload_n 3, 1) := by decide +kernel
theorem dX6_isWholeWithin_46 : decode cX6_isWholeWithin 46 = .ok (.iadd, 1) := by decide +kernel
theorem dX6_isWholeWithin_47 : decode cX6_isWholeWithin 47 = .ok (.baload, 1) := by decide +kernel
theorem dX6_isWholeWithin_48 : decode cX6_isWholeWithin 48 = .ok (.iadd, 1) := by decide +kernel
theorem dX6_isWholeWithin_49 : decode cX6_isWholeWithin 49 = .ok (.bipush 48, 2) := by decide +kernel
theorem dX6_isWholeWithin_51 : decode cX6_isWholeWithin 51 = .ok (.isub, 1) := by decide +kernel
theorem dX6_isWholeWithin_52 : decode cX6_isWholeWithin 52 = .ok (.putfield 78, 3) := by decide +kernel
theorem dX6_isWholeWithin_55 : decode cX6_isWholeWithin 55 = .ok (.iinc 3 1, 3) := by decide +kernel
theorem dX6_isWholeWithin_58 : decode cX6_isWholeWithin 58 = .ok (.goto (-37), 3) := by decide +kernel
theorem dX6_isWholeWithin_61 : decode cX6_isWholeWithin 61 = .ok (.aload_n 0, 1) := by decide +kernel
theorem dX6_isWholeWithin_62 : decode cX6_isWholeWithin 62 = .ok (.getfield 78, 3) := by decide +kernel
theorem dX6_isWholeWithin_65 : decode cX6_isWholeWithin 65 = .ok (.iload_n 1, 1) := by decide +kernel
theorem dX6_isWholeWithin_66 : decode cX6_isWholeWithin 66 = .ok (.if_icmp .lt 11, 3) := by decide +kernel
theorem dX6_isWholeWithin_69 : decode cX6_isWholeWithin 69 = .ok (.aload_n 0, 1) := by decide +kernel
theorem dX6_isWholeWithin_70 : decode cX6_isWholeWithin 70 = .ok (.getfield 78, 3) := by decide +kernel
theorem dX6_isWholeWithin_73 : decode cX6_isWholeWithin 73 = .ok (.iload_n 2, 1) := by decide +kernel
theorem dX6_isWholeWithin_74 : decode cX6_isWholeWithin 74 = .ok (.if_icmp .le 11, 3) := by decide +kernel
theorem dX6_isWholeWithin_77 : decode cX6_isWholeWithin 77 = .ok (.aload_n 0, 1) := by decide +kernel
theorem dX6_isWholeWithin_78 : decode cX6_isWholeWithin 78 = .ok (.iconst 4, 1) := by decide +kernel
theorem dX6_isWholeWithin_79 : decode cX6_isWholeWithin 79 = .ok (.invokevirtual 61, 3) := by decide +kernel
theorem dX6_isWholeWithin_82 : decode cX6_isWholeWithin 82 = .ok (.ifCond .eq 7, 3) := by decide +kernel
theorem dX6_isWholeWithin_85 : decode cX6_isWholeWithin 85 = .ok (.iconst 1, 1) := by decide +kernel
theorem dX6_isWholeWithin_86 : decode cX6_isWholeWithin 86 = .ok (.goto 4, 3) := by decide +kernel
theorem dX6_isWholeWithin_89 : decode cX6_isWholeWithin 89 = .ok (.iconst 0, 1) := by decide +kernel
theorem dX6_isWholeWithin_90 : decode cX6_isWholeWithin 90 = .ok (.ireturn, 1) := by decide +kernel
theorem dX6_takeWhole_0 : decode cX6_takeWhole 0 = .ok (.aload_n 0, 1) := by decide +kernel
theorem dX6_takeWhole_1 : decode cX6_takeWhole 1 = .ok (.iload_n 1, 1) := by decide +kernel
theorem dX6_takeWhole_2 : decode cX6_takeWhole 2 = .ok (.iload_n 2, 1) := by decide +kernel
theorem dX6_takeWhole_3 : decode cX6_takeWhole 3 = .ok (.invokevirtual 81, 3) := by decide +kernel
theorem dX6_takeWhole_6 : decode cX6_takeWhole 6 = .ok (.ifCond .ne 5, 3) := by decide +kernel
theorem dX6_takeWhole_9 : decode cX6_takeWhole 9 = .ok (.iconst 0, 1) := by decide +kernel
theorem dX6_takeWhole_10 : decode cX6_takeWhole 10 = .ok (.ireturn, 1) := by decide +kernel
theorem dX6_takeWhole_11 : decode cX6_takeWhole 11 = .ok (.aload_n 0, 1) := by decide +kernel
theorem dX6_takeWhole_12 : decode cX6_takeWhole 12 = .ok (.invokevirtual 51, 3) := by decide +kernel
theorem dX6_takeWhole_15 : decode cX6_takeWhole 15 = .ok (.iconst 1, 1) := by decide +kernel
theorem dX6_takeWhole_16 : decode cX6_takeWhole 16 = .ok (.ireturn, 1) := by decide +kernel
theorem dX6_copyWord_0 : decode cX6_copyWord 0 = .ok (.aload_n 0, 1) := by decide +kernel
theorem dX6_copyWord_1 : decode cX6_copyWord 1 = .ok (.getfield 58, 3) := by decide +kernel
theorem dX6_copyWord_4 : decode cX6_copyWord 4 = .ok (.iconst 1, 1) := by decide +kernel
theorem dX6_copyWord_5 : decode cX6_copyWord 5 = .ok (.if_icmp .eq 9, 3) := by decide +kernel
theorem dX6_copyWord_8 : decode cX6_copyWord 8 = .ok (.aload_n 0, 1) := by decide +kernel
theorem dX6_copyWord_9 : decode cX6_copyWord 9 = .ok (.iconst 1, 1) := by decide +kernel
theorem dX6_copyWord_10 : decode cX6_copyWord 10 = .ok (.invokevirtual 61, 3) := by decide +kernel
theorem dX6_copyWord_13 : decode cX6_copyWord 13 = .ok (.ireturn, 1) := by decide +kernel
theorem dX6_copyWord_14 : decode cX6_copyWord 14 = .ok (.aload_n 1, 1) := by decide +kernel
theorem dX6_copyWord_15 : decode cX6_copyWord 15 = .ok (.aload_n 0, 1) := by decide +kernel
theorem dX6_copyWord_16 : decode cX6_copyWord 16 = .ok (.getfield 48, 3) := by decide +kernel
theorem dX6_copyWord_19 : decode cX6_copyWord 19 = .ok (.aload_n 1, 1) := by decide +kernel
theorem dX6_copyWord_20 : decode cX6_copyWord 20 = .ok (.getfield 85, 3) := by decide +kernel
theorem dX6_copyWord_23 : decode cX6_copyWord 23 = .ok (.arraylength, 1) := by decide +kernel
theorem dX6_copyWord_24 : decode cX6_copyWord 24 = .ok (.invokestatic 26, 3) := by decide +kernel
theorem dX6_copyWord_27 : decode cX6_copyWord 27 = .ok (.putfield 91, 3) := by decide +kernel
theorem dX6_copyWord_30 : decode cX6_copyWord 30 = .ok (.iconst 0, 1) := by decide +kernel
theorem dX6_copyWord_31 : decode cX6_copyWord 31 = .ok (.istore_n 2, 1) := by decide +kernel
theorem dX6_copyWord_32 : decode cX6_copyWord 32 = .ok (.iload_n 2, 1) := by decide +kernel
theorem dX6_copyWord_33 : decode cX6_copyWord 33 = .ok (.aload_n 1, 1) := by decide +kernel
theorem dX6_copyWord_34 : decode cX6_copyWord 34 = .ok (.getfield 91, 3) := by decide +kernel
theorem dX6_copyWord_37 : decode cX6_copyWord 37 = .ok (.if_icmp .ge 20, 3) := by decide +kernel
theorem dX6_copyWord_40 : decode cX6_copyWord 40 = .ok (.aload_n 1, 1) := by decide +kernel
theorem dX6_copyWord_41 : decode cX6_copyWord 41 = .ok (.getfield 85, 3) := by decide +kernel
theorem dX6_copyWord_44 : decode cX6_copyWord 44 = .ok (.iload_n 2, 1) := by decide +kernel
theorem dX6_copyWord_45 : decode cX6_copyWord 45 = .ok (.aload_n 0, 1) := by decide +kernel
theorem dX6_copyWord_46 : decode cX6_copyWord 46 = .ok (.iload_n 2, 1) := by decide +kernel
theorem dX6_copyWord_47 : decode cX6_copyWord 47 = .ok (.invokevirtual 92, 3) := by decide +kernel
theorem dX6_copyWord_50 : decode cX6_copyWord 50 = .ok (.iastore, 1) := by decide +kernel
theorem dX6_copyWord_51 : decode cX6_copyWord 51 = .ok (.iinc 2 1, 3) := by decide +kernel
theorem dX6_copyWord_54 : decode cX6_copyWord 54 = .ok (.goto (-22), 3) := by decide +kernel
theorem dX6_copyWord_57 : decode cX6_copyWord 57 = .ok (.iconst 1, 1) := by decide +kernel
theorem dX6_copyWord_58 : decode cX6_copyWord 58 = .ok (.ireturn, 1) := by decide +kernel
theorem dX6_readLine_0 : decode cX6_readLine 0 = .ok (.aload_n 0, 1) := by decide +kernel
theorem dX6_readLine_1 : decode cX6_readLine 1 = .ok (.ldc 96, 2) := by decide +kernel
theorem dX6_readLine_3 : decode cX6_readLine 3 = .ok (.invokevirtual 74, 3) := by decide +kernel
theorem dX6_readLine_6 : decode cX6_readLine 6 = .ok (.ifCond .eq 8, 3) := by decide +kernel
theorem dX6_readLine_9 : decode cX6_readLine 9 = .ok (.aload_n 0, 1) := by decide +kernel
theorem dX6_readLine_10 : decode cX6_readLine 10 = .ok (.invokevirtual 97, 3) := by decide +kernel
theorem dX6_readLine_13 : decode cX6_readLine 13 = .ok (.ireturn, 1) := by decide +kernel
theorem dX6_readLine_14 : decode cX6_readLine 14 = .ok (.aload_n 0, 1) := by decide +kernel
theorem dX6_readLine_15 : decode cX6_readLine 15 = .ok (.ldc 100, 2) := by decide +kernel
theorem dX6_readLine_17 : decode cX6_readLine 17 = .ok (.invokevirtual 74, 3) := by decide +kernel
theorem dX6_readLine_20 : decode cX6_readLine 20 = .ok (.ifCond .ne 39, 3) := by decide +kernel
theorem dX6_readLine_23 : decode cX6_readLine 23 = .ok (.aload_n 0, 1) := by decide +kernel
theorem dX6_readLine_24 : decode cX6_readLine 24 = .ok (.ldc 102, 2) := by decide +kernel
theorem dX6_readLine_26 : decode cX6_readLine 26 = .ok (.invokevirtual 74, 3) := by decide +kernel
theorem dX6_readLine_29 : decode cX6_readLine 29 = .ok (.ifCond .ne 30, 3) := by decide +kernel
theorem dX6_readLine_32 : decode cX6_readLine 32 = .ok (.aload_n 0, 1) := by decide +kernel
theorem dX6_readLine_33 : decode cX6_readLine 33 = .ok (.ldc 104, 2) := by decide +kernel
theorem dX6_readLine_35 : decode cX6_readLine 35 = .ok (.invokevirtual 74, 3) := by decide +kernel
theorem dX6_readLine_38 : decode cX6_readLine 38 = .ok (.ifCond .ne 21, 3) := by decide +kernel
theorem dX6_readLine_41 : decode cX6_readLine 41 = .ok (.aload_n 0, 1) := by decide +kernel
theorem dX6_readLine_42 : decode cX6_readLine 42 = .ok (.ldc 106, 2) := by decide +kernel
theorem dX6_readLine_44 : decode cX6_readLine 44 = .ok (.invokevirtual 74, 3) := by decide +kernel
theorem dX6_readLine_47 : decode cX6_readLine 47 = .ok (.ifCond .ne 12, 3) := by decide +kernel
theorem dX6_readLine_50 : decode cX6_readLine 50 = .ok (.aload_n 0, 1) := by decide +kernel
theorem dX6_readLine_51 : decode cX6_readLine 51 = .ok (.ldc 108, 2) := by decide +kernel
theorem dX6_readLine_53 : decode cX6_readLine 53 = .ok (.invokevirtual 74, 3) := by decide +kernel
theorem dX6_readLine_56 : decode cX6_readLine 56 = .ok (.ifCond .eq 7, 3) := by decide +kernel
theorem dX6_readLine_59 : decode cX6_readLine 59 = .ok (.iconst 1, 1) := by decide +kernel
theorem dX6_readLine_60 : decode cX6_readLine 60 = .ok (.goto 4, 3) := by decide +kernel
theorem dX6_readLine_63 : decode cX6_readLine 63 = .ok (.iconst 0, 1) := by decide +kernel
theorem dX6_readLine_64 : decode cX6_readLine 64 = .ok (.istore_n 1, 1) := by decide +kernel
theorem dX6_readLine_65 : decode cX6_readLine 65 = .ok (.iload_n 1, 1) := by decide +kernel
theorem dX6_readLine_66 : decode cX6_readLine 66 = .ok (.ifCond .ne 9, 3) := by decide +kernel
theorem dX6_readLine_69 : decode cX6_readLine 69 = .ok (.aload_n 0, 1) := by decide +kernel
theorem dX6_readLine_70 : decode cX6_readLine 70 = .ok (.iconst 1, 1) := by decide +kernel
theorem dX6_readLine_71 : decode cX6_readLine 71 = .ok (.invokevirtual 61, 3) := by decide +kernel
theorem dX6_readLine_74 : decode cX6_readLine 74 = .ok (.ireturn, 1) := by decide +kernel
theorem dX6_readLine_75 : decode cX6_readLine 75 = .ok (.aload_n 0, 1) := by decide +kernel
theorem dX6_readLine_76 : decode cX6_readLine 76 = .ok (.getfield 38, 3) := by decide +kernel
theorem dX6_readLine_79 : decode cX6_readLine 79 = .ok (.ifCond .ne 10, 3) := by decide +kernel
theorem dX6_readLine_82 : decode cX6_readLine 82 = .ok (.aload_n 0, 1) := by decide +kernel
theorem dX6_readLine_83 : decode cX6_readLine 83 = .ok (.bipush 6, 2) := by decide +kernel
theorem dX6_readLine_85 : decode cX6_readLine 85 = .ok (.invokevirtual 61, 3) := by decide +kernel
theorem dX6_readLine_88 : decode cX6_readLine 88 = .ok (.ireturn, 1) := by decide +kernel
theorem dX6_readLine_89 : decode cX6_readLine 89 = .ok (.aload_n 0, 1) := by decide +kernel
theorem dX6_readLine_90 : decode cX6_readLine 90 = .ok (.ldc 100, 2) := by decide +kernel
theorem dX6_readLine_92 : decode cX6_readLine 92 = .ok (.invokevirtual 74, 3) := by decide +kernel
theorem dX6_readLine_95 : decode cX6_readLine 95 = .ok (.ifCond .eq 8, 3) := by decide +kernel
theorem dX6_readLine_98 : decode cX6_readLine 98 = .ok (.aload_n 0, 1) := by decide +kernel
theorem dX6_readLine_99 : decode cX6_readLine 99 = .ok (.invokevirtual 110, 3) := by decide +kernel
theorem dX6_readLine_102 : decode cX6_readLine 102 = .ok (.ireturn, 1) := by decide +kernel
theorem dX6_readLine_103 : decode cX6_readLine 103 = .ok (.aload_n 0, 1) := by decide +kernel
theorem dX6_readLine_104 : decode cX6_readLine 104 = .ok (.ldc 102, 2) := by decide +kernel
theorem dX6_readLine_106 : decode cX6_readLine 106 = .ok (.invokevirtual 74, 3) := by decide +kernel
theorem dX6_readLine_109 : decode cX6_readLine 109 = .ok (.ifCond .eq 8, 3) := by decide +kernel
theorem dX6_readLine_112 : decode cX6_readLine 112 = .ok (.aload_n 0, 1) := by decide +kernel
theorem dX6_readLine_113 : decode cX6_readLine 113 = .ok (.invokevirtual 113, 3) := by decide +kernel
theorem dX6_readLine_116 : decode cX6_readLine 116 = .ok (.ireturn, 1) := by decide +kernel
theorem dX6_readLine_117 : decode cX6_readLine 117 = .ok (.aload_n 0, 1) := by decide +kernel
theorem dX6_readLine_118 : decode cX6_readLine 118 = .ok (.ldc 104, 2) := by decide +kernel
theorem dX6_readLine_120 : decode cX6_readLine 120 = .ok (.invokevirtual 74, 3) := by decide +kernel
theorem dX6_readLine_123 : decode cX6_readLine 123 = .ok (.ifCond .eq 8, 3) := by decide +kernel
theorem dX6_readLine_126 : decode cX6_readLine 126 = .ok (.aload_n 0, 1) := by decide +kernel
theorem dX6_readLine_127 : decode cX6_readLine 127 = .ok (.invokevirtual 116, 3) := by decide +kernel
theorem dX6_readLine_130 : decode cX6_readLine 130 = .ok (.ireturn, 1) := by decide +kernel
theorem dX6_readLine_131 : decode cX6_readLine 131 = .ok (.aload_n 0, 1) := by decide +kernel
theorem dX6_readLine_132 : decode cX6_readLine 132 = .ok (.ldc 106, 2) := by decide +kernel
theorem dX6_readLine_134 : decode cX6_readLine 134 = .ok (.invokevirtual 74, 3) := by decide +kernel
theorem dX6_readLine_137 : decode cX6_readLine 137 = .ok (.ifCond .eq 10, 3) := by decide +kernel
theorem dX6_readLine_140 : decode cX6_readLine 140 = .ok (.aload_n 0, 1) := by decide +kernel
theorem dX6_readLine_141 : decode cX6_readLine 141 = .ok (.invokevirtual 119, 3) := by decide +kernel
theorem dX6_readLine_144 : decode cX6_readLine 144 = .ok (.goto 7, 3) := by decide +kernel
theorem dX6_readLine_147 : decode cX6_readLine 147 = .ok (.aload_n 0, 1) := by decide +kernel
theorem dX6_readLine_148 : decode cX6_readLine 148 = .ok (.invokevirtual 122, 3) := by decide +kernel
theorem dX6_readLine_151 : decode cX6_readLine 151 = .ok (.ireturn, 1) := by decide +kernel
theorem dX6_readFanLine_0 : decode cX6_readFanLine 0 = .ok (.aload_n 0, 1) := by decide +kernel
theorem dX6_readFanLine_1 : decode cX6_readFanLine 1 = .ok (.getfield 38, 3) := by decide +kernel
theorem dX6_readFanLine_4 : decode cX6_readFanLine 4 = .ok (.ifCond .eq 9, 3) := by decide +kernel
theorem dX6_readFanLine_7 : decode cX6_readFanLine 7 = .ok (.aload_n 0, 1) := by decide +kernel
theorem dX6_readFanLine_8 : decode cX6_readFanLine 8 = .ok (.iconst 3, 1) := by decide +kernel
theorem dX6_readFanLine_9 : decode cX6_readFanLine 9 = .ok (.invokevirtual 61, 3) := by decide +kernel
theorem dX6_readFanLine_12 : decode cX6_readFanLine 12 = .ok (.ireturn, 1) := by decide +kernel
theorem dX6_readFanLine_13 : decode cX6_readFanLine 13 = .ok (.aload_n 0, 1) := by decide +kernel
theorem dX6_readFanLine_14 : decode cX6_readFanLine 14 = .ok (.iconst 1, 1) := by decide +kernel
theorem dX6_readFanLine_15 : decode cX6_readFanLine 15 = .ok (.putfield 38, 3) := by decide +kernel
theorem dX6_readFanLine_18 : decode cX6_readFanLine 18 = .ok (.aload_n 0, 1) := by decide +kernel
theorem dX6_readFanLine_19 : decode cX6_readFanLine 19 = .ok (.invokevirtual 51, 3) := by decide +kernel
theorem dX6_readFanLine_22 : decode cX6_readFanLine 22 = .ok (.aload_n 0, 1) := by decide +kernel
theorem dX6_readFanLine_23 : decode cX6_readFanLine 23 = .ok (.ldc 125, 2) := by decide +kernel
theorem dX6_readFanLine_25 : decode cX6_readFanLine 25 = .ok (.invokevirtual 127, 3) := by decide +kernel
theorem dX6_readFanLine_28 : decode cX6_readFanLine 28 = .ok (.ifCond .eq 13, 3) := by decide +kernel
theorem dX6_readFanLine_31 : decode cX6_readFanLine 31 = .ok (.aload_n 0, 1) := by decide +kernel
theorem dX6_readFanLine_32 : decode cX6_readFanLine 32 = .ok (.iconst 2, 1) := by decide +kernel
theorem dX6_readFanLine_33 : decode cX6_readFanLine 33 = .ok (.bipush 10, 2) := by decide +kernel
theorem dX6_readFanLine_35 : decode cX6_readFanLine 35 = .ok (.invokevirtual 130, 3) := by decide +kernel
theorem dX6_readFanLine_38 : decode cX6_readFanLine 38 = .ok (.ifCond .ne 5, 3) := by decide +kernel
theorem dX6_readFanLine_41 : decode cX6_readFanLine 41 = .ok (.iconst 0, 1) := by decide +kernel
theorem dX6_readFanLine_42 : decode cX6_readFanLine 42 = .ok (.ireturn, 1) := by decide +kernel
theorem dX6_readFanLine_43 : decode cX6_readFanLine 43 = .ok (.aload_n 0, 1) := by decide +kernel
theorem dX6_readFanLine_44 : decode cX6_readFanLine 44 = .ok (.getfield 18, 3) := by decide +kernel
theorem dX6_readFanLine_47 : decode cX6_readFanLine 47 = .ok (.aload_n 0, 1) := by decide +kernel
theorem dX6_readFanLine_48 : decode cX6_readFanLine 48 = .ok (.getfield 78, 3) := by decide +kernel
theorem dX6_readFanLine_51 : decode cX6_readFanLine 51 = .ok (.putfield 133, 3) := by decide +kernel
theorem dX6_readFanLine_54 : decode cX6_readFanLine 54 = .ok (.aload_n 0, 1) := by decide +kernel
theorem dX6_readFanLine_55 : decode cX6_readFanLine 55 = .ok (.ldc 136, 2) := by decide +kernel
theorem dX6_readFanLine_57 : decode cX6_readFanLine 57 = .ok (.invokevirtual 127, 3) := by decide +kernel
theorem dX6_readFanLine_60 : decode cX6_readFanLine 60 = .ok (.ifCond .eq 12, 3) := by decide +kernel
theorem dX6_readFanLine_63 : decode cX6_readFanLine 63 = .ok (.aload_n 0, 1) := by decide +kernel
theorem dX6_readFanLine_64 : decode cX6_readFanLine 64 = .ok (.iconst 1, 1) := by decide +kernel
theorem dX6_readFanLine_65 : decode cX6_readFanLine 65 = .ok (.iconst 3, 1) := by decide +kernel
theorem dX6_readFanLine_66 : decode cX6_readFanLine 66 = .ok (.invokevirtual 130, 3) := by decide +kernel
theorem dX6_readFanLine_69 : decode cX6_readFanLine 69 = .ok (.ifCond .ne 5, 3) := by decide +kernel
theorem dX6_readFanLine_72 : decode cX6_readFanLine 72 = .ok (.iconst 0, 1) := by decide +kernel
theorem dX6_readFanLine_73 : decode cX6_readFanLine 73 = .ok (.ireturn, 1) := by decide +kernel
theorem dX6_readFanLine_74 : decode cX6_readFanLine 74 = .ok (.aload_n 0, 1) := by decide +kernel
theorem dX6_readFanLine_75 : decode cX6_readFanLine 75 = .ok (.getfield 18, 3) := by decide +kernel
theorem dX6_readFanLine_78 : decode cX6_readFanLine 78 = .ok (.aload_n 0, 1) := by decide +kernel
theorem dX6_readFanLine_79 : decode cX6_readFanLine 79 = .ok (.getfield 78, 3) := by decide +kernel
theorem dX6_readFanLine_82 : decode cX6_readFanLine 82 = .ok (.putfield 138, 3) := by decide +kernel
theorem dX6_readFanLine_85 : decode cX6_readFanLine 85 = .ok (.aload_n 0, 1) := by decide +kernel
theorem dX6_readFanLine_86 : decode cX6_readFanLine 86 = .ok (.ldc 140, 2) := by decide +kernel
theorem dX6_readFanLine_88 : decode cX6_readFanLine 88 = .ok (.invokevirtual 127, 3) := by decide +kernel
theorem dX6_readFanLine_91 : decode cX6_readFanLine 91 = .ok (.ifCond .eq 13, 3) := by decide +kernel
theorem dX6_readFanLine_94 : decode cX6_readFanLine 94 = .ok (.aload_n 0, 1) := by decide +kernel
theorem dX6_readFanLine_95 : decode cX6_readFanLine 95 = .ok (.iconst 0, 1) := by decide +kernel
theorem dX6_readFanLine_96 : decode cX6_readFanLine 96 = .ok (.bipush 99, 2) := by decide +kernel
theorem dX6_readFanLine_98 : decode cX6_readFanLine 98 = .ok (.invokevirtual 130, 3) := by decide +kernel
theorem dX6_readFanLine_101 : decode cX6_readFanLine 101 = .ok (.ifCond .ne 5, 3) := by decide +kernel
theorem dX6_readFanLine_104 : decode cX6_readFanLine 104 = .ok (.iconst 0, 1) := by decide +kernel
theorem dX6_readFanLine_105 : decode cX6_readFanLine 105 = .ok (.ireturn, 1) := by decide +kernel
theorem dX6_readFanLine_106 : decode cX6_readFanLine 106 = .ok (.aload_n 0, 1) := by decide +kernel
theorem dX6_readFanLine_107 : decode cX6_readFanLine 107 = .ok (.getfield 18, 3) := by decide +kernel
theorem dX6_readFanLine_110 : decode cX6_readFanLine 110 = .ok (.aload_n 0, 1) := by decide +kernel
theorem dX6_readFanLine_111 : decode cX6_readFanLine 111 = .ok (.getfield 78, 3) := by decide +kernel
theorem dX6_readFanLine_114 : decode cX6_readFanLine 114 = .ok (.putfield 142, 3) := by decide +kernel
theorem dX6_readFanLine_117 : decode cX6_readFanLine 117 = .ok (.aload_n 0, 1) := by decide +kernel
theorem dX6_readFanLine_118 : decode cX6_readFanLine 118 = .ok (.ldc 144, 2) := by decide +kernel
theorem dX6_readFanLine_120 : decode cX6_readFanLine 120 = .ok (.invokevirtual 127, 3) := by decide +kernel
theorem dX6_readFanLine_123 : decode cX6_readFanLine 123 = .ok (.ifCond .eq 14, 3) := by decide +kernel
theorem dX6_readFanLine_126 : decode cX6_readFanLine 126 = .ok (.aload_n 0, 1) := by decide +kernel
theorem dX6_readFanLine_127 : decode cX6_readFanLine 127 = .ok (.ldc 146, 2) := by decide +kernel
theorem dX6_readFanLine_129 : decode cX6_readFanLine 129 = .ok (.ldc 148, 2) := by decide +kernel
theorem dX6_readFanLine_131 : decode cX6_readFanLine 131 = .ok (.invokevirtual 150, 3) := by decide +kernel
theorem dX6_readFanLine_134 : decode cX6_readFanLine 134 = .ok (.ifCond .ne 5, 3) := by decide +kernel
theorem dX6_readFanLine_137 : decode cX6_readFanLine 137 = .ok (.iconst 0, 1) := by decide +kernel
theorem dX6_readFanLine_138 : decode cX6_readFanLine 138 = .ok (.ireturn, 1) := by decide +kernel
theorem dX6_readFanLine_139 : decode cX6_readFanLine 139 = .ok (.aload_n 0, 1) := by decide +kernel
theorem dX6_readFanLine_140 : decode cX6_readFanLine 140 = .ok (.getfield 18, 3) := by decide +kernel
theorem dX6_readFanLine_143 : decode cX6_readFanLine 143 = .ok (.aload_n 0, 1) := by decide +kernel
theorem dX6_readFanLine_144 : decode cX6_readFanLine 144 = .ok (.getfield 78, 3) := by decide +kernel
theorem dX6_readFanLine_147 : decode cX6_readFanLine 147 = .ok (.iconst 1, 1) := by decide +kernel
theorem dX6_readFanLine_148 : decode cX6_readFanLine 148 = .ok (.if_icmp .ne 7, 3) := by decide +kernel
theorem dX6_readFanLine_151 : decode cX6_readFanLine 151 = .ok (.iconst 1, 1) := by decide +kernel
theorem dX6_readFanLine_152 : decode cX6_readFanLine 152 = .ok (.goto 4, 3) := by decide +kernel
theorem dX6_readFanLine_155 : decode cX6_readFanLine 155 = .ok (.iconst 0, 1) := by decide +kernel
theorem dX6_readFanLine_156 : decode cX6_readFanLine 156 = .ok (.putfield 154, 3) := by decide +kernel
theorem dX6_readFanLine_159 : decode cX6_readFanLine 159 = .ok (.iconst 1, 1) := by decide +kernel
theorem dX6_readFanLine_160 : decode cX6_readFanLine 160 = .ok (.ireturn, 1) := by decide +kernel
theorem dX6_readRib_0 : decode cX6_readRib 0 = .ok (.aload_n 0, 1) := by decide +kernel
theorem dX6_readRib_1 : decode cX6_readRib 1 = .ok (.getfield 18, 3) := by decide +kernel
theorem dX6_readRib_4 : decode cX6_readRib 4 = .ok (.getfield 156, 3) := by decide +kernel
theorem dX6_readRib_7 : decode cX6_readRib 7 = .ok (.aload_n 0, 1) := by decide +kernel
theorem dX6_readRib_8 : decode cX6_readRib 8 = .ok (.getfield 18, 3) := by decide +kernel
theorem dX6_readRib_11 : decode cX6_readRib 11 = .ok (.getfield 133, 3) := by decide +kernel
theorem dX6_readRib_14 : decode cX6_readRib 14 = .ok (.if_icmp .lt 9, 3) := by decide +kernel
theorem dX6_readRib_17 : decode cX6_readRib 17 = .ok (.aload_n 0, 1) := by decide +kernel
theorem dX6_readRib_18 : decode cX6_readRib 18 = .ok (.iconst 5, 1) := by decide +kernel
theorem dX6_readRib_19 : decode cX6_readRib 19 = .ok (.invokevirtual 61, 3) := by decide +kernel
theorem dX6_readRib_22 : decode cX6_readRib 22 = .ok (.ireturn, 1) := by decide +kernel
theorem dX6_readRib_23 : decode cX6_readRib 23 = .ok (.aload_n 0, 1) := by decide +kernel
theorem dX6_readRib_24 : decode cX6_readRib 24 = .ok (.invokevirtual 51, 3) := by decide +kernel
theorem dX6_readRib_27 : decode cX6_readRib 27 = .ok (.aload_n 0, 1) := by decide +kernel
theorem dX6_readRib_28 : decode cX6_readRib 28 = .ok (.iconst 0, 1) := by decide +kernel
theorem dX6_readRib_29 : decode cX6_readRib 29 = .ok (.invokevirtual 159, 3) := by decide +kernel
theorem dX6_readRib_32 : decode cX6_readRib 32 = .ok (.ifCond .eq 11, 3) := by decide +kernel
theorem dX6_readRib_35 : decode cX6_readRib 35 = .ok (.aload_n 0, 1) := by decide +kernel
theorem dX6_readRib_36 : decode cX6_readRib 36 = .ok (.iconst 1, 1) := by decide +kernel
theorem dX6_readRib_37 : decode cX6_readRib 37 = .ok (.invokevirtual 159, 3) := by decide +kernel
theorem dX6_readRib_40 : decode cX6_readRib 40 = .ok (.ifCond .ne 5, 3) := by decide +kernel
theorem dX6_readRib_43 : decode cX6_readRib 43 = .ok (.iconst 0, 1) := by decide +kernel
theorem dX6_readRib_44 : decode cX6_readRib 44 = .ok (.ireturn, 1) := by decide +kernel
theorem dX6_readRib_45 : decode cX6_readRib 45 = .ok (.aload_n 0, 1) := by decide +kernel
theorem dX6_readRib_46 : decode cX6_readRib 46 = .ok (.ldc 162, 2) := by decide +kernel
theorem dX6_readRib_48 : decode cX6_readRib 48 = .ok (.invokevirtual 74, 3) := by decide +kernel
theorem dX6_readRib_51 : decode cX6_readRib 51 = .ok (.ifCond .eq 31, 3) := by decide +kernel
theorem dX6_readRib_54 : decode cX6_readRib 54 = .ok (.aload_n 0, 1) := by decide +kernel
theorem dX6_readRib_55 : decode cX6_readRib 55 = .ok (.getfield 18, 3) := by decide +kernel
theorem dX6_readRib_58 : decode cX6_readRib 58 = .ok (.getfield 164, 3) := by decide +kernel
theorem dX6_readRib_61 : decode cX6_readRib 61 = .ok (.dup, 1) := by decide +kernel
theorem dX6_readRib_62 : decode cX6_readRib 62 = .ok (.getfield 167, 3) := by decide +kernel
theorem dX6_readRib_65 : decode cX6_readRib 65 = .ok (.iconst 1, 1) := by decide +kernel
theorem dX6_readRib_66 : decode cX6_readRib 66 = .ok (.aload_n 0, 1) := by decide +kernel
theorem dX6_readRib_67 : decode cX6_readRib 67 = .ok (.getfield 18, 3) := by decide +kernel
theorem dX6_readRib_70 : decode cX6_readRib 70 = .ok (.getfield 156, 3) := by decide +kernel
theorem dX6_readRib_73 : decode cX6_readRib 73 = .ok (.ishl, 1) := by decide +kernel
theorem dX6_readRib_74 : decode cX6_readRib 74 = .ok (.ior, 1) := by decide +kernel
theorem dX6_readRib_75 : decode cX6_readRib 75 = .ok (.putfield 167, 3) := by decide +kernel
theorem dX6_readRib_78 : decode cX6_readRib 78 = .ok (.aload_n 0, 1) := by decide +kernel
theorem dX6_readRib_79 : decode cX6_readRib 79 = .ok (.invokevirtual 51, 3) := by decide +kernel
theorem dX6_readRib_82 : decode cX6_readRib 82 = .ok (.aload_n 0, 1) := by decide +kernel
theorem dX6_readRib_83 : decode cX6_readRib 83 = .ok (.getfield 18, 3) := by decide +kernel
theorem dX6_readRib_86 : decode cX6_readRib 86 = .ok (.dup, 1) := by decide +kernel
theorem dX6_readRib_87 : decode cX6_readRib 87 = .ok (.getfield 156, 3) := by decide +kernel
theorem dX6_readRib_90 : decode cX6_readRib 90 = .ok (.iconst 1, 1) := by decide +kernel
theorem dX6_readRib_91 : decode cX6_readRib 91 = .ok (.iadd, 1) := by decide +kernel
theorem dX6_readRib_92 : decode cX6_readRib 92 = .ok (.putfield 156, 3) := by decide +kernel
theorem dX6_readRib_95 : decode cX6_readRib 95 = .ok (.iconst 1, 1) := by decide +kernel
theorem dX6_readRib_96 : decode cX6_readRib 96 = .ok (.ireturn, 1) := by decide +kernel
theorem dX6_takeCells_0 : decode cX6_takeCells 0 = .ok (.aload_n 0, 1) := by decide +kernel
theorem dX6_takeCells_1 : decode cX6_takeCells 1 = .ok (.getfield 58, 3) := by decide +kernel
theorem dX6_takeCells_4 : decode cX6_takeCells 4 = .ok (.iconst 1, 1) := by decide +kernel
theorem dX6_takeCells_5 : decode cX6_takeCells 5 = .ok (.if_icmp .eq 9, 3) := by decide +kernel
theorem dX6_takeCells_8 : decode cX6_takeCells 8 = .ok (.aload_n 0, 1) := by decide +kernel
theorem dX6_takeCells_9 : decode cX6_takeCells 9 = .ok (.iconst 1, 1) := by decide +kernel
theorem dX6_takeCells_10 : decode cX6_takeCells 10 = .ok (.invokevirtual 61, 3) := by decide +kernel
theorem dX6_takeCells_13 : decode cX6_takeCells 13 = .ok (.ireturn, 1) := by decide +kernel
theorem dX6_takeCells_14 : decode cX6_takeCells 14 = .ok (.aload_n 0, 1) := by decide +kernel
theorem dX6_takeCells_15 : decode cX6_takeCells 15 = .ok (.getfield 48, 3) := by decide +kernel
theorem dX6_takeCells_18 : decode cX6_takeCells 18 = .ok (.aload_n 0, 1) := by decide +kernel
theorem dX6_takeCells_19 : decode cX6_takeCells 19 = .ok (.getfield 18, 3) := by decide +kernel
theorem dX6_takeCells_22 : decode cX6_takeCells 22 = .ok (.getfield 138, 3) := by decide +kernel
theorem dX6_takeCells_25 : decode cX6_takeCells 25 = .ok (.if_icmp .eq 9, 3) := by decide +kernel
theorem dX6_takeCells_28 : decode cX6_takeCells 28 = .ok (.aload_n 0, 1) := by decide +kernel
theorem dX6_takeCells_29 : decode cX6_takeCells 29 = .ok (.iconst 4, 1) := by decide +kernel
theorem dX6_takeCells_30 : decode cX6_takeCells 30 = .ok (.invokevirtual 61, 3) := by decide +kernel
theorem dX6_takeCells_33 : decode cX6_takeCells 33 = .ok (.ireturn, 1) := by decide +kernel
theorem dX6_takeCells_34 : decode cX6_takeCells 34 = .ok (.iconst 0, 1) := by decide +kernel
theorem dX6_takeCells_35 : decode cX6_takeCells 35 = .ok (.istore_n 2, 1) := by decide +kernel
theorem dX6_takeCells_36 : decode cX6_takeCells 36 = .ok (.iload_n 2, 1) := by decide +kernel
theorem dX6_takeCells_37 : decode cX6_takeCells 37 = .ok (.aload_n 0, 1) := by decide +kernel
theorem dX6_takeCells_38 : decode cX6_takeCells 38 = .ok (.getfield 48, 3) := by decide +kernel
theorem dX6_takeCells_41 : decode cX6_takeCells 41 = .ok (.if_icmp .ge 67, 3) := by decide +kernel
theorem dX6_takeCells_44 : decode cX6_takeCells 44 = .ok (.iload_n 1, 1) := by decide +kernel
theorem dX6_takeCells_45 : decode cX6_takeCells 45 = .ok (.aload_n 0, 1) := by decide +kernel
theorem dX6_takeCells_46 : decode cX6_takeCells 46 = .ok (.getfield 18, 3) := by decide +kernel
theorem dX6_takeCells_49 : decode cX6_takeCells 49 = .ok (.getfield 138, 3) := by decide +kernel
theorem dX6_takeCells_52 : decode cX6_takeCells 52 = .ok (.aload_n 0, 1) := by decide +kernel
theorem dX6_takeCells_53 : decode cX6_takeCells 53 = .ok (.getfield 18, 3) := by decide +kernel
theorem dX6_takeCells_56 : decode cX6_takeCells 56 = .ok (.getfield 156, 3) := by decide +kernel
theorem dX6_takeCells_59 : decode cX6_takeCells 59 = .ok (.imul, 1) := by decide +kernel
theorem dX6_takeCells_60 : decode cX6_takeCells 60 = .ok (.iload_n 2, 1) := by decide +kernel
theorem dX6_takeCells_61 : decode cX6_takeCells 61 = .ok (.iadd, 1) := by decide +kernel
theorem dX6_takeCells_62 : decode cX6_takeCells 62 = .ok (.invokestatic 172, 3) := by decide +kernel
theorem dX6_takeCells_65 : decode cX6_takeCells 65 = .ok (.istore_n 3, 1) := by decide +kernel
theorem dX6_takeCells_66 : decode cX6_takeCells 66 = .ok (.iload_n 3, 1) := by decide +kernel
theorem dX6_takeCells_67 : decode cX6_takeCells 67 = .ok (.ifCond .lt 35, 3) := by decide +kernel
theorem dX6_takeCells_70 : decode cX6_takeCells 70 = .ok (.iload_n 3, 1) := by decide +kernel
theorem dX6_takeCells_71 : decode cX6_takeCells 71 = .ok (.aload_n 0, 1) := by decide +kernel
theorem dX6_takeCells_72 : decode cX6_takeCells 72 = .ok (.getfield 18, 3) := by decide +kernel
theorem dX6_takeCells_75 : decode cX6_takeCells 75 = .ok (.getfield 164, 3) := by decide +kernel
theorem dX6_takeCells_78 : decode cX6_takeCells 78 = .ok (.getfield 175, 3) := by decide +kernel
theorem dX6_takeCells_81 : decode cX6_takeCells 81 = .ok (.arraylength, 1) := by decide +kernel
theorem dX6_takeCells_82 : decode cX6_takeCells 82 = .ok (.if_icmp .ge 20, 3) := by decide +kernel
theorem dX6_takeCells_85 : decode cX6_takeCells 85 = .ok (.aload_n 0, 1) := by decide +kernel
theorem dX6_takeCells_86 : decode cX6_takeCells 86 = .ok (.getfield 18, 3) := by decide +kernel
theorem dX6_takeCells_89 : decode cX6_takeCells 89 = .ok (.getfield 164, 3) := by decide +kernel
theorem dX6_takeCells_92 : decode cX6_takeCells 92 = .ok (.getfield 175, 3) := by decide +kernel
theorem dX6_takeCells_95 : decode cX6_takeCells 95 = .ok (.iload_n 3, 1) := by decide +kernel
theorem dX6_takeCells_96 : decode cX6_takeCells 96 = .ok (.aload_n 0, 1) := by decide +kernel
theorem dX6_takeCells_97 : decode cX6_takeCells 97 = .ok (.iload_n 2, 1) := by decide +kernel
theorem dX6_takeCells_98 : decode cX6_takeCells 98 = .ok (.invokevirtual 92, 3) := by decide +kernel
theorem dX6_takeCells_101 : decode cX6_takeCells 101 = .ok (.iastore, 1) := by decide +kernel
theorem dX6_takeCells_102 : decode cX6_takeCells 102 = .ok (.iinc 2 1, 3) := by decide +kernel
theorem dX6_takeCells_105 : decode cX6_takeCells 105 = .ok (.goto (-69), 3) := by decide +kernel
theorem dX6_takeCells_108 : decode cX6_takeCells 108 = .ok (.aload_n 0, 1) := by decide +kernel
theorem dX6_takeCells_109 : decode cX6_takeCells 109 = .ok (.invokevirtual 51, 3) := by decide +kernel
theorem dX6_takeCells_112 : decode cX6_takeCells 112 = .ok (.iconst 1, 1) := by decide +kernel
theorem dX6_takeCells_113 : decode cX6_takeCells 113 = .ok (.ireturn, 1) := by decide +kernel
theorem dX6_readWord_0 : decode cX6_readWord 0 = .ok (.aload_n 0, 1) := by decide +kernel
theorem dX6_readWord_1 : decode cX6_readWord 1 = .ok (.getfield 18, 3) := by decide +kernel
theorem dX6_readWord_4 : decode cX6_readWord 4 = .ok (.getfield 176, 3) := by decide +kernel
theorem dX6_readWord_7 : decode cX6_readWord 7 = .ok (.aload_n 0, 1) := by decide +kernel
theorem dX6_readWord_8 : decode cX6_readWord 8 = .ok (.getfield 18, 3) := by decide +kernel
theorem dX6_readWord_11 : decode cX6_readWord 11 = .ok (.getfield 179, 3) := by decide +kernel
theorem dX6_readWord_14 : decode cX6_readWord 14 = .ok (.arraylength, 1) := by decide +kernel
theorem dX6_readWord_15 : decode cX6_readWord 15 = .ok (.if_icmp .lt 9, 3) := by decide +kernel
theorem dX6_readWord_18 : decode cX6_readWord 18 = .ok (.aload_n 0, 1) := by decide +kernel
theorem dX6_readWord_19 : decode cX6_readWord 19 = .ok (.iconst 5, 1) := by decide +kernel
theorem dX6_readWord_20 : decode cX6_readWord 20 = .ok (.invokevirtual 61, 3) := by decide +kernel
theorem dX6_readWord_23 : decode cX6_readWord 23 = .ok (.ireturn, 1) := by decide +kernel
theorem dX6_readWord_24 : decode cX6_readWord 24 = .ok (.aload_n 0, 1) := by decide +kernel
theorem dX6_readWord_25 : decode cX6_readWord 25 = .ok (.invokevirtual 51, 3) := by decide +kernel
theorem dX6_readWord_28 : decode cX6_readWord 28 = .ok (.aload_n 0, 1) := by decide +kernel
theorem dX6_readWord_29 : decode cX6_readWord 29 = .ok (.getfield 18, 3) := by decide +kernel
theorem dX6_readWord_32 : decode cX6_readWord 32 = .ok (.getfield 179, 3) := by decide +kernel
theorem dX6_readWord_35 : decode cX6_readWord 35 = .ok (.aload_n 0, 1) := by decide +kernel
theorem dX6_readWord_36 : decode cX6_readWord 36 = .ok (.getfield 18, 3) := by decide +kernel
theorem dX6_readWord_39 : decode cX6_readWord 39 = .ok (.getfield 176, 3) := by decide +kernel
theorem dX6_readWord_42 : decode cX6_readWord 42 = .ok (.aaload, 1) := by decide +kernel
theorem dX6_readWord_43 : decode cX6_readWord 43 = .ok (.astore_n 1, 1) := by decide +kernel
theorem dX6_readWord_44 : decode cX6_readWord 44 = .ok (.aload_n 0, 1) := by decide +kernel
theorem dX6_readWord_45 : decode cX6_readWord 45 = .ok (.aload_n 1, 1) := by decide +kernel
theorem dX6_readWord_46 : decode cX6_readWord 46 = .ok (.invokevirtual 183, 3) := by decide +kernel
theorem dX6_readWord_49 : decode cX6_readWord 49 = .ok (.ifCond .ne 5, 3) := by decide +kernel
theorem dX6_readWord_52 : decode cX6_readWord 52 = .ok (.iconst 0, 1) := by decide +kernel
theorem dX6_readWord_53 : decode cX6_readWord 53 = .ok (.ireturn, 1) := by decide +kernel
theorem dX6_readWord_54 : decode cX6_readWord 54 = .ok (.iconst 0, 1) := by decide +kernel
theorem dX6_readWord_55 : decode cX6_readWord 55 = .ok (.istore_n 2, 1) := by decide +kernel
theorem dX6_readWord_56 : decode cX6_readWord 56 = .ok (.iload_n 2, 1) := by decide +kernel
theorem dX6_readWord_57 : decode cX6_readWord 57 = .ok (.aload_n 0, 1) := by decide +kernel
theorem dX6_readWord_58 : decode cX6_readWord 58 = .ok (.getfield 18, 3) := by decide +kernel
theorem dX6_readWord_61 : decode cX6_readWord 61 = .ok (.getfield 176, 3) := by decide +kernel
theorem dX6_readWord_64 : decode cX6_readWord 64 = .ok (.if_icmp .ge 31, 3) := by decide +kernel
theorem dX6_readWord_67 : decode cX6_readWord 67 = .ok (.aload_n 1, 1) := by decide +kernel
theorem dX6_readWord_68 : decode cX6_readWord 68 = .ok (.aload_n 0, 1) := by decide +kernel
theorem dX6_readWord_69 : decode cX6_readWord 69 = .ok (.getfield 18, 3) := by decide +kernel
theorem dX6_readWord_72 : decode cX6_readWord 72 = .ok (.getfield 179, 3) := by decide +kernel
theorem dX6_readWord_75 : decode cX6_readWord 75 = .ok (.iload_n 2, 1) := by decide +kernel
theorem dX6_readWord_76 : decode cX6_readWord 76 = .ok (.aaload, 1) := by decide +kernel
theorem dX6_readWord_77 : decode cX6_readWord 77 = .ok (.invokevirtual 187, 3) := by decide +kernel
theorem dX6_readWord_80 : decode cX6_readWord 80 = .ok (.ifCond .eq 9, 3) := by decide +kernel
theorem dX6_readWord_83 : decode cX6_readWord 83 = .ok (.aload_n 0, 1) := by decide +kernel
theorem dX6_readWord_84 : decode cX6_readWord 84 = .ok (.iconst 3, 1) := by decide +kernel
theorem dX6_readWord_85 : decode cX6_readWord 85 = .ok (.invokevirtual 61, 3) := by decide +kernel
theorem dX6_readWord_88 : decode cX6_readWord 88 = .ok (.ireturn, 1) := by decide +kernel
theorem dX6_readWord_89 : decode cX6_readWord 89 = .ok (.iinc 2 1, 3) := by decide +kernel
theorem dX6_readWord_92 : decode cX6_readWord 92 = .ok (.goto (-36), 3) := by decide +kernel
theorem dX6_readWord_95 : decode cX6_readWord 95 = .ok (.aload_n 0, 1) := by decide +kernel
theorem dX6_readWord_96 : decode cX6_readWord 96 = .ok (.invokevirtual 51, 3) := by decide +kernel
theorem dX6_readWord_99 : decode cX6_readWord 99 = .ok (.aload_n 0, 1) := by decide +kernel
theorem dX6_readWord_100 : decode cX6_readWord 100 = .ok (.getfield 18, 3) := by decide +kernel
theorem dX6_readWord_103 : decode cX6_readWord 103 = .ok (.dup, 1) := by decide +kernel
theorem dX6_readWord_104 : decode cX6_readWord 104 = .ok (.getfield 176, 3) := by decide +kernel
theorem dX6_readWord_107 : decode cX6_readWord 107 = .ok (.iconst 1, 1) := by decide +kernel
theorem dX6_readWord_108 : decode cX6_readWord 108 = .ok (.iadd, 1) := by decide +kernel
theorem dX6_readWord_109 : decode cX6_readWord 109 = .ok (.putfield 176, 3) := by decide +kernel
theorem dX6_readWord_112 : decode cX6_readWord 112 = .ok (.iconst 1, 1) := by decide +kernel
theorem dX6_readWord_113 : decode cX6_readWord 113 = .ok (.ireturn, 1) := by decide +kernel
theorem dX6_readWish_0 : decode cX6_readWish 0 = .ok (.aload_n 0, 1) := by decide +kernel
theorem dX6_readWish_1 : decode cX6_readWish 1 = .ok (.getfield 18, 3) := by decide +kernel
theorem dX6_readWish_4 : decode cX6_readWish 4 = .ok (.getfield 190, 3) := by decide +kernel
theorem dX6_readWish_7 : decode cX6_readWish 7 = .ok (.aload_n 0, 1) := by decide +kernel
theorem dX6_readWish_8 : decode cX6_readWish 8 = .ok (.getfield 18, 3) := by decide +kernel
theorem dX6_readWish_11 : decode cX6_readWish 11 = .ok (.getfield 193, 3) := by decide +kernel
theorem dX6_readWish_14 : decode cX6_readWish 14 = .ok (.arraylength, 1) := by decide +kernel
theorem dX6_readWish_15 : decode cX6_readWish 15 = .ok (.if_icmp .lt 9, 3) := by decide +kernel
theorem dX6_readWish_18 : decode cX6_readWish 18 = .ok (.aload_n 0, 1) := by decide +kernel
theorem dX6_readWish_19 : decode cX6_readWish 19 = .ok (.iconst 5, 1) := by decide +kernel
theorem dX6_readWish_20 : decode cX6_readWish 20 = .ok (.invokevirtual 61, 3) := by decide +kernel
theorem dX6_readWish_23 : decode cX6_readWish 23 = .ok (.ireturn, 1) := by decide +kernel
theorem dX6_readWish_24 : decode cX6_readWish 24 = .ok (.aload_n 0, 1) := by decide +kernel
theorem dX6_readWish_25 : decode cX6_readWish 25 = .ok (.invokevirtual 51, 3) := by decide +kernel
theorem dX6_readWish_28 : decode cX6_readWish 28 = .ok (.aload_n 0, 1) := by decide +kernel
theorem dX6_readWish_29 : decode cX6_readWish 29 = .ok (.getfield 18, 3) := by decide +kernel
theorem dX6_readWish_32 : decode cX6_readWish 32 = .ok (.getfield 193, 3) := by decide +kernel
theorem dX6_readWish_35 : decode cX6_readWish 35 = .ok (.aload_n 0, 1) := by decide +kernel
theorem dX6_readWish_36 : decode cX6_readWish 36 = .ok (.getfield 18, 3) := by decide +kernel
theorem dX6_readWish_39 : decode cX6_readWish 39 = .ok (.getfield 190, 3) := by decide +kernel
theorem dX6_readWish_42 : decode cX6_readWish 42 = .ok (.aaload, 1) := by decide +kernel
theorem dX6_readWish_43 : decode cX6_readWish 43 = .ok (.astore_n 1, 1) := by decide +kernel
theorem dX6_readWish_44 : decode cX6_readWish 44 = .ok (.aload_n 0, 1) := by decide +kernel
theorem dX6_readWish_45 : decode cX6_readWish 45 = .ok (.aload_n 1, 1) := by decide +kernel
theorem dX6_readWish_46 : decode cX6_readWish 46 = .ok (.invokevirtual 183, 3) := by decide +kernel
theorem dX6_readWish_49 : decode cX6_readWish 49 = .ok (.ifCond .ne 5, 3) := by decide +kernel
theorem dX6_readWish_52 : decode cX6_readWish 52 = .ok (.iconst 0, 1) := by decide +kernel
theorem dX6_readWish_53 : decode cX6_readWish 53 = .ok (.ireturn, 1) := by decide +kernel
theorem dX6_readWish_54 : decode cX6_readWish 54 = .ok (.aload_n 0, 1) := by decide +kernel
theorem dX6_readWish_55 : decode cX6_readWish 55 = .ok (.invokevirtual 51, 3) := by decide +kernel
theorem dX6_readWish_58 : decode cX6_readWish 58 = .ok (.aload_n 0, 1) := by decide +kernel
theorem dX6_readWish_59 : decode cX6_readWish 59 = .ok (.aload_n 1, 1) := by decide +kernel
theorem dX6_readWish_60 : decode cX6_readWish 60 = .ok (.invokevirtual 196, 3) := by decide +kernel
theorem dX6_readWish_63 : decode cX6_readWish 63 = .ok (.ifCond .ne 5, 3) := by decide +kernel
theorem dX6_readWish_66 : decode cX6_readWish 66 = .ok (.iconst 0, 1) := by decide +kernel
theorem dX6_readWish_67 : decode cX6_readWish 67 = .ok (.ireturn, 1) := by decide +kernel
theorem dX6_readWish_68 : decode cX6_readWish 68 = .ok (.aload_n 0, 1) := by decide +kernel
theorem dX6_readWish_69 : decode cX6_readWish 69 = .ok (.getfield 18, 3) := by decide +kernel
theorem dX6_readWish_72 : decode cX6_readWish 72 = .ok (.dup, 1) := by decide +kernel
theorem dX6_readWish_73 : decode cX6_readWish 73 = .ok (.getfield 190, 3) := by decide +kernel
theorem dX6_readWish_76 : decode cX6_readWish 76 = .ok (.iconst 1, 1) := by decide +kernel
theorem dX6_readWish_77 : decode cX6_readWish 77 = .ok (.iadd, 1) := by decide +kernel
theorem dX6_readWish_78 : decode cX6_readWish 78 = .ok (.putfield 190, 3) := by decide +kernel
theorem dX6_readWish_81 : decode cX6_readWish 81 = .ok (.iconst 1, 1) := by decide +kernel
theorem dX6_readWish_82 : decode cX6_readWish 82 = .ok (.ireturn, 1) := by decide +kernel
theorem dX6_takeView_0 : decode cX6_takeView 0 = .ok (.aload_n 0, 1) := by decide +kernel
theorem dX6_takeView_1 : decode cX6_takeView 1 = .ok (.ldc 199, 2) := by decide +kernel
theorem dX6_takeView_3 : decode cX6_takeView 3 = .ok (.ldc 201, 2) := by decide +kernel
theorem dX6_takeView_5 : decode cX6_takeView 5 = .ok (.invokevirtual 150, 3) := by decide +kernel
theorem dX6_takeView_8 : decode cX6_takeView 8 = .ok (.ifCond .ne 5, 3) := by decide +kernel
theorem dX6_takeView_11 : decode cX6_takeView 11 = .ok (.iconst 0, 1) := by decide +kernel
theorem dX6_takeView_12 : decode cX6_takeView 12 = .ok (.ireturn, 1) := by decide +kernel
theorem dX6_takeView_13 : decode cX6_takeView 13 = .ok (.aload_n 1, 1) := by decide +kernel
theorem dX6_takeView_14 : decode cX6_takeView 14 = .ok (.aload_n 0, 1) := by decide +kernel
theorem dX6_takeView_15 : decode cX6_takeView 15 = .ok (.getfield 78, 3) := by decide +kernel
theorem dX6_takeView_18 : decode cX6_takeView 18 = .ok (.putfield 203, 3) := by decide +kernel
theorem dX6_takeView_21 : decode cX6_takeView 21 = .ok (.aload_n 0, 1) := by decide +kernel
theorem dX6_takeView_22 : decode cX6_takeView 22 = .ok (.iconst 0, 1) := by decide +kernel
theorem dX6_takeView_23 : decode cX6_takeView 23 = .ok (.aload_n 0, 1) := by decide +kernel
theorem dX6_takeView_24 : decode cX6_takeView 24 = .ok (.getfield 18, 3) := by decide +kernel
theorem dX6_takeView_27 : decode cX6_takeView 27 = .ok (.invokevirtual 206, 3) := by decide +kernel
theorem dX6_takeView_30 : decode cX6_takeView 30 = .ok (.iconst 1, 1) := by decide +kernel
theorem dX6_takeView_31 : decode cX6_takeView 31 = .ok (.isub, 1) := by decide +kernel
theorem dX6_takeView_32 : decode cX6_takeView 32 = .ok (.invokevirtual 130, 3) := by decide +kernel
theorem dX6_takeView_35 : decode cX6_takeView 35 = .ok (.ifCond .ne 5, 3) := by decide +kernel
theorem dX6_takeView_38 : decode cX6_takeView 38 = .ok (.iconst 0, 1) := by decide +kernel
theorem dX6_takeView_39 : decode cX6_takeView 39 = .ok (.ireturn, 1) := by decide +kernel
theorem dX6_takeView_40 : decode cX6_takeView 40 = .ok (.aload_n 1, 1) := by decide +kernel
theorem dX6_takeView_41 : decode cX6_takeView 41 = .ok (.aload_n 0, 1) := by decide +kernel
theorem dX6_takeView_42 : decode cX6_takeView 42 = .ok (.getfield 78, 3) := by decide +kernel
theorem dX6_takeView_45 : decode cX6_takeView 45 = .ok (.putfield 209, 3) := by decide +kernel
theorem dX6_takeView_48 : decode cX6_takeView 48 = .ok (.iconst 1, 1) := by decide +kernel
theorem dX6_takeView_49 : decode cX6_takeView 49 = .ok (.ireturn, 1) := by decide +kernel
theorem dX6_readSeen_0 : decode cX6_readSeen 0 = .ok (.aload_n 0, 1) := by decide +kernel
theorem dX6_readSeen_1 : decode cX6_readSeen 1 = .ok (.getfield 18, 3) := by decide +kernel
theorem dX6_readSeen_4 : decode cX6_readSeen 4 = .ok (.getfield 212, 3) := by decide +kernel
theorem dX6_readSeen_7 : decode cX6_readSeen 7 = .ok (.aload_n 0, 1) := by decide +kernel
theorem dX6_readSeen_8 : decode cX6_readSeen 8 = .ok (.getfield 18, 3) := by decide +kernel
theorem dX6_readSeen_11 : decode cX6_readSeen 11 = .ok (.getfield 215, 3) := by decide +kernel
theorem dX6_readSeen_14 : decode cX6_readSeen 14 = .ok (.arraylength, 1) := by decide +kernel
theorem dX6_readSeen_15 : decode cX6_readSeen 15 = .ok (.if_icmp .lt 9, 3) := by decide +kernel
theorem dX6_readSeen_18 : decode cX6_readSeen 18 = .ok (.aload_n 0, 1) := by decide +kernel
theorem dX6_readSeen_19 : decode cX6_readSeen 19 = .ok (.iconst 5, 1) := by decide +kernel
theorem dX6_readSeen_20 : decode cX6_readSeen 20 = .ok (.invokevirtual 61, 3) := by decide +kernel
theorem dX6_readSeen_23 : decode cX6_readSeen 23 = .ok (.ireturn, 1) := by decide +kernel
theorem dX6_readSeen_24 : decode cX6_readSeen 24 = .ok (.aload_n 0, 1) := by decide +kernel
theorem dX6_readSeen_25 : decode cX6_readSeen 25 = .ok (.invokevirtual 51, 3) := by decide +kernel
theorem dX6_readSeen_28 : decode cX6_readSeen 28 = .ok (.aload_n 0, 1) := by decide +kernel
theorem dX6_readSeen_29 : decode cX6_readSeen 29 = .ok (.getfield 18, 3) := by decide +kernel
theorem dX6_readSeen_32 : decode cX6_readSeen 32 = .ok (.getfield 215, 3) := by decide +kernel
theorem dX6_readSeen_35 : decode cX6_readSeen 35 = .ok (.aload_n 0, 1) := by decide +kernel
theorem dX6_readSeen_36 : decode cX6_readSeen 36 = .ok (.getfield 18, 3) := by decide +kernel
theorem dX6_readSeen_39 : decode cX6_readSeen 39 = .ok (.getfield 212, 3) := by decide +kernel
theorem dX6_readSeen_42 : decode cX6_readSeen 42 = .ok (.aaload, 1) := by decide +kernel
theorem dX6_readSeen_43 : decode cX6_readSeen 43 = .ok (.astore_n 1, 1) := by decide +kernel
theorem dX6_readSeen_44 : decode cX6_readSeen 44 = .ok (.aload_n 0, 1) := by decide +kernel
theorem dX6_readSeen_45 : decode cX6_readSeen 45 = .ok (.aload_n 1, 1) := by decide +kernel
theorem dX6_readSeen_46 : decode cX6_readSeen 46 = .ok (.invokevirtual 196, 3) := by decide +kernel
theorem dX6_readSeen_49 : decode cX6_readSeen 49 = .ok (.ifCond .ne 5, 3) := by decide +kernel
theorem dX6_readSeen_52 : decode cX6_readSeen 52 = .ok (.iconst 0, 1) := by decide +kernel
theorem dX6_readSeen_53 : decode cX6_readSeen 53 = .ok (.ireturn, 1) := by decide +kernel
theorem dX6_readSeen_54 : decode cX6_readSeen 54 = .ok (.aload_n 0, 1) := by decide +kernel
theorem dX6_readSeen_55 : decode cX6_readSeen 55 = .ok (.getfield 18, 3) := by decide +kernel
theorem dX6_readSeen_58 : decode cX6_readSeen 58 = .ok (.aload_n 1, 1) := by decide +kernel
theorem dX6_readSeen_59 : decode cX6_readSeen 59 = .ok (.getfield 203, 3) := by decide +kernel
theorem dX6_readSeen_62 : decode cX6_readSeen 62 = .ok (.aload_n 1, 1) := by decide +kernel
theorem dX6_readSeen_63 : decode cX6_readSeen 63 = .ok (.getfield 209, 3) := by decide +kernel
theorem dX6_readSeen_66 : decode cX6_readSeen 66 = .ok (.invokevirtual 217, 3) := by decide +kernel
theorem dX6_readSeen_69 : decode cX6_readSeen 69 = .ok (.istore_n 2, 1) := by decide +kernel
theorem dX6_readSeen_70 : decode cX6_readSeen 70 = .ok (.aload_n 0, 1) := by decide +kernel
theorem dX6_readSeen_71 : decode cX6_readSeen 71 = .ok (.ldc 220, 2) := by decide +kernel
theorem dX6_readSeen_73 : decode cX6_readSeen 73 = .ok (.invokevirtual 127, 3) := by decide +kernel
theorem dX6_readSeen_76 : decode cX6_readSeen 76 = .ok (.ifCond .eq 14, 3) := by decide +kernel
theorem dX6_readSeen_79 : decode cX6_readSeen 79 = .ok (.aload_n 0, 1) := by decide +kernel
theorem dX6_readSeen_80 : decode cX6_readSeen 80 = .ok (.iconst 0, 1) := by decide +kernel
theorem dX6_readSeen_81 : decode cX6_readSeen 81 = .ok (.iload_n 2, 1) := by decide +kernel
theorem dX6_readSeen_82 : decode cX6_readSeen 82 = .ok (.iconst 1, 1) := by decide +kernel
theorem dX6_readSeen_83 : decode cX6_readSeen 83 = .ok (.isub, 1) := by decide +kernel
theorem dX6_readSeen_84 : decode cX6_readSeen 84 = .ok (.invokevirtual 130, 3) := by decide +kernel
theorem dX6_readSeen_87 : decode cX6_readSeen 87 = .ok (.ifCond .ne 5, 3) := by decide +kernel
theorem dX6_readSeen_90 : decode cX6_readSeen 90 = .ok (.iconst 0, 1) := by decide +kernel
theorem dX6_readSeen_91 : decode cX6_readSeen 91 = .ok (.ireturn, 1) := by decide +kernel
theorem dX6_readSeen_92 : decode cX6_readSeen 92 = .ok (.aload_n 1, 1) := by decide +kernel
theorem dX6_readSeen_93 : decode cX6_readSeen 93 = .ok (.aload_n 0, 1) := by decide +kernel
theorem dX6_readSeen_94 : decode cX6_readSeen 94 = .ok (.getfield 78, 3) := by decide +kernel
theorem dX6_readSeen_97 : decode cX6_readSeen 97 = .ok (.putfield 222, 3) := by decide +kernel
theorem dX6_readSeen_100 : decode cX6_readSeen 100 = .ok (.aload_n 0, 1) := by decide +kernel
theorem dX6_readSeen_101 : decode cX6_readSeen 101 = .ok (.aload_n 1, 1) := by decide +kernel
theorem dX6_readSeen_102 : decode cX6_readSeen 102 = .ok (.invokevirtual 183, 3) := by decide +kernel
theorem dX6_readSeen_105 : decode cX6_readSeen 105 = .ok (.ifCond .ne 5, 3) := by decide +kernel
theorem dX6_readSeen_108 : decode cX6_readSeen 108 = .ok (.iconst 0, 1) := by decide +kernel
theorem dX6_readSeen_109 : decode cX6_readSeen 109 = .ok (.ireturn, 1) := by decide +kernel
theorem dX6_readSeen_110 : decode cX6_readSeen 110 = .ok (.aload_n 1, 1) := by decide +kernel
theorem dX6_readSeen_111 : decode cX6_readSeen 111 = .ok (.getfield 222, 3) := by decide +kernel
theorem dX6_readSeen_114 : decode cX6_readSeen 114 = .ok (.aload_n 1, 1) := by decide +kernel
theorem dX6_readSeen_115 : decode cX6_readSeen 115 = .ok (.getfield 91, 3) := by decide +kernel
theorem dX6_readSeen_118 : decode cX6_readSeen 118 = .ok (.iadd, 1) := by decide +kernel
theorem dX6_readSeen_119 : decode cX6_readSeen 119 = .ok (.iload_n 2, 1) := by decide +kernel
theorem dX6_readSeen_120 : decode cX6_readSeen 120 = .ok (.if_icmp .le 10, 3) := by decide +kernel
theorem dX6_readSeen_123 : decode cX6_readSeen 123 = .ok (.aload_n 0, 1) := by decide +kernel
theorem dX6_readSeen_124 : decode cX6_readSeen 124 = .ok (.bipush 7, 2) := by decide +kernel
theorem dX6_readSeen_126 : decode cX6_readSeen 126 = .ok (.invokevirtual 61, 3) := by decide +kernel
theorem dX6_readSeen_129 : decode cX6_readSeen 129 = .ok (.ireturn, 1) := by decide +kernel
theorem dX6_readSeen_130 : decode cX6_readSeen 130 = .ok (.aload_n 0, 1) := by decide +kernel
theorem dX6_readSeen_131 : decode cX6_readSeen 131 = .ok (.invokevirtual 51, 3) := by decide +kernel
theorem dX6_readSeen_134 : decode cX6_readSeen 134 = .ok (.aload_n 0, 1) := by decide +kernel
theorem dX6_readSeen_135 : decode cX6_readSeen 135 = .ok (.getfield 18, 3) := by decide +kernel
theorem dX6_readSeen_138 : decode cX6_readSeen 138 = .ok (.dup, 1) := by decide +kernel
theorem dX6_readSeen_139 : decode cX6_readSeen 139 = .ok (.getfield 212, 3) := by decide +kernel
theorem dX6_readSeen_142 : decode cX6_readSeen 142 = .ok (.iconst 1, 1) := by decide +kernel
theorem dX6_readSeen_143 : decode cX6_readSeen 143 = .ok (.iadd, 1) := by decide +kernel
theorem dX6_readSeen_144 : decode cX6_readSeen 144 = .ok (.putfield 212, 3) := by decide +kernel
theorem dX6_readSeen_147 : decode cX6_readSeen 147 = .ok (.iconst 1, 1) := by decide +kernel
theorem dX6_readSeen_148 : decode cX6_readSeen 148 = .ok (.ireturn, 1) := by decide +kernel
theorem dX6_readBeats_0 : decode cX6_readBeats 0 = .ok (.aload_n 0, 1) := by decide +kernel
theorem dX6_readBeats_1 : decode cX6_readBeats 1 = .ok (.getfield 18, 3) := by decide +kernel
theorem dX6_readBeats_4 : decode cX6_readBeats 4 = .ok (.getfield 225, 3) := by decide +kernel
theorem dX6_readBeats_7 : decode cX6_readBeats 7 = .ok (.ifCond .le 9, 3) := by decide +kernel
theorem dX6_readBeats_10 : decode cX6_readBeats 10 = .ok (.aload_n 0, 1) := by decide +kernel
theorem dX6_readBeats_11 : decode cX6_readBeats 11 = .ok (.iconst 3, 1) := by decide +kernel
theorem dX6_readBeats_12 : decode cX6_readBeats 12 = .ok (.invokevirtual 61, 3) := by decide +kernel
theorem dX6_readBeats_15 : decode cX6_readBeats 15 = .ok (.ireturn, 1) := by decide +kernel
theorem dX6_readBeats_16 : decode cX6_readBeats 16 = .ok (.iconst 0, 1) := by decide +kernel
theorem dX6_readBeats_17 : decode cX6_readBeats 17 = .ok (.istore_n 1, 1) := by decide +kernel
theorem dX6_readBeats_18 : decode cX6_readBeats 18 = .ok (.iload_n 1, 1) := by decide +kernel
theorem dX6_readBeats_19 : decode cX6_readBeats 19 = .ok (.aload_n 0, 1) := by decide +kernel
theorem dX6_readBeats_20 : decode cX6_readBeats 20 = .ok (.getfield 18, 3) := by decide +kernel
theorem dX6_readBeats_23 : decode cX6_readBeats 23 = .ok (.getfield 228, 3) := by decide +kernel
theorem dX6_readBeats_26 : decode cX6_readBeats 26 = .ok (.arraylength, 1) := by decide +kernel
theorem dX6_readBeats_27 : decode cX6_readBeats 27 = .ok (.if_icmp .gt 87, 3) := by decide +kernel
theorem dX6_readBeats_30 : decode cX6_readBeats 30 = .ok (.aload_n 0, 1) := by decide +kernel
theorem dX6_readBeats_31 : decode cX6_readBeats 31 = .ok (.invokevirtual 51, 3) := by decide +kernel
theorem dX6_readBeats_34 : decode cX6_readBeats 34 = .ok (.aload_n 0, 1) := by decide +kernel
theorem dX6_readBeats_35 : decode cX6_readBeats 35 = .ok (.iconst 0, 1) := by decide +kernel
theorem dX6_readBeats_36 : decode cX6_readBeats 36 = .ok (.aload_n 0, 1) := by decide +kernel
theorem dX6_readBeats_37 : decode cX6_readBeats 37 = .ok (.getfield 18, 3) := by decide +kernel
theorem dX6_readBeats_40 : decode cX6_readBeats 40 = .ok (.invokevirtual 206, 3) := by decide +kernel
theorem dX6_readBeats_43 : decode cX6_readBeats 43 = .ok (.iconst 1, 1) := by decide +kernel
theorem dX6_readBeats_44 : decode cX6_readBeats 44 = .ok (.isub, 1) := by decide +kernel
theorem dX6_readBeats_45 : decode cX6_readBeats 45 = .ok (.invokevirtual 81, 3) := by decide +kernel
theorem dX6_readBeats_48 : decode cX6_readBeats 48 = .ok (.ifCond .ne 5, 3) := by decide +kernel
theorem dX6_readBeats_51 : decode cX6_readBeats 51 = .ok (.iconst 0, 1) := by decide +kernel
theorem dX6_readBeats_52 : decode cX6_readBeats 52 = .ok (.ireturn, 1) := by decide +kernel
theorem dX6_readBeats_53 : decode cX6_readBeats 53 = .ok (.iload_n 1, 1) := by decide +kernel
theorem dX6_readBeats_54 : decode cX6_readBeats 54 = .ok (.aload_n 0, 1) := by decide +kernel
theorem dX6_readBeats_55 : decode cX6_readBeats 55 = .ok (.getfield 18, 3) := by decide +kernel
theorem dX6_readBeats_58 : decode cX6_readBeats 58 = .ok (.getfield 228, 3) := by decide +kernel
theorem dX6_readBeats_61 : decode cX6_readBeats 61 = .ok (.arraylength, 1) := by decide +kernel
theorem dX6_readBeats_62 : decode cX6_readBeats 62 = .ok (.if_icmp .lt 9, 3) := by decide +kernel
theorem dX6_readBeats_65 : decode cX6_readBeats 65 = .ok (.aload_n 0, 1) := by decide +kernel
theorem dX6_readBeats_66 : decode cX6_readBeats 66 = .ok (.iconst 5, 1) := by decide +kernel
theorem dX6_readBeats_67 : decode cX6_readBeats 67 = .ok (.invokevirtual 61, 3) := by decide +kernel
theorem dX6_readBeats_70 : decode cX6_readBeats 70 = .ok (.ireturn, 1) := by decide +kernel
theorem dX6_readBeats_71 : decode cX6_readBeats 71 = .ok (.aload_n 0, 1) := by decide +kernel
theorem dX6_readBeats_72 : decode cX6_readBeats 72 = .ok (.getfield 18, 3) := by decide +kernel
theorem dX6_readBeats_75 : decode cX6_readBeats 75 = .ok (.getfield 228, 3) := by decide +kernel
theorem dX6_readBeats_78 : decode cX6_readBeats 78 = .ok (.iload_n 1, 1) := by decide +kernel
theorem dX6_readBeats_79 : decode cX6_readBeats 79 = .ok (.aload_n 0, 1) := by decide +kernel
theorem dX6_readBeats_80 : decode cX6_readBeats 80 = .ok (.getfield 78, 3) := by decide +kernel
theorem dX6_readBeats_83 : decode cX6_readBeats 83 = .ok (.iastore, 1) := by decide +kernel
theorem dX6_readBeats_84 : decode cX6_readBeats 84 = .ok (.aload_n 0, 1) := by decide +kernel
theorem dX6_readBeats_85 : decode cX6_readBeats 85 = .ok (.getfield 18, 3) := by decide +kernel
theorem dX6_readBeats_88 : decode cX6_readBeats 88 = .ok (.iload_n 1, 1) := by decide +kernel
theorem dX6_readBeats_89 : decode cX6_readBeats 89 = .ok (.iconst 1, 1) := by decide +kernel
theorem dX6_readBeats_90 : decode cX6_readBeats 90 = .ok (.iadd, 1) := by decide +kernel
theorem dX6_readBeats_91 : decode cX6_readBeats 91 = .ok (.putfield 225, 3) := by decide +kernel
theorem dX6_readBeats_94 : decode cX6_readBeats 94 = .ok (.aload_n 0, 1) := by decide +kernel
theorem dX6_readBeats_95 : decode cX6_readBeats 95 = .ok (.invokevirtual 51, 3) := by decide +kernel
theorem dX6_readBeats_98 : decode cX6_readBeats 98 = .ok (.aload_n 0, 1) := by decide +kernel
theorem dX6_readBeats_99 : decode cX6_readBeats 99 = .ok (.getfield 58, 3) := by decide +kernel
theorem dX6_readBeats_102 : decode cX6_readBeats 102 = .ok (.iconst 4, 1) := by decide +kernel
theorem dX6_readBeats_103 : decode cX6_readBeats 103 = .ok (.if_icmp .eq 5, 3) := by decide +kernel
theorem dX6_readBeats_106 : decode cX6_readBeats 106 = .ok (.iconst 1, 1) := by decide +kernel
theorem dX6_readBeats_107 : decode cX6_readBeats 107 = .ok (.ireturn, 1) := by decide +kernel
theorem dX6_readBeats_108 : decode cX6_readBeats 108 = .ok (.iinc 1 1, 3) := by decide +kernel
theorem dX6_readBeats_111 : decode cX6_readBeats 111 = .ok (.goto (-93), 3) := by decide +kernel
theorem dX6_readBeats_114 : decode cX6_readBeats 114 = .ok (.aload_n 0, 1) := by decide +kernel
theorem dX6_readBeats_115 : decode cX6_readBeats 115 = .ok (.iconst 1, 1) := by decide +kernel
theorem dX6_readBeats_116 : decode cX6_readBeats 116 = .ok (.invokevirtual 61, 3) := by decide +kernel
theorem dX6_readBeats_119 : decode cX6_readBeats 119 = .ok (.ireturn, 1) := by decide +kernel
theorem dX7_init_0 : decode cX7_init 0 = .ok (.aload_n 0, 1) := by decide +kernel
theorem dX7_init_1 : decode cX7_init 1 = .ok (.invokespecial 3, 3) := by decide +kernel
theorem dX7_init_4 : decode cX7_init 4 = .ok (.aload_n 0, 1) := by decide +kernel
theorem dX7_init_5 : decode cX7_init 5 = .ok (.bipush 30, 2) := by decide +kernel
theorem dX7_init_7 : decode cX7_init 7 = .ok (.newarray .int, 2) := by decide +kernel
theorem dX7_init_9 : decode cX7_init 9 = .ok (.putfield 9, 3) := by decide +kernel
theorem dX7_init_12 : decode cX7_init 12 = .ok (.aload_n 0, 1) := by decide +kernel
theorem dX7_init_13 : decode cX7_init 13 = .ok (.bipush 30, 2) := by decide +kernel
theorem dX7_init_15 : decode cX7_init 15 = .ok (.newarray .int, 2) := by decide +kernel
theorem dX7_init_17 : decode cX7_init 17 = .ok (.putfield 15, 3) := by decide +kernel
theorem dX7_init_20 : decode cX7_init 20 = .ok (.return_, 1) := by decide +kernel
theorem dX7_look_0 : decode cX7_look 0 = .ok (.aload_n 0, 1) := by decide +kernel
theorem dX7_look_1 : decode cX7_look 1 = .ok (.iconst 0, 1) := by decide +kernel
theorem dX7_look_2 : decode cX7_look 2 = .ok (.putfield 18, 3) := by decide +kernel
theorem dX7_look_5 : decode cX7_look 5 = .ok (.iconst 0, 1) := by decide +kernel
theorem dX7_look_6 : decode cX7_look 6 = .ok (.istore 6, 2) := by decide +kernel
theorem dX7_look_8 : decode cX7_look 8 = .ok (.iload 6, 2) := by decide +kernel
theorem dX7_look_10 : decode cX7_look 10 = .ok (.aload_n 1, 1) := by decide +kernel
theorem dX7_look_11 : decode cX7_look 11 = .ok (.getfield 22, 3) := by decide +kernel
theorem dX7_look_14 : decode cX7_look 14 = .ok (.if_icmp .ge 70, 3) := by decide +kernel
theorem dX7_look_17 : decode cX7_look 17 = .ok (.iload 4, 2) := by decide +kernel
theorem dX7_look_19 : decode cX7_look 19 = .ok (.ifCond .ne 8, 3) := by decide +kernel
theorem dX7_look_22 : decode cX7_look 22 = .ok (.iload 6, 2) := by decide +kernel
theorem dX7_look_24 : decode cX7_look 24 = .ok (.goto 12, 3) := by decide +kernel
theorem dX7_look_27 : decode cX7_look 27 = .ok (.aload_n 1, 1) := by decide +kernel
theorem dX7_look_28 : decode cX7_look 28 = .ok (.getfield 22, 3) := by decide +kernel
theorem dX7_look_31 : decode cX7_look 31 = .ok (.iconst 1, 1) := by decide +kernel
theorem dX7_look_32 : decode cX7_look 32 = .ok (.isub, 1) := by decide +kernel
theorem dX7_look_33 : decode cX7_look 33 = .ok (.iload 6, 2) := by decide +kernel
theorem dX7_look_35 : decode cX7_look 35 = .ok (.isub, 1) := by decide +kernel
theorem dX7_look_36 : decode cX7_look 36 = .ok (.istore 7, 2) := by decide +kernel
theorem dX7_look_38 : decode cX7_look 38 = .ok (.iload_n 3, 1) := by decide +kernel
theorem dX7_look_39 : decode cX7_look 39 = .ok (.iload 7, 2) := by decide +kernel
theorem dX7_look_41 : decode cX7_look 41 = .ok (.ishr, 1) := by decide +kernel
theorem dX7_look_42 : decode cX7_look 42 = .ok (.iconst 1, 1) := by decide +kernel
theorem dX7_look_43 : decode cX7_look 43 = .ok (.iand, 1) := by decide +kernel
theorem dX7_look_44 : decode cX7_look 44 = .ok (.ifCond .ne 34, 3) := by decide +kernel
theorem dX7_look_47 : decode cX7_look 47 = .ok (.aload_n 1, 1) := by decide +kernel
theorem dX7_look_48 : decode cX7_look 48 = .ok (.getfield 27, 3) := by decide +kernel
theorem dX7_look_51 : decode cX7_look 51 = .ok (.iload 7, 2) := by decide +kernel
theorem dX7_look_53 : decode cX7_look 53 = .ok (.imul, 1) := by decide +kernel
theorem dX7_look_54 : decode cX7_look 54 = .ok (.istore 8, 2) := by decide +kernel
theorem dX7_look_56 : decode cX7_look 56 = .ok (.aload_n 0, 1) := by decide +kernel
theorem dX7_look_57 : decode cX7_look 57 = .ok (.aload_n 2, 1) := by decide +kernel
theorem dX7_look_58 : decode cX7_look 58 = .ok (.iload 4, 2) := by decide +kernel
theorem dX7_look_60 : decode cX7_look 60 = .ok (.iload 8, 2) := by decide +kernel
theorem dX7_look_62 : decode cX7_look 62 = .ok (.iload 8, 2) := by decide +kernel
theorem dX7_look_64 : decode cX7_look 64 = .ok (.aload_n 1, 1) := by decide +kernel
theorem dX7_look_65 : decode cX7_look 65 = .ok (.iload 4, 2) := by decide +kernel
theorem dX7_look_67 : decode cX7_look 67 = .ok (.iload 7, 2) := by decide +kernel
theorem dX7_look_69 : decode cX7_look 69 = .ok (.iload 5, 2) := by decide +kernel
theorem dX7_look_71 : decode cX7_look 71 = .ok (.invokevirtual 30, 3) := by decide +kernel
theorem dX7_look_74 : decode cX7_look 74 = .ok (.iadd, 1) := by decide +kernel
theorem dX7_look_75 : decode cX7_look 75 = .ok (.invokevirtual 34, 3) := by decide +kernel
theorem dX7_look_78 : decode cX7_look 78 = .ok (.iinc 6 1, 3) := by decide +kernel
theorem dX7_look_81 : decode cX7_look 81 = .ok (.goto (-73), 3) := by decide +kernel
theorem dX7_look_84 : decode cX7_look 84 = .ok (.return_, 1) := by decide +kernel
theorem dX7_addCells_0 : decode cX7_addCells 0 = .ok (.iload_n 3, 1) := by decide +kernel
theorem dX7_addCells_1 : decode cX7_addCells 1 = .ok (.istore 5, 2) := by decide +kernel
theorem dX7_addCells_3 : decode cX7_addCells 3 = .ok (.iload 5, 2) := by decide +kernel
theorem dX7_addCells_5 : decode cX7_addCells 5 = .ok (.iload 4, 2) := by decide +kernel
theorem dX7_addCells_7 : decode cX7_addCells 7 = .ok (.if_icmp .ge 58, 3) := by decide +kernel
theorem dX7_addCells_10 : decode cX7_addCells 10 = .ok (.aload_n 0, 1) := by decide +kernel
theorem dX7_addCells_11 : decode cX7_addCells 11 = .ok (.getfield 18, 3) := by decide +kernel
theorem dX7_addCells_14 : decode cX7_addCells 14 = .ok (.aload_n 0, 1) := by decide +kernel
theorem dX7_addCells_15 : decode cX7_addCells 15 = .ok (.getfield 9, 3) := by decide +kernel
theorem dX7_addCells_18 : decode cX7_addCells 18 = .ok (.arraylength, 1) := by decide +kernel
theorem dX7_addCells_19 : decode cX7_addCells 19 = .ok (.if_icmp .ge 46, 3) := by decide +kernel
theorem dX7_addCells_22 : decode cX7_addCells 22 = .ok (.aload_n 0, 1) := by decide +kernel
theorem dX7_addCells_23 : decode cX7_addCells 23 = .ok (.getfield 9, 3) := by decide +kernel
theorem dX7_addCells_26 : decode cX7_addCells 26 = .ok (.aload_n 0, 1) := by decide +kernel
theorem dX7_addCells_27 : decode cX7_addCells 27 = .ok (.getfield 18, 3) := by decide +kernel
theorem dX7_addCells_30 : decode cX7_addCells 30 = .ok (.iload 5, 2) := by decide +kernel
theorem dX7_addCells_32 : decode cX7_addCells 32 = .ok (.iastore, 1) := by decide +kernel
theorem dX7_addCells_33 : decode cX7_addCells 33 = .ok (.aload_n 0, 1) := by decide +kernel
theorem dX7_addCells_34 : decode cX7_addCells 34 = .ok (.getfield 15, 3) := by decide +kernel
theorem dX7_addCells_37 : decode cX7_addCells 37 = .ok (.aload_n 0, 1) := by decide +kernel
theorem dX7_addCells_38 : decode cX7_addCells 38 = .ok (.getfield 18, 3) := by decide +kernel
theorem dX7_addCells_41 : decode cX7_addCells 41 = .ok (.aload_n 1, 1) := by decide +kernel
theorem dX7_addCells_42 : decode cX7_addCells 42 = .ok (.iload_n 2, 1) := by decide +kernel
theorem dX7_addCells_43 : decode cX7_addCells 43 = .ok (.iload 5, 2) := by decide +kernel
theorem dX7_addCells_45 : decode cX7_addCells 45 = .ok (.invokevirtual 38, 3) := by decide +kernel
theorem dX7_addCells_48 : decode cX7_addCells 48 = .ok (.iastore, 1) := by decide +kernel
theorem dX7_addCells_49 : decode cX7_addCells 49 = .ok (.aload_n 0, 1) := by decide +kernel
theorem dX7_addCells_50 : decode cX7_addCells 50 = .ok (.dup, 1) := by decide +kernel
theorem dX7_addCells_51 : decode cX7_addCells 51 = .ok (.getfield 18, 3) := by decide +kernel
theorem dX7_addCells_54 : decode cX7_addCells 54 = .ok (.iconst 1, 1) := by decide +kernel
theorem dX7_addCells_55 : decode cX7_addCells 55 = .ok (.iadd, 1) := by decide +kernel
theorem dX7_addCells_56 : decode cX7_addCells 56 = .ok (.putfield 18, 3) := by decide +kernel
theorem dX7_addCells_59 : decode cX7_addCells 59 = .ok (.iinc 5 1, 3) := by decide +kernel
theorem dX7_addCells_62 : decode cX7_addCells 62 = .ok (.goto (-59), 3) := by decide +kernel
theorem dX7_addCells_65 : decode cX7_addCells 65 = .ok (.return_, 1) := by decide +kernel
theorem dX7_strangeAt_0 : decode cX7_strangeAt 0 = .ok (.iload_n 2, 1) := by decide +kernel
theorem dX7_strangeAt_1 : decode cX7_strangeAt 1 = .ok (.ifCond .lt 16, 3) := by decide +kernel
theorem dX7_strangeAt_4 : decode cX7_strangeAt 4 = .ok (.iload_n 2, 1) := by decide +kernel
theorem dX7_strangeAt_5 : decode cX7_strangeAt 5 = .ok (.aload_n 1, 1) := by decide +kernel
theorem dX7_strangeAt_6 : decode cX7_strangeAt 6 = .ok (.getfield 44, 3) := by decide +kernel
theorem dX7_strangeAt_9 : decode cX7_strangeAt 9 = .ok (.iadd, 1) := by decide +kernel
theorem dX7_strangeAt_10 : decode cX7_strangeAt 10 = .ok (.aload_n 0, 1) := by decide +kernel
theorem dX7_strangeAt_11 : decode cX7_strangeAt 11 = .ok (.getfield 18, 3) := by decide +kernel
theorem dX7_strangeAt_14 : decode cX7_strangeAt 14 = .ok (.if_icmp .le 6, 3) := by decide +kernel
theorem dX7_strangeAt_17 : decode cX7_strangeAt 17 = .ok (.bipush 9, 2) := by decide +kernel
theorem dX7_strangeAt_19 : decode cX7_strangeAt 19 = .ok (.ireturn, 1) := by decide +kernel
theorem dX7_strangeAt_20 : decode cX7_strangeAt 20 = .ok (.iconst 0, 1) := by decide +kernel
theorem dX7_strangeAt_21 : decode cX7_strangeAt 21 = .ok (.istore_n 3, 1) := by decide +kernel
theorem dX7_strangeAt_22 : decode cX7_strangeAt 22 = .ok (.iconst 0, 1) := by decide +kernel
theorem dX7_strangeAt_23 : decode cX7_strangeAt 23 = .ok (.istore 4, 2) := by decide +kernel
theorem dX7_strangeAt_25 : decode cX7_strangeAt 25 = .ok (.iload 4, 2) := by decide +kernel
theorem dX7_strangeAt_27 : decode cX7_strangeAt 27 = .ok (.aload_n 1, 1) := by decide +kernel
theorem dX7_strangeAt_28 : decode cX7_strangeAt 28 = .ok (.getfield 44, 3) := by decide +kernel
theorem dX7_strangeAt_31 : decode cX7_strangeAt 31 = .ok (.if_icmp .ge 31, 3) := by decide +kernel
theorem dX7_strangeAt_34 : decode cX7_strangeAt 34 = .ok (.aload_n 0, 1) := by decide +kernel
theorem dX7_strangeAt_35 : decode cX7_strangeAt 35 = .ok (.getfield 15, 3) := by decide +kernel
theorem dX7_strangeAt_38 : decode cX7_strangeAt 38 = .ok (.iload_n 2, 1) := by decide +kernel
theorem dX7_strangeAt_39 : decode cX7_strangeAt 39 = .ok (.iload 4, 2) := by decide +kernel
theorem dX7_strangeAt_41 : decode cX7_strangeAt 41 = .ok (.iadd, 1) := by decide +kernel
theorem dX7_strangeAt_42 : decode cX7_strangeAt 42 = .ok (.iaload, 1) := by decide +kernel
theorem dX7_strangeAt_43 : decode cX7_strangeAt 43 = .ok (.aload_n 1, 1) := by decide +kernel
theorem dX7_strangeAt_44 : decode cX7_strangeAt 44 = .ok (.getfield 47, 3) := by decide +kernel
theorem dX7_strangeAt_47 : decode cX7_strangeAt 47 = .ok (.iload 4, 2) := by decide +kernel
theorem dX7_strangeAt_49 : decode cX7_strangeAt 49 = .ok (.iaload, 1) := by decide +kernel
theorem dX7_strangeAt_50 : decode cX7_strangeAt 50 = .ok (.if_icmp .eq 6, 3) := by decide +kernel
theorem dX7_strangeAt_53 : decode cX7_strangeAt 53 = .ok (.iinc 3 1, 3) := by decide +kernel
theorem dX7_strangeAt_56 : decode cX7_strangeAt 56 = .ok (.iinc 4 1, 3) := by decide +kernel
theorem dX7_strangeAt_59 : decode cX7_strangeAt 59 = .ok (.goto (-34), 3) := by decide +kernel
theorem dX7_strangeAt_62 : decode cX7_strangeAt 62 = .ok (.iload_n 3, 1) := by decide +kernel
theorem dX7_strangeAt_63 : decode cX7_strangeAt 63 = .ok (.ireturn, 1) := by decide +kernel
theorem dX7_timesRead_0 : decode cX7_timesRead 0 = .ok (.aload_n 1, 1) := by decide +kernel
theorem dX7_timesRead_1 : decode cX7_timesRead 1 = .ok (.invokevirtual 48, 3) := by decide +kernel
theorem dX7_timesRead_4 : decode cX7_timesRead 4 = .ok (.ifCond .eq 5, 3) := by decide +kernel
theorem dX7_timesRead_7 : decode cX7_timesRead 7 = .ok (.iconst 0, 1) := by decide +kernel
theorem dX7_timesRead_8 : decode cX7_timesRead 8 = .ok (.ireturn, 1) := by decide +kernel
theorem dX7_timesRead_9 : decode cX7_timesRead 9 = .ok (.iconst 0, 1) := by decide +kernel
theorem dX7_timesRead_10 : decode cX7_timesRead 10 = .ok (.istore_n 2, 1) := by decide +kernel
theorem dX7_timesRead_11 : decode cX7_timesRead 11 = .ok (.iconst 0, 1) := by decide +kernel
theorem dX7_timesRead_12 : decode cX7_timesRead 12 = .ok (.istore_n 3, 1) := by decide +kernel
theorem dX7_timesRead_13 : decode cX7_timesRead 13 = .ok (.iload_n 3, 1) := by decide +kernel
theorem dX7_timesRead_14 : decode cX7_timesRead 14 = .ok (.aload_n 1, 1) := by decide +kernel
theorem dX7_timesRead_15 : decode cX7_timesRead 15 = .ok (.getfield 44, 3) := by decide +kernel
theorem dX7_timesRead_18 : decode cX7_timesRead 18 = .ok (.iadd, 1) := by decide +kernel
theorem dX7_timesRead_19 : decode cX7_timesRead 19 = .ok (.aload_n 0, 1) := by decide +kernel
theorem dX7_timesRead_20 : decode cX7_timesRead 20 = .ok (.getfield 18, 3) := by decide +kernel
theorem dX7_timesRead_23 : decode cX7_timesRead 23 = .ok (.if_icmp .gt 21, 3) := by decide +kernel
theorem dX7_timesRead_26 : decode cX7_timesRead 26 = .ok (.aload_n 0, 1) := by decide +kernel
theorem dX7_timesRead_27 : decode cX7_timesRead 27 = .ok (.aload_n 1, 1) := by decide +kernel
theorem dX7_timesRead_28 : decode cX7_timesRead 28 = .ok (.iload_n 3, 1) := by decide +kernel
theorem dX7_timesRead_29 : decode cX7_timesRead 29 = .ok (.invokevirtual 52, 3) := by decide +kernel
theorem dX7_timesRead_32 : decode cX7_timesRead 32 = .ok (.ifCond .ne 6, 3) := by decide +kernel
theorem dX7_timesRead_35 : decode cX7_timesRead 35 = .ok (.iinc 2 1, 3) := by decide +kernel
theorem dX7_timesRead_38 : decode cX7_timesRead 38 = .ok (.iinc 3 1, 3) := by decide +kernel
theorem dX7_timesRead_41 : decode cX7_timesRead 41 = .ok (.goto (-28), 3) := by decide +kernel
theorem dX7_timesRead_44 : decode cX7_timesRead 44 = .ok (.iload_n 2, 1) := by decide +kernel
theorem dX7_timesRead_45 : decode cX7_timesRead 45 = .ok (.ireturn, 1) := by decide +kernel
theorem dX7_firstRead_0 : decode cX7_firstRead 0 = .ok (.aload_n 1, 1) := by decide +kernel
theorem dX7_firstRead_1 : decode cX7_firstRead 1 = .ok (.invokevirtual 48, 3) := by decide +kernel
theorem dX7_firstRead_4 : decode cX7_firstRead 4 = .ok (.ifCond .eq 6, 3) := by decide +kernel
theorem dX7_firstRead_7 : decode cX7_firstRead 7 = .ok (.bipush (-2), 2) := by decide +kernel
theorem dX7_firstRead_9 : decode cX7_firstRead 9 = .ok (.ireturn, 1) := by decide +kernel
theorem dX7_firstRead_10 : decode cX7_firstRead 10 = .ok (.iconst 0, 1) := by decide +kernel
theorem dX7_firstRead_11 : decode cX7_firstRead 11 = .ok (.istore_n 2, 1) := by decide +kernel
theorem dX7_firstRead_12 : decode cX7_firstRead 12 = .ok (.iload_n 2, 1) := by decide +kernel
theorem dX7_firstRead_13 : decode cX7_firstRead 13 = .ok (.aload_n 1, 1) := by decide +kernel
theorem dX7_firstRead_14 : decode cX7_firstRead 14 = .ok (.getfield 44, 3) := by decide +kernel
theorem dX7_firstRead_17 : decode cX7_firstRead 17 = .ok (.iadd, 1) := by decide +kernel
theorem dX7_firstRead_18 : decode cX7_firstRead 18 = .ok (.aload_n 0, 1) := by decide +kernel
theorem dX7_firstRead_19 : decode cX7_firstRead 19 = .ok (.getfield 18, 3) := by decide +kernel
theorem dX7_firstRead_22 : decode cX7_firstRead 22 = .ok (.if_icmp .gt 20, 3) := by decide +kernel
theorem dX7_firstRead_25 : decode cX7_firstRead 25 = .ok (.aload_n 0, 1) := by decide +kernel
theorem dX7_firstRead_26 : decode cX7_firstRead 26 = .ok (.aload_n 1, 1) := by decide +kernel
theorem dX7_firstRead_27 : decode cX7_firstRead 27 = .ok (.iload_n 2, 1) := by decide +kernel
theorem dX7_firstRead_28 : decode cX7_firstRead 28 = .ok (.invokevirtual 52, 3) := by decide +kernel
theorem dX7_firstRead_31 : decode cX7_firstRead 31 = .ok (.ifCond .ne 5, 3) := by decide +kernel
theorem dX7_firstRead_34 : decode cX7_firstRead 34 = .ok (.iload_n 2, 1) := by decide +kernel
theorem dX7_firstRead_35 : decode cX7_firstRead 35 = .ok (.ireturn, 1) := by decide +kernel
theorem dX7_firstRead_36 : decode cX7_firstRead 36 = .ok (.iinc 2 1, 3) := by decide +kernel
theorem dX7_firstRead_39 : decode cX7_firstRead 39 = .ok (.goto (-27), 3) := by decide +kernel
theorem dX7_firstRead_42 : decode cX7_firstRead 42 = .ok (.bipush (-2), 2) := by decide +kernel
theorem dX7_firstRead_44 : decode cX7_firstRead 44 = .ok (.ireturn, 1) := by decide +kernel
theorem dX7_isRead_0 : decode cX7_isRead 0 = .ok (.aload_n 0, 1) := by decide +kernel
theorem dX7_isRead_1 : decode cX7_isRead 1 = .ok (.aload_n 1, 1) := by decide +kernel
theorem dX7_isRead_2 : decode cX7_isRead 2 = .ok (.invokevirtual 56, 3) := by decide +kernel
theorem dX7_isRead_5 : decode cX7_isRead 5 = .ok (.bipush (-2), 2) := by decide +kernel
theorem dX7_isRead_7 : decode cX7_isRead 7 = .ok (.if_icmp .eq 7, 3) := by decide +kernel
theorem dX7_isRead_10 : decode cX7_isRead 10 = .ok (.iconst 1, 1) := by decide +kernel
theorem dX7_isRead_11 : decode cX7_isRead 11 = .ok (.goto 4, 3) := by decide +kernel
theorem dX7_isRead_14 : decode cX7_isRead 14 = .ok (.iconst 0, 1) := by decide +kernel
theorem dX7_isRead_15 : decode cX7_isRead 15 = .ok (.ireturn, 1) := by decide +kernel
theorem dX7_cheapestPlace_0 : decode cX7_cheapestPlace 0 = .ok (.aload_n 1, 1) := by decide +kernel
theorem dX7_cheapestPlace_1 : decode cX7_cheapestPlace 1 = .ok (.invokevirtual 48, 3) := by decide +kernel
theorem dX7_cheapestPlace_4 : decode cX7_cheapestPlace 4 = .ok (.ifCond .eq 6, 3) := by decide +kernel
theorem dX7_cheapestPlace_7 : decode cX7_cheapestPlace 7 = .ok (.bipush (-2), 2) := by decide +kernel
theorem dX7_cheapestPlace_9 : decode cX7_cheapestPlace 9 = .ok (.ireturn, 1) := by decide +kernel
theorem dX7_cheapestPlace_10 : decode cX7_cheapestPlace 10 = .ok (.bipush (-2), 2) := by decide +kernel
theorem dX7_cheapestPlace_12 : decode cX7_cheapestPlace 12 = .ok (.istore_n 2, 1) := by decide +kernel
theorem dX7_cheapestPlace_13 : decode cX7_cheapestPlace 13 = .ok (.bipush 9, 2) := by decide +kernel
theorem dX7_cheapestPlace_15 : decode cX7_cheapestPlace 15 = .ok (.istore_n 3, 1) := by decide +kernel
theorem dX7_cheapestPlace_16 : decode cX7_cheapestPlace 16 = .ok (.iconst 0, 1) := by decide +kernel
theorem dX7_cheapestPlace_17 : decode cX7_cheapestPlace 17 = .ok (.istore 4, 2) := by decide +kernel
theorem dX7_cheapestPlace_19 : decode cX7_cheapestPlace 19 = .ok (.iload 4, 2) := by decide +kernel
theorem dX7_cheapestPlace_21 : decode cX7_cheapestPlace 21 = .ok (.aload_n 1, 1) := by decide +kernel
theorem dX7_cheapestPlace_22 : decode cX7_cheapestPlace 22 = .ok (.getfield 44, 3) := by decide +kernel
theorem dX7_cheapestPlace_25 : decode cX7_cheapestPlace 25 = .ok (.iadd, 1) := by decide +kernel
theorem dX7_cheapestPlace_26 : decode cX7_cheapestPlace 26 = .ok (.aload_n 0, 1) := by decide +kernel
theorem dX7_cheapestPlace_27 : decode cX7_cheapestPlace 27 = .ok (.getfield 18, 3) := by decide +kernel
theorem dX7_cheapestPlace_30 : decode cX7_cheapestPlace 30 = .ok (.if_icmp .gt 30, 3) := by decide +kernel
theorem dX7_cheapestPlace_33 : decode cX7_cheapestPlace 33 = .ok (.aload_n 0, 1) := by decide +kernel
theorem dX7_cheapestPlace_34 : decode cX7_cheapestPlace 34 = .ok (.aload_n 1, 1) := by decide +kernel
theorem dX7_cheapestPlace_35 : decode cX7_cheapestPlace 35 = .ok (.iload 4, 2) := by decide +kernel
theorem dX7_cheapestPlace_37 : decode cX7_cheapestPlace 37 = .ok (.invokevirtual 52, 3) := by decide +kernel
theorem dX7_cheapestPlace_40 : decode cX7_cheapestPlace 40 = .ok (.istore 5, 2) := by decide +kernel
theorem dX7_cheapestPlace_42 : decode cX7_cheapestPlace 42 = .ok (.iload 5, 2) := by decide +kernel
theorem dX7_cheapestPlace_44 : decode cX7_cheapestPlace 44 = .ok (.iload_n 3, 1) := by decide +kernel
theorem dX7_cheapestPlace_45 : decode cX7_cheapestPlace 45 = .ok (.if_icmp .ge 9, 3) := by decide +kernel
theorem dX7_cheapestPlace_48 : decode cX7_cheapestPlace 48 = .ok (.iload 5, 2) := by decide +kernel
theorem dX7_cheapestPlace_50 : decode cX7_cheapestPlace 50 = .ok (.istore_n 3, 1) := by decide +kernel
theorem dX7_cheapestPlace_51 : decode cX7_cheapestPlace 51 = .ok (.iload 4, 2) := by decide +kernel
theorem dX7_cheapestPlace_53 : decode cX7_cheapestPlace 53 = .ok (.istore_n 2, 1) := by decide +kernel
theorem dX7_cheapestPlace_54 : decode cX7_cheapestPlace 54 = .ok (.iinc 4 1, 3) := by decide +kernel
theorem dX7_cheapestPlace_57 : decode cX7_cheapestPlace 57 = .ok (.goto (-38), 3) := by decide +kernel
theorem dX7_cheapestPlace_60 : decode cX7_cheapestPlace 60 = .ok (.iload_n 2, 1) := by decide +kernel
theorem dX7_cheapestPlace_61 : decode cX7_cheapestPlace 61 = .ok (.ireturn, 1) := by decide +kernel
theorem dX7_countUnlike_0 : decode cX7_countUnlike 0 = .ok (.aload_n 0, 1) := by decide +kernel
theorem dX7_countUnlike_1 : decode cX7_countUnlike 1 = .ok (.getfield 18, 3) := by decide +kernel
theorem dX7_countUnlike_4 : decode cX7_countUnlike 4 = .ok (.aload_n 1, 1) := by decide +kernel
theorem dX7_countUnlike_5 : decode cX7_countUnlike 5 = .ok (.getfield 18, 3) := by decide +kernel
theorem dX7_countUnlike_8 : decode cX7_countUnlike 8 = .ok (.invokestatic 60, 3) := by decide +kernel
theorem dX7_countUnlike_11 : decode cX7_countUnlike 11 = .ok (.istore_n 2, 1) := by decide +kernel
theorem dX7_countUnlike_12 : decode cX7_countUnlike 12 = .ok (.aload_n 0, 1) := by decide +kernel
theorem dX7_countUnlike_13 : decode cX7_countUnlike 13 = .ok (.getfield 18, 3) := by decide +kernel
theorem dX7_countUnlike_16 : decode cX7_countUnlike 16 = .ok (.aload_n 1, 1) := by decide +kernel
theorem dX7_countUnlike_17 : decode cX7_countUnlike 17 = .ok (.getfield 18, 3) := by decide +kernel
theorem dX7_countUnlike_20 : decode cX7_countUnlike 20 = .ok (.invokestatic 65, 3) := by decide +kernel
theorem dX7_countUnlike_23 : decode cX7_countUnlike 23 = .ok (.iload_n 2, 1) := by decide +kernel
theorem dX7_countUnlike_24 : decode cX7_countUnlike 24 = .ok (.isub, 1) := by decide +kernel
theorem dX7_countUnlike_25 : decode cX7_countUnlike 25 = .ok (.istore_n 3, 1) := by decide +kernel
theorem dX7_countUnlike_26 : decode cX7_countUnlike 26 = .ok (.iconst 0, 1) := by decide +kernel
theorem dX7_countUnlike_27 : decode cX7_countUnlike 27 = .ok (.istore 4, 2) := by decide +kernel
theorem dX7_countUnlike_29 : decode cX7_countUnlike 29 = .ok (.iload 4, 2) := by decide +kernel
theorem dX7_countUnlike_31 : decode cX7_countUnlike 31 = .ok (.iload_n 2, 1) := by decide +kernel
theorem dX7_countUnlike_32 : decode cX7_countUnlike 32 = .ok (.if_icmp .ge 29, 3) := by decide +kernel
theorem dX7_countUnlike_35 : decode cX7_countUnlike 35 = .ok (.aload_n 0, 1) := by decide +kernel
theorem dX7_countUnlike_36 : decode cX7_countUnlike 36 = .ok (.getfield 15, 3) := by decide +kernel
theorem dX7_countUnlike_39 : decode cX7_countUnlike 39 = .ok (.iload 4, 2) := by decide +kernel
theorem dX7_countUnlike_41 : decode cX7_countUnlike 41 = .ok (.iaload, 1) := by decide +kernel
theorem dX7_countUnlike_42 : decode cX7_countUnlike 42 = .ok (.aload_n 1, 1) := by decide +kernel
theorem dX7_countUnlike_43 : decode cX7_countUnlike 43 = .ok (.getfield 15, 3) := by decide +kernel
theorem dX7_countUnlike_46 : decode cX7_countUnlike 46 = .ok (.iload 4, 2) := by decide +kernel
theorem dX7_countUnlike_48 : decode cX7_countUnlike 48 = .ok (.iaload, 1) := by decide +kernel
theorem dX7_countUnlike_49 : decode cX7_countUnlike 49 = .ok (.if_icmp .eq 6, 3) := by decide +kernel
theorem dX7_countUnlike_52 : decode cX7_countUnlike 52 = .ok (.iinc 3 1, 3) := by decide +kernel
theorem dX7_countUnlike_55 : decode cX7_countUnlike 55 = .ok (.iinc 4 1, 3) := by decide +kernel
theorem dX7_countUnlike_58 : decode cX7_countUnlike 58 = .ok (.goto (-29), 3) := by decide +kernel
theorem dX7_countUnlike_61 : decode cX7_countUnlike 61 = .ok (.iload_n 3, 1) := by decide +kernel
theorem dX7_countUnlike_62 : decode cX7_countUnlike 62 = .ok (.ireturn, 1) := by decide +kernel
theorem dX8_init_0 : decode cX8_init 0 = .ok (.aload_n 0, 1) := by decide +kernel
theorem dX8_init_1 : decode cX8_init 1 = .ok (.invokespecial 3, 3) := by decide +kernel
theorem dX8_init_4 : decode cX8_init 4 = .ok (.aload_n 0, 1) := by decide +kernel
theorem dX8_init_5 : decode cX8_init 5 = .ok (.bipush 8, 2) := by decide +kernel
theorem dX8_init_7 : decode cX8_init 7 = .ok (.newarray .int, 2) := by decide +kernel
theorem dX8_init_9 : decode cX8_init 9 = .ok (.putfield 9, 3) := by decide +kernel
theorem dX8_init_12 : decode cX8_init 12 = .ok (.return_, 1) := by decide +kernel
theorem dX8_hasBare_0 : decode cX8_hasBare 0 = .ok (.iconst 0, 1) := by decide +kernel
theorem dX8_hasBare_1 : decode cX8_hasBare 1 = .ok (.istore_n 1, 1) := by decide +kernel
theorem dX8_hasBare_2 : decode cX8_hasBare 2 = .ok (.iload_n 1, 1) := by decide +kernel
theorem dX8_hasBare_3 : decode cX8_hasBare 3 = .ok (.aload_n 0, 1) := by decide +kernel
theorem dX8_hasBare_4 : decode cX8_hasBare 4 = .ok (.getfield 15, 3) := by decide +kernel
theorem dX8_hasBare_7 : decode cX8_hasBare 7 = .ok (.if_icmp .ge 22, 3) := by decide +kernel
theorem dX8_hasBare_10 : decode cX8_hasBare 10 = .ok (.aload_n 0, 1) := by decide +kernel
theorem dX8_hasBare_11 : decode cX8_hasBare 11 = .ok (.getfield 9, 3) := by decide +kernel
theorem dX8_hasBare_14 : decode cX8_hasBare 14 = .ok (.iload_n 1, 1) := by decide +kernel
theorem dX8_hasBare_15 : decode cX8_hasBare 15 = .ok (.iaload, 1) := by decide +kernel
theorem dX8_hasBare_16 : decode cX8_hasBare 16 = .ok (.bipush 25, 2) := by decide +kernel
theorem dX8_hasBare_18 : decode cX8_hasBare 18 = .ok (.if_icmp .ne 5, 3) := by decide +kernel
theorem dX8_hasBare_21 : decode cX8_hasBare 21 = .ok (.iconst 1, 1) := by decide +kernel
theorem dX8_hasBare_22 : decode cX8_hasBare 22 = .ok (.ireturn, 1) := by decide +kernel
theorem dX8_hasBare_23 : decode cX8_hasBare 23 = .ok (.iinc 1 1, 3) := by decide +kernel
theorem dX8_hasBare_26 : decode cX8_hasBare 26 = .ok (.goto (-24), 3) := by decide +kernel
theorem dX8_hasBare_29 : decode cX8_hasBare 29 = .ok (.iconst 0, 1) := by decide +kernel
theorem dX8_hasBare_30 : decode cX8_hasBare 30 = .ok (.ireturn, 1) := by decide +kernel
theorem dX8_sameLetters_0 : decode cX8_sameLetters 0 = .ok (.aload_n 0, 1) := by decide +kernel
theorem dX8_sameLetters_1 : decode cX8_sameLetters 1 = .ok (.getfield 15, 3) := by decide +kernel
theorem dX8_sameLetters_4 : decode cX8_sameLetters 4 = .ok (.aload_n 1, 1) := by decide +kernel
theorem dX8_sameLetters_5 : decode cX8_sameLetters 5 = .ok (.getfield 15, 3) := by decide +kernel
theorem dX8_sameLetters_8 : decode cX8_sameLetters 8 = .ok (.if_icmp .ne 16, 3) := by decide +kernel
theorem dX8_sameLetters_11 : decode cX8_sameLetters 11 = .ok (.aload_n 0, 1) := by decide +kernel
theorem dX8_sameLetters_12 : decode cX8_sameLetters 12 = .ok (.aload_n 1, 1) := by decide +kernel
theorem dX8_sameLetters_13 : decode cX8_sameLetters 13 = .ok (.iconst 0, 1) := by decide +kernel
theorem dX8_sameLetters_14 : decode cX8_sameLetters 14 = .ok (.invokevirtual 19, 3) := by decide +kernel
theorem dX8_sameLetters_17 : decode cX8_sameLetters 17 = .ok (.ifCond .eq 7, 3) := by decide +kernel
theorem dX8_sameLetters_20 : decode cX8_sameLetters 20 = .ok (.iconst 1, 1) := by decide +kernel
theorem dX8_sameLetters_21 : decode cX8_sameLetters 21 = .ok (.goto 4, 3) := by decide +kernel
theorem dX8_sameLetters_24 : decode cX8_sameLetters 24 = .ok (.iconst 0, 1) := by decide +kernel
theorem dX8_sameLetters_25 : decode cX8_sameLetters 25 = .ok (.ireturn, 1) := by decide +kernel
theorem dX8_standsIn_0 : decode cX8_standsIn 0 = .ok (.iload_n 2, 1) := by decide +kernel
theorem dX8_standsIn_1 : decode cX8_standsIn 1 = .ok (.ifCond .lt 16, 3) := by decide +kernel
theorem dX8_standsIn_4 : decode cX8_standsIn 4 = .ok (.iload_n 2, 1) := by decide +kernel
theorem dX8_standsIn_5 : decode cX8_standsIn 5 = .ok (.aload_n 0, 1) := by decide +kernel
theorem dX8_standsIn_6 : decode cX8_standsIn 6 = .ok (.getfield 15, 3) := by decide +kernel
theorem dX8_standsIn_9 : decode cX8_standsIn 9 = .ok (.iadd, 1) := by decide +kernel
theorem dX8_standsIn_10 : decode cX8_standsIn 10 = .ok (.aload_n 1, 1) := by decide +kernel
theorem dX8_standsIn_11 : decode cX8_standsIn 11 = .ok (.getfield 15, 3) := by decide +kernel
theorem dX8_standsIn_14 : decode cX8_standsIn 14 = .ok (.if_icmp .le 5, 3) := by decide +kernel
theorem dX8_standsIn_17 : decode cX8_standsIn 17 = .ok (.iconst 0, 1) := by decide +kernel
theorem dX8_standsIn_18 : decode cX8_standsIn 18 = .ok (.ireturn, 1) := by decide +kernel
theorem dX8_standsIn_19 : decode cX8_standsIn 19 = .ok (.iconst 0, 1) := by decide +kernel
theorem dX8_standsIn_20 : decode cX8_standsIn 20 = .ok (.istore_n 3, 1) := by decide +kernel
theorem dX8_standsIn_21 : decode cX8_standsIn 21 = .ok (.iload_n 3, 1) := by decide +kernel
theorem dX8_standsIn_22 : decode cX8_standsIn 22 = .ok (.aload_n 0, 1) := by decide +kernel
theorem dX8_standsIn_23 : decode cX8_standsIn 23 = .ok (.getfield 15, 3) := by decide +kernel
theorem dX8_standsIn_26 : decode cX8_standsIn 26 = .ok (.if_icmp .ge 28, 3) := by decide +kernel
theorem dX8_standsIn_29 : decode cX8_standsIn 29 = .ok (.aload_n 0, 1) := by decide +kernel
theorem dX8_standsIn_30 : decode cX8_standsIn 30 = .ok (.getfield 9, 3) := by decide +kernel
theorem dX8_standsIn_33 : decode cX8_standsIn 33 = .ok (.iload_n 3, 1) := by decide +kernel
theorem dX8_standsIn_34 : decode cX8_standsIn 34 = .ok (.iaload, 1) := by decide +kernel
theorem dX8_standsIn_35 : decode cX8_standsIn 35 = .ok (.aload_n 1, 1) := by decide +kernel
theorem dX8_standsIn_36 : decode cX8_standsIn 36 = .ok (.getfield 9, 3) := by decide +kernel
theorem dX8_standsIn_39 : decode cX8_standsIn 39 = .ok (.iload_n 2, 1) := by decide +kernel
theorem dX8_standsIn_40 : decode cX8_standsIn 40 = .ok (.iload_n 3, 1) := by decide +kernel
theorem dX8_standsIn_41 : decode cX8_standsIn 41 = .ok (.iadd, 1) := by decide +kernel
theorem dX8_standsIn_42 : decode cX8_standsIn 42 = .ok (.iaload, 1) := by decide +kernel
theorem dX8_standsIn_43 : decode cX8_standsIn 43 = .ok (.if_icmp .eq 5, 3) := by decide +kernel
theorem dX8_standsIn_46 : decode cX8_standsIn 46 = .ok (.iconst 0, 1) := by decide +kernel
theorem dX8_standsIn_47 : decode cX8_standsIn 47 = .ok (.ireturn, 1) := by decide +kernel
theorem dX8_standsIn_48 : decode cX8_standsIn 48 = .ok (.iinc 3 1, 3) := by decide +kernel
theorem dX8_standsIn_51 : decode cX8_standsIn 51 = .ok (.goto (-30), 3) := by decide +kernel
theorem dX8_standsIn_54 : decode cX8_standsIn 54 = .ok (.iconst 1, 1) := by decide +kernel
theorem dX8_standsIn_55 : decode cX8_standsIn 55 = .ok (.ireturn, 1) := by decide +kernel
theorem dX8_liesIn_0 : decode cX8_liesIn 0 = .ok (.iconst 0, 1) := by decide +kernel
theorem dX8_liesIn_1 : decode cX8_liesIn 1 = .ok (.istore_n 2, 1) := by decide +kernel
theorem dX8_liesIn_2 : decode cX8_liesIn 2 = .ok (.iload_n 2, 1) := by decide +kernel
theorem dX8_liesIn_3 : decode cX8_liesIn 3 = .ok (.aload_n 0, 1) := by decide +kernel
theorem dX8_liesIn_4 : decode cX8_liesIn 4 = .ok (.getfield 15, 3) := by decide +kernel
theorem dX8_liesIn_7 : decode cX8_liesIn 7 = .ok (.iadd, 1) := by decide +kernel
theorem dX8_liesIn_8 : decode cX8_liesIn 8 = .ok (.aload_n 1, 1) := by decide +kernel
theorem dX8_liesIn_9 : decode cX8_liesIn 9 = .ok (.getfield 15, 3) := by decide +kernel
theorem dX8_liesIn_12 : decode cX8_liesIn 12 = .ok (.if_icmp .gt 20, 3) := by decide +kernel
theorem dX8_liesIn_15 : decode cX8_liesIn 15 = .ok (.aload_n 0, 1) := by decide +kernel
theorem dX8_liesIn_16 : decode cX8_liesIn 16 = .ok (.aload_n 1, 1) := by decide +kernel
theorem dX8_liesIn_17 : decode cX8_liesIn 17 = .ok (.iload_n 2, 1) := by decide +kernel
theorem dX8_liesIn_18 : decode cX8_liesIn 18 = .ok (.invokevirtual 19, 3) := by decide +kernel
theorem dX8_liesIn_21 : decode cX8_liesIn 21 = .ok (.ifCond .eq 5, 3) := by decide +kernel
theorem dX8_liesIn_24 : decode cX8_liesIn 24 = .ok (.iconst 1, 1) := by decide +kernel
theorem dX8_liesIn_25 : decode cX8_liesIn 25 = .ok (.ireturn, 1) := by decide +kernel
theorem dX8_liesIn_26 : decode cX8_liesIn 26 = .ok (.iinc 2 1, 3) := by decide +kernel
theorem dX8_liesIn_29 : decode cX8_liesIn 29 = .ok (.goto (-27), 3) := by decide +kernel
theorem dX8_liesIn_32 : decode cX8_liesIn 32 = .ok (.iconst 0, 1) := by decide +kernel
theorem dX8_liesIn_33 : decode cX8_liesIn 33 = .ok (.ireturn, 1) := by decide +kernel
theorem dX8_endsAsBegins_0 : decode cX8_endsAsBegins 0 = .ok (.iload_n 2, 1) := by decide +kernel
theorem dX8_endsAsBegins_1 : decode cX8_endsAsBegins 1 = .ok (.ifCond .lt 19, 3) := by decide +kernel
theorem dX8_endsAsBegins_4 : decode cX8_endsAsBegins 4 = .ok (.iload_n 2, 1) := by decide +kernel
theorem dX8_endsAsBegins_5 : decode cX8_endsAsBegins 5 = .ok (.aload_n 0, 1) := by decide +kernel
theorem dX8_endsAsBegins_6 : decode cX8_endsAsBegins 6 = .ok (.getfield 15, 3) := by decide +kernel
theorem dX8_endsAsBegins_9 : decode cX8_endsAsBegins 9 = .ok (.if_icmp .gt 11, 3) := by decide +kernel
theorem dX8_endsAsBegins_12 : decode cX8_endsAsBegins 12 = .ok (.iload_n 2, 1) := by decide +kernel
theorem dX8_endsAsBegins_13 : decode cX8_endsAsBegins 13 = .ok (.aload_n 1, 1) := by decide +kernel
theorem dX8_endsAsBegins_14 : decode cX8_endsAsBegins 14 = .ok (.getfield 15, 3) := by decide +kernel
theorem dX8_endsAsBegins_17 : decode cX8_endsAsBegins 17 = .ok (.if_icmp .le 5, 3) := by decide +kernel
theorem dX8_endsAsBegins_20 : decode cX8_endsAsBegins 20 = .ok (.iconst 0, 1) := by decide +kernel
theorem dX8_endsAsBegins_21 : decode cX8_endsAsBegins 21 = .ok (.ireturn, 1) := by decide +kernel
theorem dX8_endsAsBegins_22 : decode cX8_endsAsBegins 22 = .ok (.iconst 0, 1) := by decide +kernel
theorem dX8_endsAsBegins_23 : decode cX8_endsAsBegins 23 = .ok (.istore_n 3, 1) := by decide +kernel
theorem dX8_endsAsBegins_24 : decode cX8_endsAsBegins 24 = .ok (.iload_n 3, 1) := by decide +kernel
theorem dX8_endsAsBegins_25 : decode cX8_endsAsBegins 25 = .ok (.iload_n 2, 1) := by decide +kernel
theorem dX8_endsAsBegins_26 : decode cX8_endsAsBegins 26 = .ok (.if_icmp .ge 33, 3) := by decide +kernel
theorem dX8_endsAsBegins_29 : decode cX8_endsAsBegins 29 = .ok (.aload_n 0, 1) := by decide +kernel
theorem dX8_endsAsBegins_30 : decode cX8_endsAsBegins 30 = .ok (.getfield 9, 3) := by decide +kernel
theorem dX8_endsAsBegins_33 : decode cX8_endsAsBegins 33 = .ok (.aload_n 0, 1) := by decide +kernel
theorem dX8_endsAsBegins_34 : decode cX8_endsAsBegins 34 = .ok (.getfield 15, 3) := by decide +kernel
theorem dX8_endsAsBegins_37 : decode cX8_endsAsBegins 37 = .ok (.iload_n 2, 1) := by decide +kernel
theorem dX8_endsAsBegins_38 : decode cX8_endsAsBegins 38 = .ok (.isub, 1) := by decide +kernel
theorem dX8_endsAsBegins_39 : decode cX8_endsAsBegins 39 = .ok (.iload_n 3, 1) := by decide +kernel
theorem dX8_endsAsBegins_40 : decode cX8_endsAsBegins 40 = .ok (.iadd, 1) := by decide +kernel
theorem dX8_endsAsBegins_41 : decode cX8_endsAsBegins 41 = .ok (.iaload, 1) := by decide +kernel
theorem dX8_endsAsBegins_42 : decode cX8_endsAsBegins 42 = .ok (.aload_n 1, 1) := by decide +kernel
theorem dX8_endsAsBegins_43 : decode cX8_endsAsBegins 43 = .ok (.getfield 9, 3) := by decide +kernel
theorem dX8_endsAsBegins_46 : decode cX8_endsAsBegins 46 = .ok (.iload_n 3, 1) := by decide +kernel
theorem dX8_endsAsBegins_47 : decode cX8_endsAsBegins 47 = .ok (.iaload, 1) := by decide +kernel
theorem dX8_endsAsBegins_48 : decode cX8_endsAsBegins 48 = .ok (.if_icmp .eq 5, 3) := by decide +kernel
theorem dX8_endsAsBegins_51 : decode cX8_endsAsBegins 51 = .ok (.iconst 0, 1) := by decide +kernel
theorem dX8_endsAsBegins_52 : decode cX8_endsAsBegins 52 = .ok (.ireturn, 1) := by decide +kernel
theorem dX8_endsAsBegins_53 : decode cX8_endsAsBegins 53 = .ok (.iinc 3 1, 3) := by decide +kernel
theorem dX8_endsAsBegins_56 : decode cX8_endsAsBegins 56 = .ok (.goto (-32), 3) := by decide +kernel
theorem dX8_endsAsBegins_59 : decode cX8_endsAsBegins 59 = .ok (.iconst 1, 1) := by decide +kernel
theorem dX8_endsAsBegins_60 : decode cX8_endsAsBegins 60 = .ok (.ireturn, 1) := by decide +kernel
theorem dX9_init_0 : decode cX9_init 0 = .ok (.aload_n 0, 1) := by decide +kernel
theorem dX9_init_1 : decode cX9_init 1 = .ok (.invokespecial 3, 3) := by decide +kernel
theorem dX9_init_4 : decode cX9_init 4 = .ok (.aload_n 0, 1) := by decide +kernel
theorem dX9_init_5 : decode cX9_init 5 = .ok (.bipush 60, 2) := by decide +kernel
theorem dX9_init_7 : decode cX9_init 7 = .ok (.newarray .int, 2) := by decide +kernel
theorem dX9_init_9 : decode cX9_init 9 = .ok (.putfield 9, 3) := by decide +kernel
theorem dX9_init_12 : decode cX9_init 12 = .ok (.aload_n 0, 1) := by decide +kernel
theorem dX9_init_13 : decode cX9_init 13 = .ok (.bipush (-2), 2) := by decide +kernel
theorem dX9_init_15 : decode cX9_init 15 = .ok (.putfield 15, 3) := by decide +kernel
theorem dX9_init_18 : decode cX9_init 18 = .ok (.return_, 1) := by decide +kernel
theorem dX9_study_0 : decode cX9_study 0 = .ok (.iconst 0, 1) := by decide +kernel
theorem dX9_study_1 : decode cX9_study 1 = .ok (.istore_n 3, 1) := by decide +kernel
theorem dX9_study_2 : decode cX9_study 2 = .ok (.iload_n 3, 1) := by decide +kernel
theorem dX9_study_3 : decode cX9_study 3 = .ok (.aload_n 0, 1) := by decide +kernel
theorem dX9_study_4 : decode cX9_study 4 = .ok (.getfield 9, 3) := by decide +kernel
theorem dX9_study_7 : decode cX9_study 7 = .ok (.arraylength, 1) := by decide +kernel
theorem dX9_study_8 : decode cX9_study 8 = .ok (.if_icmp .ge 17, 3) := by decide +kernel
theorem dX9_study_11 : decode cX9_study 11 = .ok (.aload_n 0, 1) := by decide +kernel
theorem dX9_study_12 : decode cX9_study 12 = .ok (.getfield 9, 3) := by decide +kernel
theorem dX9_study_15 : decode cX9_study 15 = .ok (.iload_n 3, 1) := by decide +kernel
theorem dX9_study_16 : decode cX9_study 16 = .ok (.bipush (-3), 2) := by decide +kernel
theorem dX9_study_18 : decode cX9_study 18 = .ok (.iastore, 1) := by decide +kernel
theorem dX9_study_19 : decode cX9_study 19 = .ok (.iinc 3 1, 3) := by decide +kernel
theorem dX9_study_22 : decode cX9_study 22 = .ok (.goto (-20), 3) := by decide +kernel
theorem dX9_study_25 : decode cX9_study 25 = .ok (.aload_n 0, 1) := by decide +kernel
theorem dX9_study_26 : decode cX9_study 26 = .ok (.bipush (-2), 2) := by decide +kernel
theorem dX9_study_28 : decode cX9_study 28 = .ok (.putfield 15, 3) := by decide +kernel
theorem dX9_study_31 : decode cX9_study 31 = .ok (.iconst 0, 1) := by decide +kernel
theorem dX9_study_32 : decode cX9_study 32 = .ok (.istore_n 3, 1) := by decide +kernel
theorem dX9_study_33 : decode cX9_study 33 = .ok (.iload_n 3, 1) := by decide +kernel
theorem dX9_study_34 : decode cX9_study 34 = .ok (.aload_n 1, 1) := by decide +kernel
theorem dX9_study_35 : decode cX9_study 35 = .ok (.getfield 19, 3) := by decide +kernel
theorem dX9_study_38 : decode cX9_study 38 = .ok (.if_icmp .ge 71, 3) := by decide +kernel
theorem dX9_study_41 : decode cX9_study 41 = .ok (.aload_n 0, 1) := by decide +kernel
theorem dX9_study_42 : decode cX9_study 42 = .ok (.getfield 15, 3) := by decide +kernel
theorem dX9_study_45 : decode cX9_study 45 = .ok (.bipush (-2), 2) := by decide +kernel
theorem dX9_study_47 : decode cX9_study 47 = .ok (.if_icmp .ne 62, 3) := by decide +kernel
theorem dX9_study_50 : decode cX9_study 50 = .ok (.aload_n 1, 1) := by decide +kernel
theorem dX9_study_51 : decode cX9_study 51 = .ok (.getfield 24, 3) := by decide +kernel
theorem dX9_study_54 : decode cX9_study 54 = .ok (.iload_n 3, 1) := by decide +kernel
theorem dX9_study_55 : decode cX9_study 55 = .ok (.aaload, 1) := by decide +kernel
theorem dX9_study_56 : decode cX9_study 56 = .ok (.astore 4, 2) := by decide +kernel
theorem dX9_study_58 : decode cX9_study 58 = .ok (.aload_n 2, 1) := by decide +kernel
theorem dX9_study_59 : decode cX9_study 59 = .ok (.aload_n 1, 1) := by decide +kernel
theorem dX9_study_60 : decode cX9_study 60 = .ok (.aload_n 1, 1) := by decide +kernel
theorem dX9_study_61 : decode cX9_study 61 = .ok (.getfield 28, 3) := by decide +kernel
theorem dX9_study_64 : decode cX9_study 64 = .ok (.iconst 0, 1) := by decide +kernel
theorem dX9_study_65 : decode cX9_study 65 = .ok (.aload 4, 2) := by decide +kernel
theorem dX9_study_67 : decode cX9_study 67 = .ok (.getfield 32, 3) := by decide +kernel
theorem dX9_study_70 : decode cX9_study 70 = .ok (.aload 4, 2) := by decide +kernel
theorem dX9_study_72 : decode cX9_study 72 = .ok (.getfield 37, 3) := by decide +kernel
theorem dX9_study_75 : decode cX9_study 75 = .ok (.invokevirtual 40, 3) := by decide +kernel
theorem dX9_study_78 : decode cX9_study 78 = .ok (.aload_n 0, 1) := by decide +kernel
theorem dX9_study_79 : decode cX9_study 79 = .ok (.aload 4, 2) := by decide +kernel
theorem dX9_study_81 : decode cX9_study 81 = .ok (.aload_n 2, 1) := by decide +kernel
theorem dX9_study_82 : decode cX9_study 82 = .ok (.invokevirtual 46, 3) := by decide +kernel
theorem dX9_study_85 : decode cX9_study 85 = .ok (.ifCond .eq 11, 3) := by decide +kernel
theorem dX9_study_88 : decode cX9_study 88 = .ok (.aload_n 0, 1) := by decide +kernel
theorem dX9_study_89 : decode cX9_study 89 = .ok (.iload_n 3, 1) := by decide +kernel
theorem dX9_study_90 : decode cX9_study 90 = .ok (.putfield 15, 3) := by decide +kernel
theorem dX9_study_93 : decode cX9_study 93 = .ok (.goto 10, 3) := by decide +kernel
theorem dX9_study_96 : decode cX9_study 96 = .ok (.aload_n 0, 1) := by decide +kernel
theorem dX9_study_97 : decode cX9_study 97 = .ok (.aload 4, 2) := by decide +kernel
theorem dX9_study_99 : decode cX9_study 99 = .ok (.aload_n 2, 1) := by decide +kernel
theorem dX9_study_100 : decode cX9_study 100 = .ok (.invokevirtual 50, 3) := by decide +kernel
theorem dX9_study_103 : decode cX9_study 103 = .ok (.iinc 3 1, 3) := by decide +kernel
theorem dX9_study_106 : decode cX9_study 106 = .ok (.goto (-73), 3) := by decide +kernel
theorem dX9_study_109 : decode cX9_study 109 = .ok (.return_, 1) := by decide +kernel
theorem dX9_contradicts_0 : decode cX9_contradicts 0 = .ok (.iconst 0, 1) := by decide +kernel
theorem dX9_contradicts_1 : decode cX9_contradicts 1 = .ok (.istore_n 3, 1) := by decide +kernel
theorem dX9_contradicts_2 : decode cX9_contradicts 2 = .ok (.iload_n 3, 1) := by decide +kernel
theorem dX9_contradicts_3 : decode cX9_contradicts 3 = .ok (.aload_n 1, 1) := by decide +kernel
theorem dX9_contradicts_4 : decode cX9_contradicts 4 = .ok (.getfield 54, 3) := by decide +kernel
theorem dX9_contradicts_7 : decode cX9_contradicts 7 = .ok (.if_icmp .ge 63, 3) := by decide +kernel
theorem dX9_contradicts_10 : decode cX9_contradicts 10 = .ok (.aload_n 1, 1) := by decide +kernel
theorem dX9_contradicts_11 : decode cX9_contradicts 11 = .ok (.getfield 57, 3) := by decide +kernel
theorem dX9_contradicts_14 : decode cX9_contradicts 14 = .ok (.iload_n 3, 1) := by decide +kernel
theorem dX9_contradicts_15 : decode cX9_contradicts 15 = .ok (.iadd, 1) := by decide +kernel
theorem dX9_contradicts_16 : decode cX9_contradicts 16 = .ok (.aload_n 2, 1) := by decide +kernel
theorem dX9_contradicts_17 : decode cX9_contradicts 17 = .ok (.getfield 60, 3) := by decide +kernel
theorem dX9_contradicts_20 : decode cX9_contradicts 20 = .ok (.if_icmp .ge 50, 3) := by decide +kernel
theorem dX9_contradicts_23 : decode cX9_contradicts 23 = .ok (.aload_n 0, 1) := by decide +kernel
theorem dX9_contradicts_24 : decode cX9_contradicts 24 = .ok (.aload_n 1, 1) := by decide +kernel
theorem dX9_contradicts_25 : decode cX9_contradicts 25 = .ok (.getfield 32, 3) := by decide +kernel
theorem dX9_contradicts_28 : decode cX9_contradicts 28 = .ok (.aload_n 2, 1) := by decide +kernel
theorem dX9_contradicts_29 : decode cX9_contradicts 29 = .ok (.getfield 61, 3) := by decide +kernel
theorem dX9_contradicts_32 : decode cX9_contradicts 32 = .ok (.aload_n 1, 1) := by decide +kernel
theorem dX9_contradicts_33 : decode cX9_contradicts 33 = .ok (.getfield 57, 3) := by decide +kernel
theorem dX9_contradicts_36 : decode cX9_contradicts 36 = .ok (.iload_n 3, 1) := by decide +kernel
theorem dX9_contradicts_37 : decode cX9_contradicts 37 = .ok (.iadd, 1) := by decide +kernel
theorem dX9_contradicts_38 : decode cX9_contradicts 38 = .ok (.iaload, 1) := by decide +kernel
theorem dX9_contradicts_39 : decode cX9_contradicts 39 = .ok (.invokevirtual 64, 3) := by decide +kernel
theorem dX9_contradicts_42 : decode cX9_contradicts 42 = .ok (.istore 4, 2) := by decide +kernel
theorem dX9_contradicts_44 : decode cX9_contradicts 44 = .ok (.iload 4, 2) := by decide +kernel
theorem dX9_contradicts_46 : decode cX9_contradicts 46 = .ok (.bipush (-3), 2) := by decide +kernel
theorem dX9_contradicts_48 : decode cX9_contradicts 48 = .ok (.if_icmp .eq 16, 3) := by decide +kernel
theorem dX9_contradicts_51 : decode cX9_contradicts 51 = .ok (.iload 4, 2) := by decide +kernel
theorem dX9_contradicts_53 : decode cX9_contradicts 53 = .ok (.aload_n 1, 1) := by decide +kernel
theorem dX9_contradicts_54 : decode cX9_contradicts 54 = .ok (.getfield 68, 3) := by decide +kernel
theorem dX9_contradicts_57 : decode cX9_contradicts 57 = .ok (.iload_n 3, 1) := by decide +kernel
theorem dX9_contradicts_58 : decode cX9_contradicts 58 = .ok (.iaload, 1) := by decide +kernel
theorem dX9_contradicts_59 : decode cX9_contradicts 59 = .ok (.if_icmp .eq 5, 3) := by decide +kernel
theorem dX9_contradicts_62 : decode cX9_contradicts 62 = .ok (.iconst 1, 1) := by decide +kernel
theorem dX9_contradicts_63 : decode cX9_contradicts 63 = .ok (.ireturn, 1) := by decide +kernel
theorem dX9_contradicts_64 : decode cX9_contradicts 64 = .ok (.iinc 3 1, 3) := by decide +kernel
theorem dX9_contradicts_67 : decode cX9_contradicts 67 = .ok (.goto (-65), 3) := by decide +kernel
theorem dX9_contradicts_70 : decode cX9_contradicts 70 = .ok (.iconst 0, 1) := by decide +kernel
theorem dX9_contradicts_71 : decode cX9_contradicts 71 = .ok (.ireturn, 1) := by decide +kernel
theorem dX9_learn_0 : decode cX9_learn 0 = .ok (.iconst 0, 1) := by decide +kernel
theorem dX9_learn_1 : decode cX9_learn 1 = .ok (.istore_n 3, 1) := by decide +kernel
theorem dX9_learn_2 : decode cX9_learn 2 = .ok (.iload_n 3, 1) := by decide +kernel
theorem dX9_learn_3 : decode cX9_learn 3 = .ok (.aload_n 1, 1) := by decide +kernel
theorem dX9_learn_4 : decode cX9_learn 4 = .ok (.getfield 54, 3) := by decide +kernel
theorem dX9_learn_7 : decode cX9_learn 7 = .ok (.if_icmp .ge 70, 3) := by decide +kernel
theorem dX9_learn_10 : decode cX9_learn 10 = .ok (.aload_n 1, 1) := by decide +kernel
theorem dX9_learn_11 : decode cX9_learn 11 = .ok (.getfield 57, 3) := by decide +kernel
theorem dX9_learn_14 : decode cX9_learn 14 = .ok (.iload_n 3, 1) := by decide +kernel
theorem dX9_learn_15 : decode cX9_learn 15 = .ok (.iadd, 1) := by decide +kernel
theorem dX9_learn_16 : decode cX9_learn 16 = .ok (.aload_n 2, 1) := by decide +kernel
theorem dX9_learn_17 : decode cX9_learn 17 = .ok (.getfield 60, 3) := by decide +kernel
theorem dX9_learn_20 : decode cX9_learn 20 = .ok (.if_icmp .ge 57, 3) := by decide +kernel
theorem dX9_learn_23 : decode cX9_learn 23 = .ok (.aload_n 1, 1) := by decide +kernel
theorem dX9_learn_24 : decode cX9_learn 24 = .ok (.getfield 32, 3) := by decide +kernel
theorem dX9_learn_27 : decode cX9_learn 27 = .ok (.aload_n 2, 1) := by decide +kernel
theorem dX9_learn_28 : decode cX9_learn 28 = .ok (.getfield 61, 3) := by decide +kernel
theorem dX9_learn_31 : decode cX9_learn 31 = .ok (.aload_n 1, 1) := by decide +kernel
theorem dX9_learn_32 : decode cX9_learn 32 = .ok (.getfield 57, 3) := by decide +kernel
theorem dX9_learn_35 : decode cX9_learn 35 = .ok (.iload_n 3, 1) := by decide +kernel
theorem dX9_learn_36 : decode cX9_learn 36 = .ok (.iadd, 1) := by decide +kernel
theorem dX9_learn_37 : decode cX9_learn 37 = .ok (.iaload, 1) := by decide +kernel
theorem dX9_learn_38 : decode cX9_learn 38 = .ok (.invokestatic 71, 3) := by decide +kernel
theorem dX9_learn_41 : decode cX9_learn 41 = .ok (.istore 4, 2) := by decide +kernel
theorem dX9_learn_43 : decode cX9_learn 43 = .ok (.iload 4, 2) := by decide +kernel
theorem dX9_learn_45 : decode cX9_learn 45 = .ok (.ifCond .lt 26, 3) := by decide +kernel
theorem dX9_learn_48 : decode cX9_learn 48 = .ok (.iload 4, 2) := by decide +kernel
theorem dX9_learn_50 : decode cX9_learn 50 = .ok (.aload_n 0, 1) := by decide +kernel
theorem dX9_learn_51 : decode cX9_learn 51 = .ok (.getfield 9, 3) := by decide +kernel
theorem dX9_learn_54 : decode cX9_learn 54 = .ok (.arraylength, 1) := by decide +kernel
theorem dX9_learn_55 : decode cX9_learn 55 = .ok (.if_icmp .ge 16, 3) := by decide +kernel
theorem dX9_learn_58 : decode cX9_learn 58 = .ok (.aload_n 0, 1) := by decide +kernel
theorem dX9_learn_59 : decode cX9_learn 59 = .ok (.getfield 9, 3) := by decide +kernel
theorem dX9_learn_62 : decode cX9_learn 62 = .ok (.iload 4, 2) := by decide +kernel
theorem dX9_learn_64 : decode cX9_learn 64 = .ok (.aload_n 1, 1) := by decide +kernel
theorem dX9_learn_65 : decode cX9_learn 65 = .ok (.getfield 68, 3) := by decide +kernel
theorem dX9_learn_68 : decode cX9_learn 68 = .ok (.iload_n 3, 1) := by decide +kernel
theorem dX9_learn_69 : decode cX9_learn 69 = .ok (.iaload, 1) := by decide +kernel
theorem dX9_learn_70 : decode cX9_learn 70 = .ok (.iastore, 1) := by decide +kernel
theorem dX9_learn_71 : decode cX9_learn 71 = .ok (.iinc 3 1, 3) := by decide +kernel
theorem dX9_learn_74 : decode cX9_learn 74 = .ok (.goto (-72), 3) := by decide +kernel
theorem dX9_learn_77 : decode cX9_learn 77 = .ok (.return_, 1) := by decide +kernel
theorem dX9_sureLetter_0 : decode cX9_sureLetter 0 = .ok (.iload_n 1, 1) := by decide +kernel
theorem dX9_sureLetter_1 : decode cX9_sureLetter 1 = .ok (.iload_n 2, 1) := by decide +kernel
theorem dX9_sureLetter_2 : decode cX9_sureLetter 2 = .ok (.invokestatic 71, 3) := by decide +kernel
theorem dX9_sureLetter_5 : decode cX9_sureLetter 5 = .ok (.istore_n 3, 1) := by decide +kernel
theorem dX9_sureLetter_6 : decode cX9_sureLetter 6 = .ok (.iload_n 3, 1) := by decide +kernel
theorem dX9_sureLetter_7 : decode cX9_sureLetter 7 = .ok (.ifCond .lt 12, 3) := by decide +kernel
theorem dX9_sureLetter_10 : decode cX9_sureLetter 10 = .ok (.iload_n 3, 1) := by decide +kernel
theorem dX9_sureLetter_11 : decode cX9_sureLetter 11 = .ok (.aload_n 0, 1) := by decide +kernel
theorem dX9_sureLetter_12 : decode cX9_sureLetter 12 = .ok (.getfield 9, 3) := by decide +kernel
theorem dX9_sureLetter_15 : decode cX9_sureLetter 15 = .ok (.arraylength, 1) := by decide +kernel
theorem dX9_sureLetter_16 : decode cX9_sureLetter 16 = .ok (.if_icmp .lt 8, 3) := by decide +kernel
theorem dX9_sureLetter_19 : decode cX9_sureLetter 19 = .ok (.bipush (-3), 2) := by decide +kernel
theorem dX9_sureLetter_21 : decode cX9_sureLetter 21 = .ok (.goto 9, 3) := by decide +kernel
theorem dX9_sureLetter_24 : decode cX9_sureLetter 24 = .ok (.aload_n 0, 1) := by decide +kernel
theorem dX9_sureLetter_25 : decode cX9_sureLetter 25 = .ok (.getfield 9, 3) := by decide +kernel
theorem dX9_sureLetter_28 : decode cX9_sureLetter 28 = .ok (.iload_n 3, 1) := by decide +kernel
theorem dX9_sureLetter_29 : decode cX9_sureLetter 29 = .ok (.iaload, 1) := by decide +kernel
theorem dX9_sureLetter_30 : decode cX9_sureLetter 30 = .ok (.ireturn, 1) := by decide +kernel
theorem dX9_countSure_0 : decode cX9_countSure 0 = .ok (.iconst 0, 1) := by decide +kernel
theorem dX9_countSure_1 : decode cX9_countSure 1 = .ok (.istore_n 1, 1) := by decide +kernel
theorem dX9_countSure_2 : decode cX9_countSure 2 = .ok (.iconst 0, 1) := by decide +kernel
theorem dX9_countSure_3 : decode cX9_countSure 3 = .ok (.istore_n 2, 1) := by decide +kernel
theorem dX9_countSure_4 : decode cX9_countSure 4 = .ok (.iload_n 2, 1) := by decide +kernel
theorem dX9_countSure_5 : decode cX9_countSure 5 = .ok (.aload_n 0, 1) := by decide +kernel
theorem dX9_countSure_6 : decode cX9_countSure 6 = .ok (.getfield 9, 3) := by decide +kernel
theorem dX9_countSure_9 : decode cX9_countSure 9 = .ok (.arraylength, 1) := by decide +kernel
theorem dX9_countSure_10 : decode cX9_countSure 10 = .ok (.if_icmp .ge 23, 3) := by decide +kernel
theorem dX9_countSure_13 : decode cX9_countSure 13 = .ok (.aload_n 0, 1) := by decide +kernel
theorem dX9_countSure_14 : decode cX9_countSure 14 = .ok (.getfield 9, 3) := by decide +kernel
theorem dX9_countSure_17 : decode cX9_countSure 17 = .ok (.iload_n 2, 1) := by decide +kernel
theorem dX9_countSure_18 : decode cX9_countSure 18 = .ok (.iaload, 1) := by decide +kernel
theorem dX9_countSure_19 : decode cX9_countSure 19 = .ok (.bipush (-3), 2) := by decide +kernel
theorem dX9_countSure_21 : decode cX9_countSure 21 = .ok (.if_icmp .eq 6, 3) := by decide +kernel
theorem dX9_countSure_24 : decode cX9_countSure 24 = .ok (.iinc 1 1, 3) := by decide +kernel
theorem dX9_countSure_27 : decode cX9_countSure 27 = .ok (.iinc 2 1, 3) := by decide +kernel
theorem dX9_countSure_30 : decode cX9_countSure 30 = .ok (.goto (-26), 3) := by decide +kernel
theorem dX9_countSure_33 : decode cX9_countSure 33 = .ok (.iload_n 1, 1) := by decide +kernel
theorem dX9_countSure_34 : decode cX9_countSure 34 = .ok (.ireturn, 1) := by decide +kernel
theorem dX9_countUnsure_0 : decode cX9_countUnsure 0 = .ok (.iconst 0, 1) := by decide +kernel
theorem dX9_countUnsure_1 : decode cX9_countUnsure 1 = .ok (.istore_n 3, 1) := by decide +kernel
theorem dX9_countUnsure_2 : decode cX9_countUnsure 2 = .ok (.iconst 0, 1) := by decide +kernel
theorem dX9_countUnsure_3 : decode cX9_countUnsure 3 = .ok (.istore 4, 2) := by decide +kernel
theorem dX9_countUnsure_5 : decode cX9_countUnsure 5 = .ok (.iload 4, 2) := by decide +kernel
theorem dX9_countUnsure_7 : decode cX9_countUnsure 7 = .ok (.aload_n 1, 1) := by decide +kernel
theorem dX9_countUnsure_8 : decode cX9_countUnsure 8 = .ok (.getfield 60, 3) := by decide +kernel
theorem dX9_countUnsure_11 : decode cX9_countUnsure 11 = .ok (.if_icmp .ge 29, 3) := by decide +kernel
theorem dX9_countUnsure_14 : decode cX9_countUnsure 14 = .ok (.aload_n 0, 1) := by decide +kernel
theorem dX9_countUnsure_15 : decode cX9_countUnsure 15 = .ok (.iload_n 2, 1) := by decide +kernel
theorem dX9_countUnsure_16 : decode cX9_countUnsure 16 = .ok (.aload_n 1, 1) := by decide +kernel
theorem dX9_countUnsure_17 : decode cX9_countUnsure 17 = .ok (.getfield 61, 3) := by decide +kernel
theorem dX9_countUnsure_20 : decode cX9_countUnsure 20 = .ok (.iload 4, 2) := by decide +kernel
theorem dX9_countUnsure_22 : decode cX9_countUnsure 22 = .ok (.iaload, 1) := by decide +kernel
theorem dX9_countUnsure_23 : decode cX9_countUnsure 23 = .ok (.invokevirtual 64, 3) := by decide +kernel
theorem dX9_countUnsure_26 : decode cX9_countUnsure 26 = .ok (.bipush (-3), 2) := by decide +kernel
theorem dX9_countUnsure_28 : decode cX9_countUnsure 28 = .ok (.if_icmp .ne 6, 3) := by decide +kernel
theorem dX9_countUnsure_31 : decode cX9_countUnsure 31 = .ok (.iinc 3 1, 3) := by decide +kernel
theorem dX9_countUnsure_34 : decode cX9_countUnsure 34 = .ok (.iinc 4 1, 3) := by decide +kernel
theorem dX9_countUnsure_37 : decode cX9_countUnsure 37 = .ok (.goto (-32), 3) := by decide +kernel
theorem dX9_countUnsure_40 : decode cX9_countUnsure 40 = .ok (.iload_n 3, 1) := by decide +kernel
theorem dX9_countUnsure_41 : decode cX9_countUnsure 41 = .ok (.ireturn, 1) := by decide +kernel
theorem dJ6_bitCount_0f7a4_0 : decode cJ6_bitCount_0f7a4 0 = .ok (.iload_n 0, 1) := by decide +kernel
theorem dJ6_bitCount_0f7a4_1 : decode cJ6_bitCount_0f7a4 1 = .ok (.iload_n 0, 1) := by decide +kernel
theorem dJ6_bitCount_0f7a4_2 : decode cJ6_bitCount_0f7a4 2 = .ok (.iconst 1, 1) := by decide +kernel
theorem dJ6_bitCount_0f7a4_3 : decode cJ6_bitCount_0f7a4 3 = .ok (.iushr, 1) := by decide +kernel
theorem dJ6_bitCount_0f7a4_4 : decode cJ6_bitCount_0f7a4 4 = .ok (.ldc_w 265, 3) := by decide +kernel
theorem dJ6_bitCount_0f7a4_7 : decode cJ6_bitCount_0f7a4 7 = .ok (.iand, 1) := by decide +kernel
theorem dJ6_bitCount_0f7a4_8 : decode cJ6_bitCount_0f7a4 8 = .ok (.isub, 1) := by decide +kernel
theorem dJ6_bitCount_0f7a4_9 : decode cJ6_bitCount_0f7a4 9 = .ok (.istore_n 0, 1) := by decide +kernel
theorem dJ6_bitCount_0f7a4_10 : decode cJ6_bitCount_0f7a4 10 = .ok (.iload_n 0, 1) := by decide +kernel
theorem dJ6_bitCount_0f7a4_11 : decode cJ6_bitCount_0f7a4 11 = .ok (.ldc_w 266, 3) := by decide +kernel
theorem dJ6_bitCount_0f7a4_14 : decode cJ6_bitCount_0f7a4 14 = .ok (.iand, 1) := by decide +kernel
theorem dJ6_bitCount_0f7a4_15 : decode cJ6_bitCount_0f7a4 15 = .ok (.iload_n 0, 1) := by decide +kernel
theorem dJ6_bitCount_0f7a4_16 : decode cJ6_bitCount_0f7a4 16 = .ok (.iconst 2, 1) := by decide +kernel
theorem dJ6_bitCount_0f7a4_17 : decode cJ6_bitCount_0f7a4 17 = .ok (.iushr, 1) := by decide +kernel
theorem dJ6_bitCount_0f7a4_18 : decode cJ6_bitCount_0f7a4 18 = .ok (.ldc_w 266, 3) := by decide +kernel
theorem dJ6_bitCount_0f7a4_21 : decode cJ6_bitCount_0f7a4 21 = .ok (.iand, 1) := by decide +kernel
theorem dJ6_bitCount_0f7a4_22 : decode cJ6_bitCount_0f7a4 22 = .ok (.iadd, 1) := by decide +kernel
theorem dJ6_bitCount_0f7a4_23 : decode cJ6_bitCount_0f7a4 23 = .ok (.istore_n 0, 1) := by decide +kernel
theorem dJ6_bitCount_0f7a4_24 : decode cJ6_bitCount_0f7a4 24 = .ok (.iload_n 0, 1) := by decide +kernel
theorem dJ6_bitCount_0f7a4_25 : decode cJ6_bitCount_0f7a4 25 = .ok (.iload_n 0, 1) := by decide +kernel
theorem dJ6_bitCount_0f7a4_26 : decode cJ6_bitCount_0f7a4 26 = .ok (.iconst 4, 1) := by decide +kernel
theorem dJ6_bitCount_0f7a4_27 : decode cJ6_bitCount_0f7a4 27 = .ok (.iushr, 1) := by decide +kernel
theorem dJ6_bitCount_0f7a4_28 : decode cJ6_bitCount_0f7a4 28 = .ok (.iadd, 1) := by decide +kernel
theorem dJ6_bitCount_0f7a4_29 : decode cJ6_bitCount_0f7a4 29 = .ok (.ldc_w 267, 3) := by decide +kernel
theorem dJ6_bitCount_0f7a4_32 : decode cJ6_bitCount_0f7a4 32 = .ok (.iand, 1) := by decide +kernel
theorem dJ6_bitCount_0f7a4_33 : decode cJ6_bitCount_0f7a4 33 = .ok (.istore_n 0, 1) := by decide +kernel
theorem dJ6_bitCount_0f7a4_34 : decode cJ6_bitCount_0f7a4 34 = .ok (.iload_n 0, 1) := by decide +kernel
theorem dJ6_bitCount_0f7a4_35 : decode cJ6_bitCount_0f7a4 35 = .ok (.iload_n 0, 1) := by decide +kernel
theorem dJ6_bitCount_0f7a4_36 : decode cJ6_bitCount_0f7a4 36 = .ok (.bipush 8, 2) := by decide +kernel
theorem dJ6_bitCount_0f7a4_38 : decode cJ6_bitCount_0f7a4 38 = .ok (.iushr, 1) := by decide +kernel
theorem dJ6_bitCount_0f7a4_39 : decode cJ6_bitCount_0f7a4 39 = .ok (.iadd, 1) := by decide +kernel
theorem dJ6_bitCount_0f7a4_40 : decode cJ6_bitCount_0f7a4 40 = .ok (.istore_n 0, 1) := by decide +kernel
theorem dJ6_bitCount_0f7a4_41 : decode cJ6_bitCount_0f7a4 41 = .ok (.iload_n 0, 1) := by decide +kernel
theorem dJ6_bitCount_0f7a4_42 : decode cJ6_bitCount_0f7a4 42 = .ok (.iload_n 0, 1) := by decide +kernel
theorem dJ6_bitCount_0f7a4_43 : decode cJ6_bitCount_0f7a4 43 = .ok (.bipush 16, 2) := by decide +kernel
theorem dJ6_bitCount_0f7a4_45 : decode cJ6_bitCount_0f7a4 45 = .ok (.iushr, 1) := by decide +kernel
theorem dJ6_bitCount_0f7a4_46 : decode cJ6_bitCount_0f7a4 46 = .ok (.iadd, 1) := by decide +kernel
theorem dJ6_bitCount_0f7a4_47 : decode cJ6_bitCount_0f7a4 47 = .ok (.istore_n 0, 1) := by decide +kernel
theorem dJ6_bitCount_0f7a4_48 : decode cJ6_bitCount_0f7a4 48 = .ok (.iload_n 0, 1) := by decide +kernel
theorem dJ6_bitCount_0f7a4_49 : decode cJ6_bitCount_0f7a4 49 = .ok (.bipush 63, 2) := by decide +kernel
theorem dJ6_bitCount_0f7a4_51 : decode cJ6_bitCount_0f7a4 51 = .ok (.iand, 1) := by decide +kernel
theorem dJ6_bitCount_0f7a4_52 : decode cJ6_bitCount_0f7a4 52 = .ok (.ireturn, 1) := by decide +kernel
theorem dJ9_max_7cf53_0 : decode cJ9_max_7cf53 0 = .ok (.iload_n 0, 1) := by decide +kernel
theorem dJ9_max_7cf53_1 : decode cJ9_max_7cf53 1 = .ok (.iload_n 1, 1) := by decide +kernel
theorem dJ9_max_7cf53_2 : decode cJ9_max_7cf53 2 = .ok (.if_icmp .lt 7, 3) := by decide +kernel
theorem dJ9_max_7cf53_5 : decode cJ9_max_7cf53 5 = .ok (.iload_n 0, 1) := by decide +kernel
theorem dJ9_max_7cf53_6 : decode cJ9_max_7cf53 6 = .ok (.goto 4, 3) := by decide +kernel
theorem dJ9_max_7cf53_9 : decode cJ9_max_7cf53 9 = .ok (.iload_n 1, 1) := by decide +kernel
theorem dJ9_max_7cf53_10 : decode cJ9_max_7cf53 10 = .ok (.ireturn, 1) := by decide +kernel
theorem dJ9_min_7cf53_0 : decode cJ9_min_7cf53 0 = .ok (.iload_n 0, 1) := by decide +kernel
theorem dJ9_min_7cf53_1 : decode cJ9_min_7cf53 1 = .ok (.iload_n 1, 1) := by decide +kernel
theorem dJ9_min_7cf53_2 : decode cJ9_min_7cf53 2 = .ok (.if_icmp .gt 7, 3) := by decide +kernel
theorem dJ9_min_7cf53_5 : decode cJ9_min_7cf53 5 = .ok (.iload_n 0, 1) := by decide +kernel
theorem dJ9_min_7cf53_6 : decode cJ9_min_7cf53 6 = .ok (.goto 4, 3) := by decide +kernel
theorem dJ9_min_7cf53_9 : decode cJ9_min_7cf53 9 = .ok (.iload_n 1, 1) := by decide +kernel
theorem dJ9_min_7cf53_10 : decode cJ9_min_7cf53 10 = .ok (.ireturn, 1) := by decide +kernel
theorem dJ0_length_8abf5_0 : decode cJ0_length_8abf5 0 = .ok (.aload_n 0, 1) := by decide +kernel
theorem dJ0_length_8abf5_1 : decode cJ0_length_8abf5 1 = .ok (.getfield 9, 3) := by decide +kernel
theorem dJ0_length_8abf5_4 : decode cJ0_length_8abf5 4 = .ok (.arraylength, 1) := by decide +kernel
theorem dJ0_length_8abf5_5 : decode cJ0_length_8abf5 5 = .ok (.aload_n 0, 1) := by decide +kernel
theorem dJ0_length_8abf5_6 : decode cJ0_length_8abf5 6 = .ok (.invokevirtual 335, 3) := by decide +kernel
theorem dJ0_length_8abf5_9 : decode cJ0_length_8abf5 9 = .ok (.ishr, 1) := by decide +kernel
theorem dJ0_length_8abf5_10 : decode cJ0_length_8abf5 10 = .ok (.ireturn, 1) := by decide +kernel
theorem dJ0_charAt_5068e_0 : decode cJ0_charAt_5068e 0 = .ok (.aload_n 0, 1) := by decide +kernel
theorem dJ0_charAt_5068e_1 : decode cJ0_charAt_5068e 1 = .ok (.invokevirtual 492, 3) := by decide +kernel
theorem dJ0_charAt_5068e_4 : decode cJ0_charAt_5068e 4 = .ok (.ifCond .eq 12, 3) := by decide +kernel
theorem dJ0_charAt_5068e_7 : decode cJ0_charAt_5068e 7 = .ok (.aload_n 0, 1) := by decide +kernel
theorem dJ0_charAt_5068e_8 : decode cJ0_charAt_5068e 8 = .ok (.getfield 9, 3) := by decide +kernel
theorem dJ0_charAt_5068e_11 : decode cJ0_charAt_5068e 11 = .ok (.iload_n 1, 1) := by decide +kernel
theorem dJ0_charAt_5068e_12 : decode cJ0_charAt_5068e 12 = .ok (.invokestatic 495, 3) := by decide +kernel
theorem dJ0_charAt_5068e_15 : decode cJ0_charAt_5068e 15 = .ok (.ireturn, 1) := by decide +kernel
theorem dJ0_charAt_5068e_16 : decode cJ0_charAt_5068e 16 = .ok (.aload_n 0, 1) := by decide +kernel
theorem dJ0_charAt_5068e_17 : decode cJ0_charAt_5068e 17 = .ok (.getfield 9, 3) := by decide +kernel
theorem dJ0_charAt_5068e_20 : decode cJ0_charAt_5068e 20 = .ok (.iload_n 1, 1) := by decide +kernel
theorem dJ0_charAt_5068e_21 : decode cJ0_charAt_5068e 21 = .ok (.invokestatic 498, 3) := by decide +kernel
theorem dJ0_charAt_5068e_24 : decode cJ0_charAt_5068e 24 = .ok (.ireturn, 1) := by decide +kernel
theorem dJ0_coder_7d493_0 : decode cJ0_coder_7d493 0 = .ok (.getstatic 38, 3) := by decide +kernel
theorem dJ0_coder_7d493_3 : decode cJ0_coder_7d493 3 = .ok (.ifCond .eq 10, 3) := by decide +kernel
theorem dJ0_coder_7d493_6 : decode cJ0_coder_7d493 6 = .ok (.aload_n 0, 1) := by decide +kernel
theorem dJ0_coder_7d493_7 : decode cJ0_coder_7d493 7 = .ok (.getfield 15, 3) := by decide +kernel
theorem dJ0_coder_7d493_10 : decode cJ0_coder_7d493 10 = .ok (.goto 4, 3) := by decide +kernel
theorem dJ0_coder_7d493_13 : decode cJ0_coder_7d493 13 = .ok (.iconst 1, 1) := by decide +kernel
theorem dJ0_coder_7d493_14 : decode cJ0_coder_7d493 14 = .ok (.ireturn, 1) := by decide +kernel
theorem dJ0_isLatin1_aae02_0 : decode cJ0_isLatin1_aae02 0 = .ok (.getstatic 38, 3) := by decide +kernel
theorem dJ0_isLatin1_aae02_3 : decode cJ0_isLatin1_aae02 3 = .ok (.ifCond .eq 14, 3) := by decide +kernel
theorem dJ0_isLatin1_aae02_6 : decode cJ0_isLatin1_aae02 6 = .ok (.aload_n 0, 1) := by decide +kernel
theorem dJ0_isLatin1_aae02_7 : decode cJ0_isLatin1_aae02 7 = .ok (.getfield 15, 3) := by decide +kernel
theorem dJ0_isLatin1_aae02_10 : decode cJ0_isLatin1_aae02 10 = .ok (.ifCond .ne 7, 3) := by decide +kernel
theorem dJ0_isLatin1_aae02_13 : decode cJ0_isLatin1_aae02 13 = .ok (.iconst 1, 1) := by decide +kernel
theorem dJ0_isLatin1_aae02_14 : decode cJ0_isLatin1_aae02 14 = .ok (.goto 4, 3) := by decide +kernel
theorem dJ0_isLatin1_aae02_17 : decode cJ0_isLatin1_aae02 17 = .ok (.iconst 0, 1) := by decide +kernel
theorem dJ0_isLatin1_aae02_18 : decode cJ0_isLatin1_aae02 18 = .ok (.ireturn, 1) := by decide +kernel
theorem dJ0_checkIndex_df160_0 : decode cJ0_checkIndex_df160 0 = .ok (.iload_n 0, 1) := by decide +kernel
theorem dJ0_checkIndex_df160_1 : decode cJ0_checkIndex_df160 1 = .ok (.iload_n 1, 1) := by decide +kernel
theorem dJ0_checkIndex_df160_2 : decode cJ0_checkIndex_df160 2 = .ok (.getstatic 1053, 3) := by decide +kernel
theorem dJ0_checkIndex_df160_5 : decode cJ0_checkIndex_df160 5 = .ok (.invokestatic 1059, 3) := by decide +kernel
theorem dJ0_checkIndex_df160_8 : decode cJ0_checkIndex_df160 8 = .ok (.pop, 1) := by decide +kernel
theorem dJ0_checkIndex_df160_9 : decode cJ0_checkIndex_df160 9 = .ok (.return_, 1) := by decide +kernel
theorem dJ1_charAt_3b067_0 : decode cJ1_charAt_3b067 0 = .ok (.iload_n 1, 1) := by decide +kernel
theorem dJ1_charAt_3b067_1 : decode cJ1_charAt_3b067 1 = .ok (.aload_n 0, 1) := by decide +kernel
theorem dJ1_charAt_3b067_2 : decode cJ1_charAt_3b067 2 = .ok (.arraylength, 1) := by decide +kernel
theorem dJ1_charAt_3b067_3 : decode cJ1_charAt_3b067 3 = .ok (.invokestatic 9, 3) := by decide +kernel
theorem dJ1_charAt_3b067_6 : decode cJ1_charAt_3b067 6 = .ok (.aload_n 0, 1) := by decide +kernel
theorem dJ1_charAt_3b067_7 : decode cJ1_charAt_3b067 7 = .ok (.iload_n 1, 1) := by decide +kernel
theorem dJ1_charAt_3b067_8 : decode cJ1_charAt_3b067 8 = .ok (.baload, 1) := by decide +kernel
theorem dJ1_charAt_3b067_9 : decode cJ1_charAt_3b067 9 = .ok (.sipush 255, 3) := by decide +kernel
theorem dJ1_charAt_3b067_12 : decode cJ1_charAt_3b067 12 = .ok (.iand, 1) := by decide +kernel
theorem dJ1_charAt_3b067_13 : decode cJ1_charAt_3b067 13 = .ok (.i2c, 1) := by decide +kernel
theorem dJ1_charAt_3b067_14 : decode cJ1_charAt_3b067 14 = .ok (.ireturn, 1) := by decide +kernel
theorem dJ2_getChar_3b067_0 : decode cJ2_getChar_3b067 0 = .ok (.getstatic 44, 3) := by decide +kernel
theorem dJ2_getChar_3b067_3 : decode cJ2_getChar_3b067 3 = .ok (.ifCond .ne 25, 3) := by decide +kernel
theorem dJ2_getChar_3b067_6 : decode cJ2_getChar_3b067 6 = .ok (.iload_n 1, 1) := by decide +kernel
theorem dJ2_getChar_3b067_7 : decode cJ2_getChar_3b067 7 = .ok (.ifCond .lt 11, 3) := by decide +kernel
theorem dJ2_getChar_3b067_10 : decode cJ2_getChar_3b067 10 = .ok (.iload_n 1, 1) := by decide +kernel
theorem dJ2_getChar_3b067_11 : decode cJ2_getChar_3b067 11 = .ok (.aload_n 0, 1) := by decide +kernel
theorem dJ2_getChar_3b067_12 : decode cJ2_getChar_3b067 12 = .ok (.invokestatic 48, 3) := by decide +kernel
theorem dJ2_getChar_3b067_15 : decode cJ2_getChar_3b067 15 = .ok (.if_icmp .lt 13, 3) := by decide +kernel
theorem dJ2_getChar_3b067_18 : decode cJ2_getChar_3b067 18 = .ok (.new 52, 3) := by decide +kernel
theorem dJ2_getChar_3b067_21 : decode cJ2_getChar_3b067 21 = .ok (.dup, 1) := by decide +kernel
theorem dJ2_getChar_3b067_22 : decode cJ2_getChar_3b067 22 = .ok (.ldc 54, 2) := by decide +kernel
theorem dJ2_getChar_3b067_24 : decode cJ2_getChar_3b067 24 = .ok (.invokespecial 56, 3) := by decide +kernel
theorem dJ2_getChar_3b067_27 : decode cJ2_getChar_3b067 27 = .ok (.athrow, 1) := by decide +kernel
theorem dJ2_getChar_3b067_28 : decode cJ2_getChar_3b067 28 = .ok (.iload_n 1, 1) := by decide +kernel
theorem dJ2_getChar_3b067_29 : decode cJ2_getChar_3b067 29 = .ok (.iconst 1, 1) := by decide +kernel
theorem dJ2_getChar_3b067_30 : decode cJ2_getChar_3b067 30 = .ok (.ishl, 1) := by decide +kernel
theorem dJ2_getChar_3b067_31 : decode cJ2_getChar_3b067 31 = .ok (.istore_n 1, 1) := by decide +kernel
theorem dJ2_getChar_3b067_32 : decode cJ2_getChar_3b067 32 = .ok (.aload_n 0, 1) := by decide +kernel
theorem dJ2_getChar_3b067_33 : decode cJ2_getChar_3b067 33 = .ok (.iload_n 1, 1) := by decide +kernel
theorem dJ2_getChar_3b067_34 : decode cJ2_getChar_3b067 34 = .ok (.iinc 1 1, 3) := by decide +kernel
theorem dJ2_getChar_3b067_37 : decode cJ2_getChar_3b067 37 = .ok (.baload, 1) := by decide +kernel
theorem dJ2_getChar_3b067_38 : decode cJ2_getChar_3b067 38 = .ok (.sipush 255, 3) := by decide +kernel
theorem dJ2_getChar_3b067_41 : decode cJ2_getChar_3b067 41 = .ok (.iand, 1) := by decide +kernel
theorem dJ2_getChar_3b067_42 : decode cJ2_getChar_3b067 42 = .ok (.getstatic 59, 3) := by decide +kernel
theorem dJ2_getChar_3b067_45 : decode cJ2_getChar_3b067 45 = .ok (.ishl, 1) := by decide +kernel
theorem dJ2_getChar_3b067_46 : decode cJ2_getChar_3b067 46 = .ok (.aload_n 0, 1) := by decide +kernel
theorem dJ2_getChar_3b067_47 : decode cJ2_getChar_3b067 47 = .ok (.iload_n 1, 1) := by decide +kernel
theorem dJ2_getChar_3b067_48 : decode cJ2_getChar_3b067 48 = .ok (.baload, 1) := by decide +kernel
theorem dJ2_getChar_3b067_49 : decode cJ2_getChar_3b067 49 = .ok (.sipush 255, 3) := by decide +kernel
theorem dJ2_getChar_3b067_52 : decode cJ2_getChar_3b067 52 = .ok (.iand, 1) := by decide +kernel
theorem dJ2_getChar_3b067_53 : decode cJ2_getChar_3b067 53 = .ok (.getstatic 63, 3) := by decide +kernel
theorem dJ2_getChar_3b067_56 : decode cJ2_getChar_3b067 56 = .ok (.ishl, 1) := by decide +kernel
theorem dJ2_getChar_3b067_57 : decode cJ2_getChar_3b067 57 = .ok (.ior, 1) := by decide +kernel
theorem dJ2_getChar_3b067_58 : decode cJ2_getChar_3b067 58 = .ok (.i2c, 1) := by decide +kernel
theorem dJ2_getChar_3b067_59 : decode cJ2_getChar_3b067 59 = .ok (.ireturn, 1) := by decide +kernel
theorem dJ2_length_9d52b_0 : decode cJ2_length_9d52b 0 = .ok (.aload_n 0, 1) := by decide +kernel
theorem dJ2_length_9d52b_1 : decode cJ2_length_9d52b 1 = .ok (.arraylength, 1) := by decide +kernel
theorem dJ2_length_9d52b_2 : decode cJ2_length_9d52b 2 = .ok (.iconst 1, 1) := by decide +kernel
theorem dJ2_length_9d52b_3 : decode cJ2_length_9d52b 3 = .ok (.ishr, 1) := by decide +kernel
theorem dJ2_length_9d52b_4 : decode cJ2_length_9d52b 4 = .ok (.ireturn, 1) := by decide +kernel
theorem dJ2_charAt_3b067_0 : decode cJ2_charAt_3b067 0 = .ok (.iload_n 1, 1) := by decide +kernel
theorem dJ2_charAt_3b067_1 : decode cJ2_charAt_3b067 1 = .ok (.aload_n 0, 1) := by decide +kernel
theorem dJ2_charAt_3b067_2 : decode cJ2_charAt_3b067 2 = .ok (.invokestatic 67, 3) := by decide +kernel
theorem dJ2_charAt_3b067_5 : decode cJ2_charAt_3b067 5 = .ok (.aload_n 0, 1) := by decide +kernel
theorem dJ2_charAt_3b067_6 : decode cJ2_charAt_3b067 6 = .ok (.iload_n 1, 1) := by decide +kernel
theorem dJ2_charAt_3b067_7 : decode cJ2_charAt_3b067 7 = .ok (.invokestatic 71, 3) := by decide +kernel
theorem dJ2_charAt_3b067_10 : decode cJ2_charAt_3b067 10 = .ok (.ireturn, 1) := by decide +kernel
theorem dJ2_checkIndex_2214a_0 : decode cJ2_checkIndex_2214a 0 = .ok (.iload_n 0, 1) := by decide +kernel
theorem dJ2_checkIndex_2214a_1 : decode cJ2_checkIndex_2214a 1 = .ok (.aload_n 1, 1) := by decide +kernel
theorem dJ2_checkIndex_2214a_2 : decode cJ2_checkIndex_2214a 2 = .ok (.invokestatic 48, 3) := by decide +kernel
theorem dJ2_checkIndex_2214a_5 : decode cJ2_checkIndex_2214a 5 = .ok (.invokestatic 414, 3) := by decide +kernel
theorem dJ2_checkIndex_2214a_8 : decode cJ2_checkIndex_2214a 8 = .ok (.return_, 1) := by decide +kernel
theorem dJ3_checkIndex_8e157_0 : decode cJ3_checkIndex_8e157 0 = .ok (.iload_n 0, 1) := by decide +kernel
theorem dJ3_checkIndex_8e157_1 : decode cJ3_checkIndex_8e157 1 = .ok (.ifCond .lt 8, 3) := by decide +kernel
theorem dJ3_checkIndex_8e157_4 : decode cJ3_checkIndex_8e157 4 = .ok (.iload_n 0, 1) := by decide +kernel
theorem dJ3_checkIndex_8e157_5 : decode cJ3_checkIndex_8e157 5 = .ok (.iload_n 1, 1) := by decide +kernel
theorem dJ3_checkIndex_8e157_6 : decode cJ3_checkIndex_8e157 6 = .ok (.if_icmp .lt 10, 3) := by decide +kernel
theorem dJ3_checkIndex_8e157_9 : decode cJ3_checkIndex_8e157 9 = .ok (.aload_n 2, 1) := by decide +kernel
theorem dJ3_checkIndex_8e157_10 : decode cJ3_checkIndex_8e157 10 = .ok (.iload_n 0, 1) := by decide +kernel
theorem dJ3_checkIndex_8e157_11 : decode cJ3_checkIndex_8e157 11 = .ok (.iload_n 1, 1) := by decide +kernel
theorem dJ3_checkIndex_8e157_12 : decode cJ3_checkIndex_8e157 12 = .ok (.invokestatic 95, 3) := by decide +kernel
theorem dJ3_checkIndex_8e157_15 : decode cJ3_checkIndex_8e157 15 = .ok (.athrow, 1) := by decide +kernel
theorem dJ3_checkIndex_8e157_16 : decode cJ3_checkIndex_8e157 16 = .ok (.iload_n 0, 1) := by decide +kernel
theorem dJ3_checkIndex_8e157_17 : decode cJ3_checkIndex_8e157 17 = .ok (.ireturn, 1) := by decide +kernel

theorem dX11_init_0 : decode cX11_init 0 = .ok (.aload_n 0, 1) := by decide +kernel
theorem dX11_init_1 : decode cX11_init 1 = .ok (.invokespecial 1, 3) := by decide +kernel
theorem dX11_init_4 : decode cX11_init 4 = .ok (.aload_n 0, 1) := by decide +kernel
theorem dX11_init_5 : decode cX11_init 5 = .ok (.sipush 900, 3) := by decide +kernel
theorem dX11_init_8 : decode cX11_init 8 = .ok (.newarray .int, 2) := by decide +kernel
theorem dX11_init_10 : decode cX11_init 10 = .ok (.putfield 7, 3) := by decide +kernel
theorem dX11_init_13 : decode cX11_init 13 = .ok (.aload_n 0, 1) := by decide +kernel
theorem dX11_init_14 : decode cX11_init 14 = .ok (.iconst (-1), 1) := by decide +kernel
theorem dX11_init_15 : decode cX11_init 15 = .ok (.putfield 13, 3) := by decide +kernel
theorem dX11_init_18 : decode cX11_init 18 = .ok (.aload_n 0, 1) := by decide +kernel
theorem dX11_init_19 : decode cX11_init 19 = .ok (.bipush 8, 2) := by decide +kernel
theorem dX11_init_21 : decode cX11_init 21 = .ok (.newarray .int, 2) := by decide +kernel
theorem dX11_init_23 : decode cX11_init 23 = .ok (.putfield 17, 3) := by decide +kernel
theorem dX11_init_26 : decode cX11_init 26 = .ok (.aload_n 0, 1) := by decide +kernel
theorem dX11_init_27 : decode cX11_init 27 = .ok (.sipush 186, 3) := by decide +kernel
theorem dX11_init_30 : decode cX11_init 30 = .ok (.newarray .int, 2) := by decide +kernel
theorem dX11_init_32 : decode cX11_init 32 = .ok (.putfield 20, 3) := by decide +kernel
theorem dX11_init_35 : decode cX11_init 35 = .ok (.aload_n 0, 1) := by decide +kernel
theorem dX11_init_36 : decode cX11_init 36 = .ok (.sipush 186, 3) := by decide +kernel
theorem dX11_init_39 : decode cX11_init 39 = .ok (.newarray .int, 2) := by decide +kernel
theorem dX11_init_41 : decode cX11_init 41 = .ok (.putfield 23, 3) := by decide +kernel
theorem dX11_init_44 : decode cX11_init 44 = .ok (.aload_n 0, 1) := by decide +kernel
theorem dX11_init_45 : decode cX11_init 45 = .ok (.bipush 62, 2) := by decide +kernel
theorem dX11_init_47 : decode cX11_init 47 = .ok (.newarray .int, 2) := by decide +kernel
theorem dX11_init_49 : decode cX11_init 49 = .ok (.putfield 26, 3) := by decide +kernel
theorem dX11_init_52 : decode cX11_init 52 = .ok (.aload_n 0, 1) := by decide +kernel
theorem dX11_init_53 : decode cX11_init 53 = .ok (.bipush 62, 2) := by decide +kernel
theorem dX11_init_55 : decode cX11_init 55 = .ok (.newarray .int, 2) := by decide +kernel
theorem dX11_init_57 : decode cX11_init 57 = .ok (.putfield 29, 3) := by decide +kernel
theorem dX11_init_60 : decode cX11_init 60 = .ok (.aload_n 0, 1) := by decide +kernel
theorem dX11_init_61 : decode cX11_init 61 = .ok (.sipush 992, 3) := by decide +kernel
theorem dX11_init_64 : decode cX11_init 64 = .ok (.newarray .int, 2) := by decide +kernel
theorem dX11_init_66 : decode cX11_init 66 = .ok (.putfield 32, 3) := by decide +kernel
theorem dX11_init_69 : decode cX11_init 69 = .ok (.aload_n 0, 1) := by decide +kernel
theorem dX11_init_70 : decode cX11_init 70 = .ok (.sipush 186, 3) := by decide +kernel
theorem dX11_init_73 : decode cX11_init 73 = .ok (.newarray .int, 2) := by decide +kernel
theorem dX11_init_75 : decode cX11_init 75 = .ok (.putfield 35, 3) := by decide +kernel
theorem dX11_init_78 : decode cX11_init 78 = .ok (.aload_n 0, 1) := by decide +kernel
theorem dX11_init_79 : decode cX11_init 79 = .ok (.bipush 30, 2) := by decide +kernel
theorem dX11_init_81 : decode cX11_init 81 = .ok (.newarray .int, 2) := by decide +kernel
theorem dX11_init_83 : decode cX11_init 83 = .ok (.putfield 38, 3) := by decide +kernel
theorem dX11_init_86 : decode cX11_init 86 = .ok (.aload_n 0, 1) := by decide +kernel
theorem dX11_init_87 : decode cX11_init 87 = .ok (.bipush 30, 2) := by decide +kernel
theorem dX11_init_89 : decode cX11_init 89 = .ok (.newarray .int, 2) := by decide +kernel
theorem dX11_init_91 : decode cX11_init 91 = .ok (.putfield 41, 3) := by decide +kernel
theorem dX11_init_94 : decode cX11_init 94 = .ok (.aload_n 0, 1) := by decide +kernel
theorem dX11_init_95 : decode cX11_init 95 = .ok (.bipush 60, 2) := by decide +kernel
theorem dX11_init_97 : decode cX11_init 97 = .ok (.newarray .int, 2) := by decide +kernel
theorem dX11_init_99 : decode cX11_init 99 = .ok (.putfield 44, 3) := by decide +kernel
theorem dX11_init_102 : decode cX11_init 102 = .ok (.aload_n 0, 1) := by decide +kernel
theorem dX11_init_103 : decode cX11_init 103 = .ok (.bipush 60, 2) := by decide +kernel
theorem dX11_init_105 : decode cX11_init 105 = .ok (.newarray .int, 2) := by decide +kernel
theorem dX11_init_107 : decode cX11_init 107 = .ok (.putfield 47, 3) := by decide +kernel
theorem dX11_init_110 : decode cX11_init 110 = .ok (.aload_n 0, 1) := by decide +kernel
theorem dX11_init_111 : decode cX11_init 111 = .ok (.bipush 120, 2) := by decide +kernel
theorem dX11_init_113 : decode cX11_init 113 = .ok (.newarray .int, 2) := by decide +kernel
theorem dX11_init_115 : decode cX11_init 115 = .ok (.putfield 50, 3) := by decide +kernel
theorem dX11_init_118 : decode cX11_init 118 = .ok (.aload_n 0, 1) := by decide +kernel
theorem dX11_init_119 : decode cX11_init 119 = .ok (.iconst 4, 1) := by decide +kernel
theorem dX11_init_120 : decode cX11_init 120 = .ok (.newarray .int, 2) := by decide +kernel
theorem dX11_init_122 : decode cX11_init 122 = .ok (.putfield 53, 3) := by decide +kernel
theorem dX11_init_125 : decode cX11_init 125 = .ok (.aload_n 0, 1) := by decide +kernel
theorem dX11_init_126 : decode cX11_init 126 = .ok (.sipush 384, 3) := by decide +kernel
theorem dX11_init_129 : decode cX11_init 129 = .ok (.newarray .int, 2) := by decide +kernel
theorem dX11_init_131 : decode cX11_init 131 = .ok (.putfield 56, 3) := by decide +kernel
theorem dX11_init_134 : decode cX11_init 134 = .ok (.aload_n 0, 1) := by decide +kernel
theorem dX11_init_135 : decode cX11_init 135 = .ok (.bipush 60, 2) := by decide +kernel
theorem dX11_init_137 : decode cX11_init 137 = .ok (.newarray .int, 2) := by decide +kernel
theorem dX11_init_139 : decode cX11_init 139 = .ok (.putfield 59, 3) := by decide +kernel
theorem dX11_init_142 : decode cX11_init 142 = .ok (.aload_n 0, 1) := by decide +kernel
theorem dX11_init_143 : decode cX11_init 143 = .ok (.bipush 6, 2) := by decide +kernel
theorem dX11_init_145 : decode cX11_init 145 = .ok (.newarray .int, 2) := by decide +kernel
theorem dX11_init_147 : decode cX11_init 147 = .ok (.putfield 62, 3) := by decide +kernel
theorem dX11_init_150 : decode cX11_init 150 = .ok (.aload_n 0, 1) := by decide +kernel
theorem dX11_init_151 : decode cX11_init 151 = .ok (.bipush 6, 2) := by decide +kernel
theorem dX11_init_153 : decode cX11_init 153 = .ok (.newarray .int, 2) := by decide +kernel
theorem dX11_init_155 : decode cX11_init 155 = .ok (.putfield 65, 3) := by decide +kernel
theorem dX11_init_158 : decode cX11_init 158 = .ok (.aload_n 0, 1) := by decide +kernel
theorem dX11_init_159 : decode cX11_init 159 = .ok (.bipush 36, 2) := by decide +kernel
theorem dX11_init_161 : decode cX11_init 161 = .ok (.newarray .int, 2) := by decide +kernel
theorem dX11_init_163 : decode cX11_init 163 = .ok (.putfield 68, 3) := by decide +kernel
theorem dX11_init_166 : decode cX11_init 166 = .ok (.return_, 1) := by decide +kernel
theorem dX11_thrown_0 : decode cX11_thrown 0 = .ok (.aload_n 0, 1) := by decide +kernel
theorem dX11_thrown_1 : decode cX11_thrown 1 = .ok (.getfield 71, 3) := by decide +kernel
theorem dX11_thrown_4 : decode cX11_thrown 4 = .ok (.ireturn, 1) := by decide +kernel
theorem dX11_good_0 : decode cX11_good 0 = .ok (.aload_n 0, 1) := by decide +kernel
theorem dX11_good_1 : decode cX11_good 1 = .ok (.iconst 0, 1) := by decide +kernel
theorem dX11_good_2 : decode cX11_good 2 = .ok (.putfield 71, 3) := by decide +kernel
theorem dX11_good_5 : decode cX11_good 5 = .ok (.aload_n 0, 1) := by decide +kernel
theorem dX11_good_6 : decode cX11_good 6 = .ok (.iconst 0, 1) := by decide +kernel
theorem dX11_good_7 : decode cX11_good 7 = .ok (.putfield 74, 3) := by decide +kernel
theorem dX11_good_10 : decode cX11_good 10 = .ok (.return_, 1) := by decide +kernel
theorem dX11_no_0 : decode cX11_no 0 = .ok (.aload_n 0, 1) := by decide +kernel
theorem dX11_no_1 : decode cX11_no 1 = .ok (.iload_n 1, 1) := by decide +kernel
theorem dX11_no_2 : decode cX11_no 2 = .ok (.putfield 74, 3) := by decide +kernel
theorem dX11_no_5 : decode cX11_no 5 = .ok (.iconst (-1), 1) := by decide +kernel
theorem dX11_no_6 : decode cX11_no 6 = .ok (.ireturn, 1) := by decide +kernel
theorem dX11_isNot_0 : decode cX11_isNot 0 = .ok (.aload_n 0, 1) := by decide +kernel
theorem dX11_isNot_1 : decode cX11_isNot 1 = .ok (.iload_n 1, 1) := by decide +kernel
theorem dX11_isNot_2 : decode cX11_isNot 2 = .ok (.putfield 74, 3) := by decide +kernel
theorem dX11_isNot_5 : decode cX11_isNot 5 = .ok (.iconst 0, 1) := by decide +kernel
theorem dX11_isNot_6 : decode cX11_isNot 6 = .ok (.ireturn, 1) := by decide +kernel
theorem dX11_within_0 : decode cX11_within 0 = .ok (.iload_n 0, 1) := by decide +kernel
theorem dX11_within_1 : decode cX11_within 1 = .ok (.iload_n 1, 1) := by decide +kernel
theorem dX11_within_2 : decode cX11_within 2 = .ok (.if_icmp .lt 12, 3) := by decide +kernel
theorem dX11_within_5 : decode cX11_within 5 = .ok (.iload_n 0, 1) := by decide +kernel
theorem dX11_within_6 : decode cX11_within 6 = .ok (.iload_n 2, 1) := by decide +kernel
theorem dX11_within_7 : decode cX11_within 7 = .ok (.if_icmp .gt 7, 3) := by decide +kernel
theorem dX11_within_10 : decode cX11_within 10 = .ok (.iconst 1, 1) := by decide +kernel
theorem dX11_within_11 : decode cX11_within 11 = .ok (.goto 4, 3) := by decide +kernel
theorem dX11_within_14 : decode cX11_within 14 = .ok (.iconst 0, 1) := by decide +kernel
theorem dX11_within_15 : decode cX11_within 15 = .ok (.ireturn, 1) := by decide +kernel
theorem dX11_has_0 : decode cX11_has 0 = .ok (.iload_n 0, 1) := by decide +kernel
theorem dX11_has_1 : decode cX11_has 1 = .ok (.iload_n 1, 1) := by decide +kernel
theorem dX11_has_2 : decode cX11_has 2 = .ok (.ishr, 1) := by decide +kernel
theorem dX11_has_3 : decode cX11_has 3 = .ok (.iconst 1, 1) := by decide +kernel
theorem dX11_has_4 : decode cX11_has 4 = .ok (.iand, 1) := by decide +kernel
theorem dX11_has_5 : decode cX11_has 5 = .ok (.iconst 1, 1) := by decide +kernel
theorem dX11_has_6 : decode cX11_has 6 = .ok (.if_icmp .ne 7, 3) := by decide +kernel
theorem dX11_has_9 : decode cX11_has 9 = .ok (.iconst 1, 1) := by decide +kernel
theorem dX11_has_10 : decode cX11_has 10 = .ok (.goto 4, 3) := by decide +kernel
theorem dX11_has_13 : decode cX11_has 13 = .ok (.iconst 0, 1) := by decide +kernel
theorem dX11_has_14 : decode cX11_has 14 = .ok (.ireturn, 1) := by decide +kernel
theorem dX11_copy_0 : decode cX11_copy 0 = .ok (.iconst 0, 1) := by decide +kernel
theorem dX11_copy_1 : decode cX11_copy 1 = .ok (.istore 5, 2) := by decide +kernel
theorem dX11_copy_3 : decode cX11_copy 3 = .ok (.iload 5, 2) := by decide +kernel
theorem dX11_copy_5 : decode cX11_copy 5 = .ok (.iload 4, 2) := by decide +kernel
theorem dX11_copy_7 : decode cX11_copy 7 = .ok (.if_icmp .ge 21, 3) := by decide +kernel
theorem dX11_copy_10 : decode cX11_copy 10 = .ok (.aload_n 2, 1) := by decide +kernel
theorem dX11_copy_11 : decode cX11_copy 11 = .ok (.iload_n 3, 1) := by decide +kernel
theorem dX11_copy_12 : decode cX11_copy 12 = .ok (.iload 5, 2) := by decide +kernel
theorem dX11_copy_14 : decode cX11_copy 14 = .ok (.iadd, 1) := by decide +kernel
theorem dX11_copy_15 : decode cX11_copy 15 = .ok (.aload_n 0, 1) := by decide +kernel
theorem dX11_copy_16 : decode cX11_copy 16 = .ok (.iload_n 1, 1) := by decide +kernel
theorem dX11_copy_17 : decode cX11_copy 17 = .ok (.iload 5, 2) := by decide +kernel
theorem dX11_copy_19 : decode cX11_copy 19 = .ok (.iadd, 1) := by decide +kernel
theorem dX11_copy_20 : decode cX11_copy 20 = .ok (.iaload, 1) := by decide +kernel
theorem dX11_copy_21 : decode cX11_copy 21 = .ok (.iastore, 1) := by decide +kernel
theorem dX11_copy_22 : decode cX11_copy 22 = .ok (.iinc 5 1, 3) := by decide +kernel
theorem dX11_copy_25 : decode cX11_copy 25 = .ok (.goto (-22), 3) := by decide +kernel
theorem dX11_copy_28 : decode cX11_copy 28 = .ok (.return_, 1) := by decide +kernel
theorem dX11_feed_0 : decode cX11_feed 0 = .ok (.aload_n 0, 1) := by decide +kernel
theorem dX11_feed_1 : decode cX11_feed 1 = .ok (.iconst 0, 1) := by decide +kernel
theorem dX11_feed_2 : decode cX11_feed 2 = .ok (.putfield 71, 3) := by decide +kernel
theorem dX11_feed_5 : decode cX11_feed 5 = .ok (.aload_n 0, 1) := by decide +kernel
theorem dX11_feed_6 : decode cX11_feed 6 = .ok (.getfield 77, 3) := by decide +kernel
theorem dX11_feed_9 : decode cX11_feed 9 = .ok (.bipush 20, 2) := by decide +kernel
theorem dX11_feed_11 : decode cX11_feed 11 = .ok (.iadd, 1) := by decide +kernel
theorem dX11_feed_12 : decode cX11_feed 12 = .ok (.sipush 900, 3) := by decide +kernel
theorem dX11_feed_15 : decode cX11_feed 15 = .ok (.if_icmp .le 5, 3) := by decide +kernel
theorem dX11_feed_18 : decode cX11_feed 18 = .ok (.iconst (-1), 1) := by decide +kernel
theorem dX11_feed_19 : decode cX11_feed 19 = .ok (.ireturn, 1) := by decide +kernel
theorem dX11_feed_20 : decode cX11_feed 20 = .ok (.iconst 0, 1) := by decide +kernel
theorem dX11_feed_21 : decode cX11_feed 21 = .ok (.istore 6, 2) := by decide +kernel
theorem dX11_feed_23 : decode cX11_feed 23 = .ok (.iload 6, 2) := by decide +kernel
theorem dX11_feed_25 : decode cX11_feed 25 = .ok (.bipush 20, 2) := by decide +kernel
theorem dX11_feed_27 : decode cX11_feed 27 = .ok (.if_icmp .ge 93, 3) := by decide +kernel
theorem dX11_feed_30 : decode cX11_feed 30 = .ok (.iload 6, 2) := by decide +kernel
theorem dX11_feed_32 : decode cX11_feed 32 = .ok (.iconst 4, 1) := by decide +kernel
theorem dX11_feed_33 : decode cX11_feed 33 = .ok (.if_icmp .ge 7, 3) := by decide +kernel
theorem dX11_feed_36 : decode cX11_feed 36 = .ok (.iload_n 1, 1) := by decide +kernel
theorem dX11_feed_37 : decode cX11_feed 37 = .ok (.goto 39, 3) := by decide +kernel
theorem dX11_feed_40 : decode cX11_feed 40 = .ok (.iload 6, 2) := by decide +kernel
theorem dX11_feed_42 : decode cX11_feed 42 = .ok (.bipush 8, 2) := by decide +kernel
theorem dX11_feed_44 : decode cX11_feed 44 = .ok (.if_icmp .ge 7, 3) := by decide +kernel
theorem dX11_feed_47 : decode cX11_feed 47 = .ok (.iload_n 2, 1) := by decide +kernel
theorem dX11_feed_48 : decode cX11_feed 48 = .ok (.goto 28, 3) := by decide +kernel
theorem dX11_feed_51 : decode cX11_feed 51 = .ok (.iload 6, 2) := by decide +kernel
theorem dX11_feed_53 : decode cX11_feed 53 = .ok (.bipush 12, 2) := by decide +kernel
theorem dX11_feed_55 : decode cX11_feed 55 = .ok (.if_icmp .ge 7, 3) := by decide +kernel
theorem dX11_feed_58 : decode cX11_feed 58 = .ok (.iload_n 3, 1) := by decide +kernel
theorem dX11_feed_59 : decode cX11_feed 59 = .ok (.goto 17, 3) := by decide +kernel
theorem dX11_feed_62 : decode cX11_feed 62 = .ok (.iload 6, 2) := by decide +kernel
theorem dX11_feed_64 : decode cX11_feed 64 = .ok (.bipush 16, 2) := by decide +kernel
theorem dX11_feed_66 : decode cX11_feed 66 = .ok (.if_icmp .ge 8, 3) := by decide +kernel
theorem dX11_feed_69 : decode cX11_feed 69 = .ok (.iload 4, 2) := by decide +kernel
theorem dX11_feed_71 : decode cX11_feed 71 = .ok (.goto 5, 3) := by decide +kernel
theorem dX11_feed_74 : decode cX11_feed 74 = .ok (.iload 5, 2) := by decide +kernel
theorem dX11_feed_76 : decode cX11_feed 76 = .ok (.istore 7, 2) := by decide +kernel
theorem dX11_feed_78 : decode cX11_feed 78 = .ok (.aload_n 0, 1) := by decide +kernel
theorem dX11_feed_79 : decode cX11_feed 79 = .ok (.getfield 7, 3) := by decide +kernel
theorem dX11_feed_82 : decode cX11_feed 82 = .ok (.aload_n 0, 1) := by decide +kernel
theorem dX11_feed_83 : decode cX11_feed 83 = .ok (.getfield 77, 3) := by decide +kernel
theorem dX11_feed_86 : decode cX11_feed 86 = .ok (.iload 7, 2) := by decide +kernel
theorem dX11_feed_88 : decode cX11_feed 88 = .ok (.bipush 24, 2) := by decide +kernel
theorem dX11_feed_90 : decode cX11_feed 90 = .ok (.bipush 8, 2) := by decide +kernel
theorem dX11_feed_92 : decode cX11_feed 92 = .ok (.iload 6, 2) := by decide +kernel
theorem dX11_feed_94 : decode cX11_feed 94 = .ok (.iconst 4, 1) := by decide +kernel
theorem dX11_feed_95 : decode cX11_feed 95 = .ok (.irem, 1) := by decide +kernel
theorem dX11_feed_96 : decode cX11_feed 96 = .ok (.imul, 1) := by decide +kernel
theorem dX11_feed_97 : decode cX11_feed 97 = .ok (.isub, 1) := by decide +kernel
theorem dX11_feed_98 : decode cX11_feed 98 = .ok (.ishr, 1) := by decide +kernel
theorem dX11_feed_99 : decode cX11_feed 99 = .ok (.sipush 255, 3) := by decide +kernel
theorem dX11_feed_102 : decode cX11_feed 102 = .ok (.iand, 1) := by decide +kernel
theorem dX11_feed_103 : decode cX11_feed 103 = .ok (.iastore, 1) := by decide +kernel
theorem dX11_feed_104 : decode cX11_feed 104 = .ok (.aload_n 0, 1) := by decide +kernel
theorem dX11_feed_105 : decode cX11_feed 105 = .ok (.dup, 1) := by decide +kernel
theorem dX11_feed_106 : decode cX11_feed 106 = .ok (.getfield 77, 3) := by decide +kernel
theorem dX11_feed_109 : decode cX11_feed 109 = .ok (.iconst 1, 1) := by decide +kernel
theorem dX11_feed_110 : decode cX11_feed 110 = .ok (.iadd, 1) := by decide +kernel
theorem dX11_feed_111 : decode cX11_feed 111 = .ok (.putfield 77, 3) := by decide +kernel
theorem dX11_feed_114 : decode cX11_feed 114 = .ok (.iinc 6 1, 3) := by decide +kernel
theorem dX11_feed_117 : decode cX11_feed 117 = .ok (.goto (-94), 3) := by decide +kernel
theorem dX11_feed_120 : decode cX11_feed 120 = .ok (.aload_n 0, 1) := by decide +kernel
theorem dX11_feed_121 : decode cX11_feed 121 = .ok (.getfield 77, 3) := by decide +kernel
theorem dX11_feed_124 : decode cX11_feed 124 = .ok (.ireturn, 1) := by decide +kernel
theorem dX11_look_0 : decode cX11_look 0 = .ok (.iload_n 1, 1) := by decide +kernel
theorem dX11_look_1 : decode cX11_look 1 = .ok (.aload_n 0, 1) := by decide +kernel
theorem dX11_look_2 : decode cX11_look 2 = .ok (.getfield 80, 3) := by decide +kernel
theorem dX11_look_5 : decode cX11_look 5 = .ok (.if_icmp .ge 12, 3) := by decide +kernel
theorem dX11_look_8 : decode cX11_look 8 = .ok (.aload_n 0, 1) := by decide +kernel
theorem dX11_look_9 : decode cX11_look 9 = .ok (.getfield 7, 3) := by decide +kernel
theorem dX11_look_12 : decode cX11_look 12 = .ok (.iload_n 1, 1) := by decide +kernel
theorem dX11_look_13 : decode cX11_look 13 = .ok (.iaload, 1) := by decide +kernel
theorem dX11_look_14 : decode cX11_look 14 = .ok (.goto 4, 3) := by decide +kernel
theorem dX11_look_17 : decode cX11_look 17 = .ok (.iconst (-1), 1) := by decide +kernel
theorem dX11_look_18 : decode cX11_look 18 = .ok (.ireturn, 1) := by decide +kernel
theorem dX11_isSmall_0 : decode cX11_isSmall 0 = .ok (.iload_n 0, 1) := by decide +kernel
theorem dX11_isSmall_1 : decode cX11_isSmall 1 = .ok (.bipush 97, 2) := by decide +kernel
theorem dX11_isSmall_3 : decode cX11_isSmall 3 = .ok (.if_icmp .lt 13, 3) := by decide +kernel
theorem dX11_isSmall_6 : decode cX11_isSmall 6 = .ok (.iload_n 0, 1) := by decide +kernel
theorem dX11_isSmall_7 : decode cX11_isSmall 7 = .ok (.bipush 122, 2) := by decide +kernel
theorem dX11_isSmall_9 : decode cX11_isSmall 9 = .ok (.if_icmp .gt 7, 3) := by decide +kernel
theorem dX11_isSmall_12 : decode cX11_isSmall 12 = .ok (.iconst 1, 1) := by decide +kernel
theorem dX11_isSmall_13 : decode cX11_isSmall 13 = .ok (.goto 4, 3) := by decide +kernel
theorem dX11_isSmall_16 : decode cX11_isSmall 16 = .ok (.iconst 0, 1) := by decide +kernel
theorem dX11_isSmall_17 : decode cX11_isSmall 17 = .ok (.ireturn, 1) := by decide +kernel
theorem dX11_isDigit_0 : decode cX11_isDigit 0 = .ok (.iload_n 0, 1) := by decide +kernel
theorem dX11_isDigit_1 : decode cX11_isDigit 1 = .ok (.bipush 48, 2) := by decide +kernel
theorem dX11_isDigit_3 : decode cX11_isDigit 3 = .ok (.if_icmp .lt 13, 3) := by decide +kernel
theorem dX11_isDigit_6 : decode cX11_isDigit 6 = .ok (.iload_n 0, 1) := by decide +kernel
theorem dX11_isDigit_7 : decode cX11_isDigit 7 = .ok (.bipush 57, 2) := by decide +kernel
theorem dX11_isDigit_9 : decode cX11_isDigit 9 = .ok (.if_icmp .gt 7, 3) := by decide +kernel
theorem dX11_isDigit_12 : decode cX11_isDigit 12 = .ok (.iconst 1, 1) := by decide +kernel
theorem dX11_isDigit_13 : decode cX11_isDigit 13 = .ok (.goto 4, 3) := by decide +kernel
theorem dX11_isDigit_16 : decode cX11_isDigit 16 = .ok (.iconst 0, 1) := by decide +kernel
theorem dX11_isDigit_17 : decode cX11_isDigit 17 = .ok (.ireturn, 1) := by decide +kernel
theorem dX11_next_0 : decode cX11_next 0 = .ok (.aload_n 0, 1) := by decide +kernel
theorem dX11_next_1 : decode cX11_next 1 = .ok (.getfield 83, 3) := by decide +kernel
theorem dX11_next_4 : decode cX11_next 4 = .ok (.istore_n 1, 1) := by decide +kernel
theorem dX11_next_5 : decode cX11_next 5 = .ok (.aload_n 0, 1) := by decide +kernel
theorem dX11_next_6 : decode cX11_next 6 = .ok (.iload_n 1, 1) := by decide +kernel
theorem dX11_next_7 : decode cX11_next 7 = .ok (.invokevirtual 86, 3) := by decide +kernel
theorem dX11_next_10 : decode cX11_next 10 = .ok (.bipush 32, 2) := by decide +kernel
theorem dX11_next_12 : decode cX11_next 12 = .ok (.if_icmp .ne 9, 3) := by decide +kernel
theorem dX11_next_15 : decode cX11_next 15 = .ok (.iinc 1 1, 3) := by decide +kernel
theorem dX11_next_18 : decode cX11_next 18 = .ok (.goto (-13), 3) := by decide +kernel
theorem dX11_next_21 : decode cX11_next 21 = .ok (.aload_n 0, 1) := by decide +kernel
theorem dX11_next_22 : decode cX11_next 22 = .ok (.iload_n 1, 1) := by decide +kernel
theorem dX11_next_23 : decode cX11_next 23 = .ok (.putfield 90, 3) := by decide +kernel
theorem dX11_next_26 : decode cX11_next 26 = .ok (.aload_n 0, 1) := by decide +kernel
theorem dX11_next_27 : decode cX11_next 27 = .ok (.iload_n 1, 1) := by decide +kernel
theorem dX11_next_28 : decode cX11_next 28 = .ok (.invokevirtual 86, 3) := by decide +kernel
theorem dX11_next_31 : decode cX11_next 31 = .ok (.istore_n 2, 1) := by decide +kernel
theorem dX11_next_32 : decode cX11_next 32 = .ok (.aload_n 0, 1) := by decide +kernel
theorem dX11_next_33 : decode cX11_next 33 = .ok (.iconst 0, 1) := by decide +kernel
theorem dX11_next_34 : decode cX11_next 34 = .ok (.putfield 93, 3) := by decide +kernel
theorem dX11_next_37 : decode cX11_next 37 = .ok (.aload_n 0, 1) := by decide +kernel
theorem dX11_next_38 : decode cX11_next 38 = .ok (.iconst 0, 1) := by decide +kernel
theorem dX11_next_39 : decode cX11_next 39 = .ok (.putfield 96, 3) := by decide +kernel
theorem dX11_next_42 : decode cX11_next 42 = .ok (.iload_n 2, 1) := by decide +kernel
theorem dX11_next_43 : decode cX11_next 43 = .ok (.iconst (-1), 1) := by decide +kernel
theorem dX11_next_44 : decode cX11_next 44 = .ok (.if_icmp .ne 16, 3) := by decide +kernel
theorem dX11_next_47 : decode cX11_next 47 = .ok (.aload_n 0, 1) := by decide +kernel
theorem dX11_next_48 : decode cX11_next 48 = .ok (.iconst 0, 1) := by decide +kernel
theorem dX11_next_49 : decode cX11_next 49 = .ok (.putfield 99, 3) := by decide +kernel
theorem dX11_next_52 : decode cX11_next 52 = .ok (.aload_n 0, 1) := by decide +kernel
theorem dX11_next_53 : decode cX11_next 53 = .ok (.iload_n 1, 1) := by decide +kernel
theorem dX11_next_54 : decode cX11_next 54 = .ok (.putfield 83, 3) := by decide +kernel
theorem dX11_next_57 : decode cX11_next 57 = .ok (.goto 190, 3) := by decide +kernel
theorem dX11_next_60 : decode cX11_next 60 = .ok (.iload_n 2, 1) := by decide +kernel
theorem dX11_next_61 : decode cX11_next 61 = .ok (.invokestatic 102, 3) := by decide +kernel
theorem dX11_next_64 : decode cX11_next 64 = .ok (.ifCond .eq 79, 3) := by decide +kernel
theorem dX11_next_67 : decode cX11_next 67 = .ok (.aload_n 0, 1) := by decide +kernel
theorem dX11_next_68 : decode cX11_next 68 = .ok (.iload_n 1, 1) := by decide +kernel
theorem dX11_next_69 : decode cX11_next 69 = .ok (.invokevirtual 86, 3) := by decide +kernel
theorem dX11_next_72 : decode cX11_next 72 = .ok (.invokestatic 102, 3) := by decide +kernel
theorem dX11_next_75 : decode cX11_next 75 = .ok (.ifCond .eq 42, 3) := by decide +kernel
theorem dX11_next_78 : decode cX11_next 78 = .ok (.aload_n 0, 1) := by decide +kernel
theorem dX11_next_79 : decode cX11_next 79 = .ok (.getfield 93, 3) := by decide +kernel
theorem dX11_next_82 : decode cX11_next 82 = .ok (.bipush 8, 2) := by decide +kernel
theorem dX11_next_84 : decode cX11_next 84 = .ok (.if_icmp .ge 17, 3) := by decide +kernel
theorem dX11_next_87 : decode cX11_next 87 = .ok (.aload_n 0, 1) := by decide +kernel
theorem dX11_next_88 : decode cX11_next 88 = .ok (.getfield 17, 3) := by decide +kernel
theorem dX11_next_91 : decode cX11_next 91 = .ok (.aload_n 0, 1) := by decide +kernel
theorem dX11_next_92 : decode cX11_next 92 = .ok (.getfield 93, 3) := by decide +kernel
theorem dX11_next_95 : decode cX11_next 95 = .ok (.aload_n 0, 1) := by decide +kernel
theorem dX11_next_96 : decode cX11_next 96 = .ok (.iload_n 1, 1) := by decide +kernel
theorem dX11_next_97 : decode cX11_next 97 = .ok (.invokevirtual 86, 3) := by decide +kernel
theorem dX11_next_100 : decode cX11_next 100 = .ok (.iastore, 1) := by decide +kernel
theorem dX11_next_101 : decode cX11_next 101 = .ok (.aload_n 0, 1) := by decide +kernel
theorem dX11_next_102 : decode cX11_next 102 = .ok (.dup, 1) := by decide +kernel
theorem dX11_next_103 : decode cX11_next 103 = .ok (.getfield 93, 3) := by decide +kernel
theorem dX11_next_106 : decode cX11_next 106 = .ok (.iconst 1, 1) := by decide +kernel
theorem dX11_next_107 : decode cX11_next 107 = .ok (.iadd, 1) := by decide +kernel
theorem dX11_next_108 : decode cX11_next 108 = .ok (.putfield 93, 3) := by decide +kernel
theorem dX11_next_111 : decode cX11_next 111 = .ok (.iinc 1 1, 3) := by decide +kernel
theorem dX11_next_114 : decode cX11_next 114 = .ok (.goto (-47), 3) := by decide +kernel
theorem dX11_next_117 : decode cX11_next 117 = .ok (.aload_n 0, 1) := by decide +kernel
theorem dX11_next_118 : decode cX11_next 118 = .ok (.iload_n 1, 1) := by decide +kernel
theorem dX11_next_119 : decode cX11_next 119 = .ok (.putfield 83, 3) := by decide +kernel
theorem dX11_next_122 : decode cX11_next 122 = .ok (.aload_n 0, 1) := by decide +kernel
theorem dX11_next_123 : decode cX11_next 123 = .ok (.aload_n 0, 1) := by decide +kernel
theorem dX11_next_124 : decode cX11_next 124 = .ok (.getfield 93, 3) := by decide +kernel
theorem dX11_next_127 : decode cX11_next 127 = .ok (.bipush 8, 2) := by decide +kernel
theorem dX11_next_129 : decode cX11_next 129 = .ok (.if_icmp .le 7, 3) := by decide +kernel
theorem dX11_next_132 : decode cX11_next 132 = .ok (.iconst 1, 1) := by decide +kernel
theorem dX11_next_133 : decode cX11_next 133 = .ok (.goto 4, 3) := by decide +kernel
theorem dX11_next_136 : decode cX11_next 136 = .ok (.iconst 2, 1) := by decide +kernel
theorem dX11_next_137 : decode cX11_next 137 = .ok (.putfield 99, 3) := by decide +kernel
theorem dX11_next_140 : decode cX11_next 140 = .ok (.goto 107, 3) := by decide +kernel
theorem dX11_next_143 : decode cX11_next 143 = .ok (.iload_n 2, 1) := by decide +kernel
theorem dX11_next_144 : decode cX11_next 144 = .ok (.invokestatic 106, 3) := by decide +kernel
theorem dX11_next_147 : decode cX11_next 147 = .ok (.ifCond .eq 72, 3) := by decide +kernel
theorem dX11_next_150 : decode cX11_next 150 = .ok (.iconst 0, 1) := by decide +kernel
theorem dX11_next_151 : decode cX11_next 151 = .ok (.istore_n 3, 1) := by decide +kernel
theorem dX11_next_152 : decode cX11_next 152 = .ok (.aload_n 0, 1) := by decide +kernel
theorem dX11_next_153 : decode cX11_next 153 = .ok (.iload_n 1, 1) := by decide +kernel
theorem dX11_next_154 : decode cX11_next 154 = .ok (.invokevirtual 86, 3) := by decide +kernel
theorem dX11_next_157 : decode cX11_next 157 = .ok (.invokestatic 106, 3) := by decide +kernel
theorem dX11_next_160 : decode cX11_next 160 = .ok (.ifCond .eq 37, 3) := by decide +kernel
theorem dX11_next_163 : decode cX11_next 163 = .ok (.iload_n 3, 1) := by decide +kernel
theorem dX11_next_164 : decode cX11_next 164 = .ok (.iconst 3, 1) := by decide +kernel
theorem dX11_next_165 : decode cX11_next 165 = .ok (.if_icmp .ge 23, 3) := by decide +kernel
theorem dX11_next_168 : decode cX11_next 168 = .ok (.aload_n 0, 1) := by decide +kernel
theorem dX11_next_169 : decode cX11_next 169 = .ok (.bipush 10, 2) := by decide +kernel
theorem dX11_next_171 : decode cX11_next 171 = .ok (.aload_n 0, 1) := by decide +kernel
theorem dX11_next_172 : decode cX11_next 172 = .ok (.getfield 96, 3) := by decide +kernel
theorem dX11_next_175 : decode cX11_next 175 = .ok (.imul, 1) := by decide +kernel
theorem dX11_next_176 : decode cX11_next 176 = .ok (.aload_n 0, 1) := by decide +kernel
theorem dX11_next_177 : decode cX11_next 177 = .ok (.iload_n 1, 1) := by decide +kernel
theorem dX11_next_178 : decode cX11_next 178 = .ok (.invokevirtual 86, 3) := by decide +kernel
theorem dX11_next_181 : decode cX11_next 181 = .ok (.iadd, 1) := by decide +kernel
theorem dX11_next_182 : decode cX11_next 182 = .ok (.bipush 48, 2) := by decide +kernel
theorem dX11_next_184 : decode cX11_next 184 = .ok (.isub, 1) := by decide +kernel
theorem dX11_next_185 : decode cX11_next 185 = .ok (.putfield 96, 3) := by decide +kernel
theorem dX11_next_188 : decode cX11_next 188 = .ok (.iinc 3 1, 3) := by decide +kernel
theorem dX11_next_191 : decode cX11_next 191 = .ok (.iinc 1 1, 3) := by decide +kernel
theorem dX11_next_194 : decode cX11_next 194 = .ok (.goto (-42), 3) := by decide +kernel
theorem dX11_next_197 : decode cX11_next 197 = .ok (.aload_n 0, 1) := by decide +kernel
theorem dX11_next_198 : decode cX11_next 198 = .ok (.iload_n 1, 1) := by decide +kernel
theorem dX11_next_199 : decode cX11_next 199 = .ok (.putfield 83, 3) := by decide +kernel
theorem dX11_next_202 : decode cX11_next 202 = .ok (.aload_n 0, 1) := by decide +kernel
theorem dX11_next_203 : decode cX11_next 203 = .ok (.iload_n 3, 1) := by decide +kernel
theorem dX11_next_204 : decode cX11_next 204 = .ok (.iconst 3, 1) := by decide +kernel
theorem dX11_next_205 : decode cX11_next 205 = .ok (.if_icmp .le 7, 3) := by decide +kernel
theorem dX11_next_208 : decode cX11_next 208 = .ok (.iconst 1, 1) := by decide +kernel
theorem dX11_next_209 : decode cX11_next 209 = .ok (.goto 4, 3) := by decide +kernel
theorem dX11_next_212 : decode cX11_next 212 = .ok (.iconst 3, 1) := by decide +kernel
theorem dX11_next_213 : decode cX11_next 213 = .ok (.putfield 99, 3) := by decide +kernel
theorem dX11_next_216 : decode cX11_next 216 = .ok (.goto 31, 3) := by decide +kernel
theorem dX11_next_219 : decode cX11_next 219 = .ok (.aload_n 0, 1) := by decide +kernel
theorem dX11_next_220 : decode cX11_next 220 = .ok (.iload_n 1, 1) := by decide +kernel
theorem dX11_next_221 : decode cX11_next 221 = .ok (.iconst 1, 1) := by decide +kernel
theorem dX11_next_222 : decode cX11_next 222 = .ok (.iadd, 1) := by decide +kernel
theorem dX11_next_223 : decode cX11_next 223 = .ok (.putfield 83, 3) := by decide +kernel
theorem dX11_next_226 : decode cX11_next 226 = .ok (.aload_n 0, 1) := by decide +kernel
theorem dX11_next_227 : decode cX11_next 227 = .ok (.iload_n 2, 1) := by decide +kernel
theorem dX11_next_228 : decode cX11_next 228 = .ok (.bipush 59, 2) := by decide +kernel
theorem dX11_next_230 : decode cX11_next 230 = .ok (.if_icmp .eq 9, 3) := by decide +kernel
theorem dX11_next_233 : decode cX11_next 233 = .ok (.iload_n 2, 1) := by decide +kernel
theorem dX11_next_234 : decode cX11_next 234 = .ok (.bipush 44, 2) := by decide +kernel
theorem dX11_next_236 : decode cX11_next 236 = .ok (.if_icmp .ne 7, 3) := by decide +kernel
theorem dX11_next_239 : decode cX11_next 239 = .ok (.iload_n 2, 1) := by decide +kernel
theorem dX11_next_240 : decode cX11_next 240 = .ok (.goto 4, 3) := by decide +kernel
theorem dX11_next_243 : decode cX11_next 243 = .ok (.iconst 1, 1) := by decide +kernel
theorem dX11_next_244 : decode cX11_next 244 = .ok (.putfield 99, 3) := by decide +kernel
theorem dX11_next_247 : decode cX11_next 247 = .ok (.return_, 1) := by decide +kernel
theorem dX11_wrong_0 : decode cX11_wrong 0 = .ok (.aload_n 0, 1) := by decide +kernel
theorem dX11_wrong_1 : decode cX11_wrong 1 = .ok (.getfield 109, 3) := by decide +kernel
theorem dX11_wrong_4 : decode cX11_wrong 4 = .ok (.ifCond .eq 4, 3) := by decide +kernel
theorem dX11_wrong_7 : decode cX11_wrong 7 = .ok (.return_, 1) := by decide +kernel
theorem dX11_wrong_8 : decode cX11_wrong 8 = .ok (.aload_n 0, 1) := by decide +kernel
theorem dX11_wrong_9 : decode cX11_wrong 9 = .ok (.iconst 1, 1) := by decide +kernel
theorem dX11_wrong_10 : decode cX11_wrong 10 = .ok (.putfield 109, 3) := by decide +kernel
theorem dX11_wrong_13 : decode cX11_wrong 13 = .ok (.aload_n 0, 1) := by decide +kernel
theorem dX11_wrong_14 : decode cX11_wrong 14 = .ok (.iload_n 1, 1) := by decide +kernel
theorem dX11_wrong_15 : decode cX11_wrong 15 = .ok (.putfield 113, 3) := by decide +kernel
theorem dX11_wrong_18 : decode cX11_wrong 18 = .ok (.aload_n 0, 1) := by decide +kernel
theorem dX11_wrong_19 : decode cX11_wrong 19 = .ok (.iload_n 2, 1) := by decide +kernel
theorem dX11_wrong_20 : decode cX11_wrong 20 = .ok (.putfield 13, 3) := by decide +kernel
theorem dX11_wrong_23 : decode cX11_wrong 23 = .ok (.return_, 1) := by decide +kernel
theorem dX11_isWord_0 : decode cX11_isWord 0 = .ok (.aload_n 0, 1) := by decide +kernel
theorem dX11_isWord_1 : decode cX11_isWord 1 = .ok (.getfield 109, 3) := by decide +kernel
theorem dX11_isWord_4 : decode cX11_isWord 4 = .ok (.ifCond .ne 22, 3) := by decide +kernel
theorem dX11_isWord_7 : decode cX11_isWord 7 = .ok (.aload_n 0, 1) := by decide +kernel
theorem dX11_isWord_8 : decode cX11_isWord 8 = .ok (.getfield 99, 3) := by decide +kernel
theorem dX11_isWord_11 : decode cX11_isWord 11 = .ok (.iconst 2, 1) := by decide +kernel
theorem dX11_isWord_12 : decode cX11_isWord 12 = .ok (.if_icmp .ne 14, 3) := by decide +kernel
theorem dX11_isWord_15 : decode cX11_isWord 15 = .ok (.aload_n 0, 1) := by decide +kernel
theorem dX11_isWord_16 : decode cX11_isWord 16 = .ok (.getfield 93, 3) := by decide +kernel
theorem dX11_isWord_19 : decode cX11_isWord 19 = .ok (.aload_n 1, 1) := by decide +kernel
theorem dX11_isWord_20 : decode cX11_isWord 20 = .ok (.invokevirtual 116, 3) := by decide +kernel
theorem dX11_isWord_23 : decode cX11_isWord 23 = .ok (.if_icmp .eq 5, 3) := by decide +kernel
theorem dX11_isWord_26 : decode cX11_isWord 26 = .ok (.iconst 0, 1) := by decide +kernel
theorem dX11_isWord_27 : decode cX11_isWord 27 = .ok (.ireturn, 1) := by decide +kernel
theorem dX11_isWord_28 : decode cX11_isWord 28 = .ok (.iconst 1, 1) := by decide +kernel
theorem dX11_isWord_29 : decode cX11_isWord 29 = .ok (.istore_n 2, 1) := by decide +kernel
theorem dX11_isWord_30 : decode cX11_isWord 30 = .ok (.iconst 0, 1) := by decide +kernel
theorem dX11_isWord_31 : decode cX11_isWord 31 = .ok (.istore_n 3, 1) := by decide +kernel
theorem dX11_isWord_32 : decode cX11_isWord 32 = .ok (.iload_n 3, 1) := by decide +kernel
theorem dX11_isWord_33 : decode cX11_isWord 33 = .ok (.aload_n 0, 1) := by decide +kernel
theorem dX11_isWord_34 : decode cX11_isWord 34 = .ok (.getfield 93, 3) := by decide +kernel
theorem dX11_isWord_37 : decode cX11_isWord 37 = .ok (.if_icmp .ge 33, 3) := by decide +kernel
theorem dX11_isWord_40 : decode cX11_isWord 40 = .ok (.iload_n 2, 1) := by decide +kernel
theorem dX11_isWord_41 : decode cX11_isWord 41 = .ok (.ifCond .eq 21, 3) := by decide +kernel
theorem dX11_isWord_44 : decode cX11_isWord 44 = .ok (.aload_n 0, 1) := by decide +kernel
theorem dX11_isWord_45 : decode cX11_isWord 45 = .ok (.getfield 17, 3) := by decide +kernel
theorem dX11_isWord_48 : decode cX11_isWord 48 = .ok (.iload_n 3, 1) := by decide +kernel
theorem dX11_isWord_49 : decode cX11_isWord 49 = .ok (.iaload, 1) := by decide +kernel
theorem dX11_isWord_50 : decode cX11_isWord 50 = .ok (.aload_n 1, 1) := by decide +kernel
theorem dX11_isWord_51 : decode cX11_isWord 51 = .ok (.iload_n 3, 1) := by decide +kernel
theorem dX11_isWord_52 : decode cX11_isWord 52 = .ok (.invokevirtual 122, 3) := by decide +kernel
theorem dX11_isWord_55 : decode cX11_isWord 55 = .ok (.if_icmp .ne 7, 3) := by decide +kernel
theorem dX11_isWord_58 : decode cX11_isWord 58 = .ok (.iconst 1, 1) := by decide +kernel
theorem dX11_isWord_59 : decode cX11_isWord 59 = .ok (.goto 4, 3) := by decide +kernel
theorem dX11_isWord_62 : decode cX11_isWord 62 = .ok (.iconst 0, 1) := by decide +kernel
theorem dX11_isWord_63 : decode cX11_isWord 63 = .ok (.istore_n 2, 1) := by decide +kernel
theorem dX11_isWord_64 : decode cX11_isWord 64 = .ok (.iinc 3 1, 3) := by decide +kernel
theorem dX11_isWord_67 : decode cX11_isWord 67 = .ok (.goto (-35), 3) := by decide +kernel
theorem dX11_isWord_70 : decode cX11_isWord 70 = .ok (.iload_n 2, 1) := by decide +kernel
theorem dX11_isWord_71 : decode cX11_isWord 71 = .ok (.ireturn, 1) := by decide +kernel
theorem dX11_takes_0 : decode cX11_takes 0 = .ok (.aload_n 0, 1) := by decide +kernel
theorem dX11_takes_1 : decode cX11_takes 1 = .ok (.aload_n 1, 1) := by decide +kernel
theorem dX11_takes_2 : decode cX11_takes 2 = .ok (.invokevirtual 126, 3) := by decide +kernel
theorem dX11_takes_5 : decode cX11_takes 5 = .ok (.ifCond .ne 5, 3) := by decide +kernel
theorem dX11_takes_8 : decode cX11_takes 8 = .ok (.iconst 0, 1) := by decide +kernel
theorem dX11_takes_9 : decode cX11_takes 9 = .ok (.ireturn, 1) := by decide +kernel
theorem dX11_takes_10 : decode cX11_takes 10 = .ok (.aload_n 0, 1) := by decide +kernel
theorem dX11_takes_11 : decode cX11_takes 11 = .ok (.invokevirtual 130, 3) := by decide +kernel
theorem dX11_takes_14 : decode cX11_takes 14 = .ok (.iconst 1, 1) := by decide +kernel
theorem dX11_takes_15 : decode cX11_takes 15 = .ok (.ireturn, 1) := by decide +kernel
theorem dX11_must_0 : decode cX11_must 0 = .ok (.aload_n 0, 1) := by decide +kernel
theorem dX11_must_1 : decode cX11_must 1 = .ok (.getfield 109, 3) := by decide +kernel
theorem dX11_must_4 : decode cX11_must 4 = .ok (.ifCond .ne 20, 3) := by decide +kernel
theorem dX11_must_7 : decode cX11_must 7 = .ok (.aload_n 0, 1) := by decide +kernel
theorem dX11_must_8 : decode cX11_must 8 = .ok (.aload_n 1, 1) := by decide +kernel
theorem dX11_must_9 : decode cX11_must 9 = .ok (.invokevirtual 133, 3) := by decide +kernel
theorem dX11_must_12 : decode cX11_must 12 = .ok (.ifCond .ne 12, 3) := by decide +kernel
theorem dX11_must_15 : decode cX11_must 15 = .ok (.aload_n 0, 1) := by decide +kernel
theorem dX11_must_16 : decode cX11_must 16 = .ok (.iconst 1, 1) := by decide +kernel
theorem dX11_must_17 : decode cX11_must 17 = .ok (.aload_n 0, 1) := by decide +kernel
theorem dX11_must_18 : decode cX11_must 18 = .ok (.getfield 90, 3) := by decide +kernel
theorem dX11_must_21 : decode cX11_must 21 = .ok (.invokevirtual 136, 3) := by decide +kernel
theorem dX11_must_24 : decode cX11_must 24 = .ok (.return_, 1) := by decide +kernel
theorem dX11_mustWord_0 : decode cX11_mustWord 0 = .ok (.aload_n 0, 1) := by decide +kernel
theorem dX11_mustWord_1 : decode cX11_mustWord 1 = .ok (.getfield 109, 3) := by decide +kernel
theorem dX11_mustWord_4 : decode cX11_mustWord 4 = .ok (.ifCond .ne 20, 3) := by decide +kernel
theorem dX11_mustWord_7 : decode cX11_mustWord 7 = .ok (.aload_n 0, 1) := by decide +kernel
theorem dX11_mustWord_8 : decode cX11_mustWord 8 = .ok (.getfield 99, 3) := by decide +kernel
theorem dX11_mustWord_11 : decode cX11_mustWord 11 = .ok (.iconst 2, 1) := by decide +kernel
theorem dX11_mustWord_12 : decode cX11_mustWord 12 = .ok (.if_icmp .eq 12, 3) := by decide +kernel
theorem dX11_mustWord_15 : decode cX11_mustWord 15 = .ok (.aload_n 0, 1) := by decide +kernel
theorem dX11_mustWord_16 : decode cX11_mustWord 16 = .ok (.iconst 1, 1) := by decide +kernel
theorem dX11_mustWord_17 : decode cX11_mustWord 17 = .ok (.aload_n 0, 1) := by decide +kernel
theorem dX11_mustWord_18 : decode cX11_mustWord 18 = .ok (.getfield 90, 3) := by decide +kernel
theorem dX11_mustWord_21 : decode cX11_mustWord 21 = .ok (.invokevirtual 136, 3) := by decide +kernel
theorem dX11_mustWord_24 : decode cX11_mustWord 24 = .ok (.return_, 1) := by decide +kernel
theorem dX11_number_0 : decode cX11_number 0 = .ok (.aload_n 0, 1) := by decide +kernel
theorem dX11_number_1 : decode cX11_number 1 = .ok (.getfield 109, 3) := by decide +kernel
theorem dX11_number_4 : decode cX11_number 4 = .ok (.ifCond .eq 5, 3) := by decide +kernel
theorem dX11_number_7 : decode cX11_number 7 = .ok (.iload_n 1, 1) := by decide +kernel
theorem dX11_number_8 : decode cX11_number 8 = .ok (.ireturn, 1) := by decide +kernel
theorem dX11_number_9 : decode cX11_number 9 = .ok (.aload_n 0, 1) := by decide +kernel
theorem dX11_number_10 : decode cX11_number 10 = .ok (.getfield 99, 3) := by decide +kernel
theorem dX11_number_13 : decode cX11_number 13 = .ok (.iconst 3, 1) := by decide +kernel
theorem dX11_number_14 : decode cX11_number 14 = .ok (.if_icmp .eq 14, 3) := by decide +kernel
theorem dX11_number_17 : decode cX11_number 17 = .ok (.aload_n 0, 1) := by decide +kernel
theorem dX11_number_18 : decode cX11_number 18 = .ok (.iconst 1, 1) := by decide +kernel
theorem dX11_number_19 : decode cX11_number 19 = .ok (.aload_n 0, 1) := by decide +kernel
theorem dX11_number_20 : decode cX11_number 20 = .ok (.getfield 90, 3) := by decide +kernel
theorem dX11_number_23 : decode cX11_number 23 = .ok (.invokevirtual 136, 3) := by decide +kernel
theorem dX11_number_26 : decode cX11_number 26 = .ok (.iload_n 1, 1) := by decide +kernel
theorem dX11_number_27 : decode cX11_number 27 = .ok (.ireturn, 1) := by decide +kernel
theorem dX11_number_28 : decode cX11_number 28 = .ok (.aload_n 0, 1) := by decide +kernel
theorem dX11_number_29 : decode cX11_number 29 = .ok (.getfield 96, 3) := by decide +kernel
theorem dX11_number_32 : decode cX11_number 32 = .ok (.istore_n 3, 1) := by decide +kernel
theorem dX11_number_33 : decode cX11_number 33 = .ok (.iload_n 3, 1) := by decide +kernel
theorem dX11_number_34 : decode cX11_number 34 = .ok (.iload_n 1, 1) := by decide +kernel
theorem dX11_number_35 : decode cX11_number 35 = .ok (.iload_n 2, 1) := by decide +kernel
theorem dX11_number_36 : decode cX11_number 36 = .ok (.invokestatic 140, 3) := by decide +kernel
theorem dX11_number_39 : decode cX11_number 39 = .ok (.ifCond .ne 14, 3) := by decide +kernel
theorem dX11_number_42 : decode cX11_number 42 = .ok (.aload_n 0, 1) := by decide +kernel
theorem dX11_number_43 : decode cX11_number 43 = .ok (.iconst 4, 1) := by decide +kernel
theorem dX11_number_44 : decode cX11_number 44 = .ok (.aload_n 0, 1) := by decide +kernel
theorem dX11_number_45 : decode cX11_number 45 = .ok (.getfield 90, 3) := by decide +kernel
theorem dX11_number_48 : decode cX11_number 48 = .ok (.invokevirtual 136, 3) := by decide +kernel
theorem dX11_number_51 : decode cX11_number 51 = .ok (.iload_n 1, 1) := by decide +kernel
theorem dX11_number_52 : decode cX11_number 52 = .ok (.ireturn, 1) := by decide +kernel
theorem dX11_number_53 : decode cX11_number 53 = .ok (.aload_n 0, 1) := by decide +kernel
theorem dX11_number_54 : decode cX11_number 54 = .ok (.invokevirtual 130, 3) := by decide +kernel
theorem dX11_number_57 : decode cX11_number 57 = .ok (.iload_n 3, 1) := by decide +kernel
theorem dX11_number_58 : decode cX11_number 58 = .ok (.ireturn, 1) := by decide +kernel
theorem dX11_told_0 : decode cX11_told 0 = .ok (.aload_n 0, 1) := by decide +kernel
theorem dX11_told_1 : decode cX11_told 1 = .ok (.aload_n 1, 1) := by decide +kernel
theorem dX11_told_2 : decode cX11_told 2 = .ok (.invokevirtual 144, 3) := by decide +kernel
theorem dX11_told_5 : decode cX11_told 5 = .ok (.aload_n 0, 1) := by decide +kernel
theorem dX11_told_6 : decode cX11_told 6 = .ok (.iload_n 2, 1) := by decide +kernel
theorem dX11_told_7 : decode cX11_told 7 = .ok (.iload_n 3, 1) := by decide +kernel
theorem dX11_told_8 : decode cX11_told 8 = .ok (.invokevirtual 148, 3) := by decide +kernel
theorem dX11_told_11 : decode cX11_told 11 = .ok (.ireturn, 1) := by decide +kernel
theorem dX11_comma_0 : decode cX11_comma 0 = .ok (.aload_n 0, 1) := by decide +kernel
theorem dX11_comma_1 : decode cX11_comma 1 = .ok (.getfield 109, 3) := by decide +kernel
theorem dX11_comma_4 : decode cX11_comma 4 = .ok (.ifCond .ne 12, 3) := by decide +kernel
theorem dX11_comma_7 : decode cX11_comma 7 = .ok (.aload_n 0, 1) := by decide +kernel
theorem dX11_comma_8 : decode cX11_comma 8 = .ok (.getfield 99, 3) := by decide +kernel
theorem dX11_comma_11 : decode cX11_comma 11 = .ok (.bipush 44, 2) := by decide +kernel
theorem dX11_comma_13 : decode cX11_comma 13 = .ok (.if_icmp .eq 5, 3) := by decide +kernel
theorem dX11_comma_16 : decode cX11_comma 16 = .ok (.iconst 0, 1) := by decide +kernel
theorem dX11_comma_17 : decode cX11_comma 17 = .ok (.ireturn, 1) := by decide +kernel
theorem dX11_comma_18 : decode cX11_comma 18 = .ok (.aload_n 0, 1) := by decide +kernel
theorem dX11_comma_19 : decode cX11_comma 19 = .ok (.invokevirtual 130, 3) := by decide +kernel
theorem dX11_comma_22 : decode cX11_comma 22 = .ok (.iconst 1, 1) := by decide +kernel
theorem dX11_comma_23 : decode cX11_comma 23 = .ok (.ireturn, 1) := by decide +kernel
theorem dX11_side_0 : decode cX11_side 0 = .ok (.aload_n 0, 1) := by decide +kernel
theorem dX11_side_1 : decode cX11_side 1 = .ok (.getfield 109, 3) := by decide +kernel
theorem dX11_side_4 : decode cX11_side 4 = .ok (.ifCond .eq 5, 3) := by decide +kernel
theorem dX11_side_7 : decode cX11_side 7 = .ok (.iconst 0, 1) := by decide +kernel
theorem dX11_side_8 : decode cX11_side 8 = .ok (.ireturn, 1) := by decide +kernel
theorem dX11_side_9 : decode cX11_side 9 = .ok (.aload_n 0, 1) := by decide +kernel
theorem dX11_side_10 : decode cX11_side 10 = .ok (.ldc 152, 2) := by decide +kernel
theorem dX11_side_12 : decode cX11_side 12 = .ok (.invokevirtual 133, 3) := by decide +kernel
theorem dX11_side_15 : decode cX11_side 15 = .ok (.ifCond .eq 5, 3) := by decide +kernel
theorem dX11_side_18 : decode cX11_side 18 = .ok (.iconst 0, 1) := by decide +kernel
theorem dX11_side_19 : decode cX11_side 19 = .ok (.ireturn, 1) := by decide +kernel
theorem dX11_side_20 : decode cX11_side 20 = .ok (.aload_n 0, 1) := by decide +kernel
theorem dX11_side_21 : decode cX11_side 21 = .ok (.ldc 154, 2) := by decide +kernel
theorem dX11_side_23 : decode cX11_side 23 = .ok (.invokevirtual 144, 3) := by decide +kernel
theorem dX11_side_26 : decode cX11_side 26 = .ok (.iconst 1, 1) := by decide +kernel
theorem dX11_side_27 : decode cX11_side 27 = .ok (.ireturn, 1) := by decide +kernel
theorem dX11_fan_0 : decode cX11_fan 0 = .ok (.aload_n 0, 1) := by decide +kernel
theorem dX11_fan_1 : decode cX11_fan 1 = .ok (.invokevirtual 156, 3) := by decide +kernel
theorem dX11_fan_4 : decode cX11_fan 4 = .ok (.iload_n 1, 1) := by decide +kernel
theorem dX11_fan_5 : decode cX11_fan 5 = .ok (.iconst 0, 1) := by decide +kernel
theorem dX11_fan_6 : decode cX11_fan 6 = .ok (.aload_n 0, 1) := by decide +kernel
theorem dX11_fan_7 : decode cX11_fan 7 = .ok (.getfield 77, 3) := by decide +kernel
theorem dX11_fan_10 : decode cX11_fan 10 = .ok (.invokestatic 140, 3) := by decide +kernel
theorem dX11_fan_13 : decode cX11_fan 13 = .ok (.ifCond .ne 9, 3) := by decide +kernel
theorem dX11_fan_16 : decode cX11_fan 16 = .ok (.aload_n 0, 1) := by decide +kernel
theorem dX11_fan_17 : decode cX11_fan 17 = .ok (.iconst 2, 1) := by decide +kernel
theorem dX11_fan_18 : decode cX11_fan 18 = .ok (.invokevirtual 159, 3) := by decide +kernel
theorem dX11_fan_21 : decode cX11_fan 21 = .ok (.ireturn, 1) := by decide +kernel
theorem dX11_fan_22 : decode cX11_fan 22 = .ok (.aload_n 0, 1) := by decide +kernel
theorem dX11_fan_23 : decode cX11_fan 23 = .ok (.iconst 0, 1) := by decide +kernel
theorem dX11_fan_24 : decode cX11_fan 24 = .ok (.putfield 77, 3) := by decide +kernel
theorem dX11_fan_27 : decode cX11_fan 27 = .ok (.aload_n 0, 1) := by decide +kernel
theorem dX11_fan_28 : decode cX11_fan 28 = .ok (.iconst 0, 1) := by decide +kernel
theorem dX11_fan_29 : decode cX11_fan 29 = .ok (.putfield 113, 3) := by decide +kernel
theorem dX11_fan_32 : decode cX11_fan 32 = .ok (.aload_n 0, 1) := by decide +kernel
theorem dX11_fan_33 : decode cX11_fan 33 = .ok (.iconst 0, 1) := by decide +kernel
theorem dX11_fan_34 : decode cX11_fan 34 = .ok (.putfield 109, 3) := by decide +kernel
theorem dX11_fan_37 : decode cX11_fan 37 = .ok (.iconst 0, 1) := by decide +kernel
theorem dX11_fan_38 : decode cX11_fan 38 = .ok (.istore_n 2, 1) := by decide +kernel
theorem dX11_fan_39 : decode cX11_fan 39 = .ok (.iload_n 2, 1) := by decide +kernel
theorem dX11_fan_40 : decode cX11_fan 40 = .ok (.sipush 186, 3) := by decide +kernel
theorem dX11_fan_43 : decode cX11_fan 43 = .ok (.if_icmp .ge 16, 3) := by decide +kernel
theorem dX11_fan_46 : decode cX11_fan 46 = .ok (.aload_n 0, 1) := by decide +kernel
theorem dX11_fan_47 : decode cX11_fan 47 = .ok (.getfield 23, 3) := by decide +kernel
theorem dX11_fan_50 : decode cX11_fan 50 = .ok (.iload_n 2, 1) := by decide +kernel
theorem dX11_fan_51 : decode cX11_fan 51 = .ok (.iconst 0, 1) := by decide +kernel
theorem dX11_fan_52 : decode cX11_fan 52 = .ok (.iastore, 1) := by decide +kernel
theorem dX11_fan_53 : decode cX11_fan 53 = .ok (.iinc 2 1, 3) := by decide +kernel
theorem dX11_fan_56 : decode cX11_fan 56 = .ok (.goto (-17), 3) := by decide +kernel
theorem dX11_fan_59 : decode cX11_fan 59 = .ok (.iconst 0, 1) := by decide +kernel
theorem dX11_fan_60 : decode cX11_fan 60 = .ok (.istore_n 2, 1) := by decide +kernel
theorem dX11_fan_61 : decode cX11_fan 61 = .ok (.iload_n 2, 1) := by decide +kernel
theorem dX11_fan_62 : decode cX11_fan 62 = .ok (.bipush 62, 2) := by decide +kernel
theorem dX11_fan_64 : decode cX11_fan 64 = .ok (.if_icmp .ge 27, 3) := by decide +kernel
theorem dX11_fan_67 : decode cX11_fan 67 = .ok (.aload_n 0, 1) := by decide +kernel
theorem dX11_fan_68 : decode cX11_fan 68 = .ok (.getfield 29, 3) := by decide +kernel
theorem dX11_fan_71 : decode cX11_fan 71 = .ok (.iload_n 2, 1) := by decide +kernel
theorem dX11_fan_72 : decode cX11_fan 72 = .ok (.iload_n 2, 1) := by decide +kernel
theorem dX11_fan_73 : decode cX11_fan 73 = .ok (.bipush 60, 2) := by decide +kernel
theorem dX11_fan_75 : decode cX11_fan 75 = .ok (.if_icmp .ge 8, 3) := by decide +kernel
theorem dX11_fan_78 : decode cX11_fan 78 = .ok (.bipush 25, 2) := by decide +kernel
theorem dX11_fan_80 : decode cX11_fan 80 = .ok (.goto 4, 3) := by decide +kernel
theorem dX11_fan_83 : decode cX11_fan 83 = .ok (.iconst 0, 1) := by decide +kernel
theorem dX11_fan_84 : decode cX11_fan 84 = .ok (.iastore, 1) := by decide +kernel
theorem dX11_fan_85 : decode cX11_fan 85 = .ok (.iinc 2 1, 3) := by decide +kernel
theorem dX11_fan_88 : decode cX11_fan 88 = .ok (.goto (-27), 3) := by decide +kernel
theorem dX11_fan_91 : decode cX11_fan 91 = .ok (.aload_n 0, 1) := by decide +kernel
theorem dX11_fan_92 : decode cX11_fan 92 = .ok (.iload_n 1, 1) := by decide +kernel
theorem dX11_fan_93 : decode cX11_fan 93 = .ok (.putfield 80, 3) := by decide +kernel
theorem dX11_fan_96 : decode cX11_fan 96 = .ok (.aload_n 0, 1) := by decide +kernel
theorem dX11_fan_97 : decode cX11_fan 97 = .ok (.iconst 0, 1) := by decide +kernel
theorem dX11_fan_98 : decode cX11_fan 98 = .ok (.putfield 83, 3) := by decide +kernel
theorem dX11_fan_101 : decode cX11_fan 101 = .ok (.aload_n 0, 1) := by decide +kernel
theorem dX11_fan_102 : decode cX11_fan 102 = .ok (.invokevirtual 130, 3) := by decide +kernel
theorem dX11_fan_105 : decode cX11_fan 105 = .ok (.aload_n 0, 1) := by decide +kernel
theorem dX11_fan_106 : decode cX11_fan 106 = .ok (.invokevirtual 162, 3) := by decide +kernel
theorem dX11_fan_109 : decode cX11_fan 109 = .ok (.aload_n 0, 1) := by decide +kernel
theorem dX11_fan_110 : decode cX11_fan 110 = .ok (.getfield 109, 3) := by decide +kernel
theorem dX11_fan_113 : decode cX11_fan 113 = .ok (.ifCond .ne 23, 3) := by decide +kernel
theorem dX11_fan_116 : decode cX11_fan 116 = .ok (.aload_n 0, 1) := by decide +kernel
theorem dX11_fan_117 : decode cX11_fan 117 = .ok (.getfield 99, 3) := by decide +kernel
theorem dX11_fan_120 : decode cX11_fan 120 = .ok (.bipush 59, 2) := by decide +kernel
theorem dX11_fan_122 : decode cX11_fan 122 = .ok (.if_icmp .ne 14, 3) := by decide +kernel
theorem dX11_fan_125 : decode cX11_fan 125 = .ok (.aload_n 0, 1) := by decide +kernel
theorem dX11_fan_126 : decode cX11_fan 126 = .ok (.invokevirtual 130, 3) := by decide +kernel
theorem dX11_fan_129 : decode cX11_fan 129 = .ok (.aload_n 0, 1) := by decide +kernel
theorem dX11_fan_130 : decode cX11_fan 130 = .ok (.invokevirtual 162, 3) := by decide +kernel
theorem dX11_fan_133 : decode cX11_fan 133 = .ok (.goto (-24), 3) := by decide +kernel
theorem dX11_fan_136 : decode cX11_fan 136 = .ok (.aload_n 0, 1) := by decide +kernel
theorem dX11_fan_137 : decode cX11_fan 137 = .ok (.getfield 109, 3) := by decide +kernel
theorem dX11_fan_140 : decode cX11_fan 140 = .ok (.ifCond .ne 19, 3) := by decide +kernel
theorem dX11_fan_143 : decode cX11_fan 143 = .ok (.aload_n 0, 1) := by decide +kernel
theorem dX11_fan_144 : decode cX11_fan 144 = .ok (.getfield 99, 3) := by decide +kernel
theorem dX11_fan_147 : decode cX11_fan 147 = .ok (.ifCond .eq 12, 3) := by decide +kernel
theorem dX11_fan_150 : decode cX11_fan 150 = .ok (.aload_n 0, 1) := by decide +kernel
theorem dX11_fan_151 : decode cX11_fan 151 = .ok (.iconst 1, 1) := by decide +kernel
theorem dX11_fan_152 : decode cX11_fan 152 = .ok (.aload_n 0, 1) := by decide +kernel
theorem dX11_fan_153 : decode cX11_fan 153 = .ok (.getfield 90, 3) := by decide +kernel
theorem dX11_fan_156 : decode cX11_fan 156 = .ok (.invokevirtual 136, 3) := by decide +kernel
theorem dX11_fan_159 : decode cX11_fan 159 = .ok (.aload_n 0, 1) := by decide +kernel
theorem dX11_fan_160 : decode cX11_fan 160 = .ok (.getfield 109, 3) := by decide +kernel
theorem dX11_fan_163 : decode cX11_fan 163 = .ok (.ifCond .ne 22, 3) := by decide +kernel
theorem dX11_fan_166 : decode cX11_fan 166 = .ok (.aload_n 0, 1) := by decide +kernel
theorem dX11_fan_167 : decode cX11_fan 167 = .ok (.getfield 23, 3) := by decide +kernel
theorem dX11_fan_170 : decode cX11_fan 170 = .ok (.iconst 0, 1) := by decide +kernel
theorem dX11_fan_171 : decode cX11_fan 171 = .ok (.iaload, 1) := by decide +kernel
theorem dX11_fan_172 : decode cX11_fan 172 = .ok (.ifCond .ne 13, 3) := by decide +kernel
theorem dX11_fan_175 : decode cX11_fan 175 = .ok (.aload_n 0, 1) := by decide +kernel
theorem dX11_fan_176 : decode cX11_fan 176 = .ok (.bipush 6, 2) := by decide +kernel
theorem dX11_fan_178 : decode cX11_fan 178 = .ok (.aload_n 0, 1) := by decide +kernel
theorem dX11_fan_179 : decode cX11_fan 179 = .ok (.getfield 90, 3) := by decide +kernel
theorem dX11_fan_182 : decode cX11_fan 182 = .ok (.invokevirtual 136, 3) := by decide +kernel
theorem dX11_fan_185 : decode cX11_fan 185 = .ok (.aload_n 0, 1) := by decide +kernel
theorem dX11_fan_186 : decode cX11_fan 186 = .ok (.getfield 109, 3) := by decide +kernel
theorem dX11_fan_189 : decode cX11_fan 189 = .ok (.ifCond .eq 9, 3) := by decide +kernel
theorem dX11_fan_192 : decode cX11_fan 192 = .ok (.aload_n 0, 1) := by decide +kernel
theorem dX11_fan_193 : decode cX11_fan 193 = .ok (.iconst 4, 1) := by decide +kernel
theorem dX11_fan_194 : decode cX11_fan 194 = .ok (.invokevirtual 159, 3) := by decide +kernel
theorem dX11_fan_197 : decode cX11_fan 197 = .ok (.ireturn, 1) := by decide +kernel
theorem dX11_fan_198 : decode cX11_fan 198 = .ok (.aload_n 0, 1) := by decide +kernel
theorem dX11_fan_199 : decode cX11_fan 199 = .ok (.getfield 23, 3) := by decide +kernel
theorem dX11_fan_202 : decode cX11_fan 202 = .ok (.iconst 0, 1) := by decide +kernel
theorem dX11_fan_203 : decode cX11_fan 203 = .ok (.aload_n 0, 1) := by decide +kernel
theorem dX11_fan_204 : decode cX11_fan 204 = .ok (.getfield 20, 3) := by decide +kernel
theorem dX11_fan_207 : decode cX11_fan 207 = .ok (.iconst 0, 1) := by decide +kernel
theorem dX11_fan_208 : decode cX11_fan 208 = .ok (.sipush 186, 3) := by decide +kernel
theorem dX11_fan_211 : decode cX11_fan 211 = .ok (.invokestatic 165, 3) := by decide +kernel
theorem dX11_fan_214 : decode cX11_fan 214 = .ok (.aload_n 0, 1) := by decide +kernel
theorem dX11_fan_215 : decode cX11_fan 215 = .ok (.getfield 29, 3) := by decide +kernel
theorem dX11_fan_218 : decode cX11_fan 218 = .ok (.iconst 0, 1) := by decide +kernel
theorem dX11_fan_219 : decode cX11_fan 219 = .ok (.aload_n 0, 1) := by decide +kernel
theorem dX11_fan_220 : decode cX11_fan 220 = .ok (.getfield 26, 3) := by decide +kernel
theorem dX11_fan_223 : decode cX11_fan 223 = .ok (.iconst 0, 1) := by decide +kernel
theorem dX11_fan_224 : decode cX11_fan 224 = .ok (.bipush 62, 2) := by decide +kernel
theorem dX11_fan_226 : decode cX11_fan 226 = .ok (.invokestatic 165, 3) := by decide +kernel
theorem dX11_fan_229 : decode cX11_fan 229 = .ok (.aload_n 0, 1) := by decide +kernel
theorem dX11_fan_230 : decode cX11_fan 230 = .ok (.iconst 1, 1) := by decide +kernel
theorem dX11_fan_231 : decode cX11_fan 231 = .ok (.putfield 169, 3) := by decide +kernel
theorem dX11_fan_234 : decode cX11_fan 234 = .ok (.aload_n 0, 1) := by decide +kernel
theorem dX11_fan_235 : decode cX11_fan 235 = .ok (.iconst 0, 1) := by decide +kernel
theorem dX11_fan_236 : decode cX11_fan 236 = .ok (.putfield 172, 3) := by decide +kernel
theorem dX11_fan_239 : decode cX11_fan 239 = .ok (.aload_n 0, 1) := by decide +kernel
theorem dX11_fan_240 : decode cX11_fan 240 = .ok (.iconst 0, 1) := by decide +kernel
theorem dX11_fan_241 : decode cX11_fan 241 = .ok (.putfield 175, 3) := by decide +kernel
theorem dX11_fan_244 : decode cX11_fan 244 = .ok (.aload_n 0, 1) := by decide +kernel
theorem dX11_fan_245 : decode cX11_fan 245 = .ok (.getfield 20, 3) := by decide +kernel
theorem dX11_fan_248 : decode cX11_fan 248 = .ok (.invokestatic 178, 3) := by decide +kernel
theorem dX11_fan_251 : decode cX11_fan 251 = .ok (.iconst 1, 1) := by decide +kernel
theorem dX11_fan_252 : decode cX11_fan 252 = .ok (.iadd, 1) := by decide +kernel
theorem dX11_fan_253 : decode cX11_fan 253 = .ok (.ireturn, 1) := by decide +kernel
theorem dX11_mostOpen_0 : decode cX11_mostOpen 0 = .ok (.aload_n 0, 1) := by decide +kernel
theorem dX11_mostOpen_1 : decode cX11_mostOpen 1 = .ok (.iconst 3, 1) := by decide +kernel
theorem dX11_mostOpen_2 : decode cX11_mostOpen 2 = .ok (.iaload, 1) := by decide +kernel
theorem dX11_mostOpen_3 : decode cX11_mostOpen 3 = .ok (.iconst 1, 1) := by decide +kernel
theorem dX11_mostOpen_4 : decode cX11_mostOpen 4 = .ok (.if_icmp .ne 15, 3) := by decide +kernel
theorem dX11_mostOpen_7 : decode cX11_mostOpen 7 = .ok (.aload_n 0, 1) := by decide +kernel
theorem dX11_mostOpen_8 : decode cX11_mostOpen 8 = .ok (.iconst 1, 1) := by decide +kernel
theorem dX11_mostOpen_9 : decode cX11_mostOpen 9 = .ok (.iaload, 1) := by decide +kernel
theorem dX11_mostOpen_10 : decode cX11_mostOpen 10 = .ok (.aload_n 0, 1) := by decide +kernel
theorem dX11_mostOpen_11 : decode cX11_mostOpen 11 = .ok (.iconst 0, 1) := by decide +kernel
theorem dX11_mostOpen_12 : decode cX11_mostOpen 12 = .ok (.iaload, 1) := by decide +kernel
theorem dX11_mostOpen_13 : decode cX11_mostOpen 13 = .ok (.iconst 1, 1) := by decide +kernel
theorem dX11_mostOpen_14 : decode cX11_mostOpen 14 = .ok (.isub, 1) := by decide +kernel
theorem dX11_mostOpen_15 : decode cX11_mostOpen 15 = .ok (.imul, 1) := by decide +kernel
theorem dX11_mostOpen_16 : decode cX11_mostOpen 16 = .ok (.goto 6, 3) := by decide +kernel
theorem dX11_mostOpen_19 : decode cX11_mostOpen 19 = .ok (.aload_n 0, 1) := by decide +kernel
theorem dX11_mostOpen_20 : decode cX11_mostOpen 20 = .ok (.iconst 1, 1) := by decide +kernel
theorem dX11_mostOpen_21 : decode cX11_mostOpen 21 = .ok (.iaload, 1) := by decide +kernel
theorem dX11_mostOpen_22 : decode cX11_mostOpen 22 = .ok (.ireturn, 1) := by decide +kernel
theorem dX11_begins_0 : decode cX11_begins 0 = .ok (.aload_n 0, 1) := by decide +kernel
theorem dX11_begins_1 : decode cX11_begins 1 = .ok (.aload_n 1, 1) := by decide +kernel
theorem dX11_begins_2 : decode cX11_begins 2 = .ok (.invokevirtual 126, 3) := by decide +kernel
theorem dX11_begins_5 : decode cX11_begins 5 = .ok (.ifCond .ne 5, 3) := by decide +kernel
theorem dX11_begins_8 : decode cX11_begins 8 = .ok (.iconst 0, 1) := by decide +kernel
theorem dX11_begins_9 : decode cX11_begins 9 = .ok (.ireturn, 1) := by decide +kernel
theorem dX11_begins_10 : decode cX11_begins 10 = .ok (.iload_n 2, 1) := by decide +kernel
theorem dX11_begins_11 : decode cX11_begins 11 = .ok (.ifCond .ne 12, 3) := by decide +kernel
theorem dX11_begins_14 : decode cX11_begins 14 = .ok (.aload_n 0, 1) := by decide +kernel
theorem dX11_begins_15 : decode cX11_begins 15 = .ok (.iload_n 3, 1) := by decide +kernel
theorem dX11_begins_16 : decode cX11_begins 16 = .ok (.aload_n 0, 1) := by decide +kernel
theorem dX11_begins_17 : decode cX11_begins 17 = .ok (.getfield 90, 3) := by decide +kernel
theorem dX11_begins_20 : decode cX11_begins 20 = .ok (.invokevirtual 136, 3) := by decide +kernel
theorem dX11_begins_23 : decode cX11_begins 23 = .ok (.aload_n 0, 1) := by decide +kernel
theorem dX11_begins_24 : decode cX11_begins 24 = .ok (.getfield 23, 3) := by decide +kernel
theorem dX11_begins_27 : decode cX11_begins 27 = .ok (.iconst 0, 1) := by decide +kernel
theorem dX11_begins_28 : decode cX11_begins 28 = .ok (.iaload, 1) := by decide +kernel
theorem dX11_begins_29 : decode cX11_begins 29 = .ok (.ifCond .ne 13, 3) := by decide +kernel
theorem dX11_begins_32 : decode cX11_begins 32 = .ok (.aload_n 0, 1) := by decide +kernel
theorem dX11_begins_33 : decode cX11_begins 33 = .ok (.bipush 6, 2) := by decide +kernel
theorem dX11_begins_35 : decode cX11_begins 35 = .ok (.aload_n 0, 1) := by decide +kernel
theorem dX11_begins_36 : decode cX11_begins 36 = .ok (.getfield 90, 3) := by decide +kernel
theorem dX11_begins_39 : decode cX11_begins 39 = .ok (.invokevirtual 136, 3) := by decide +kernel
theorem dX11_begins_42 : decode cX11_begins 42 = .ok (.aload_n 0, 1) := by decide +kernel
theorem dX11_begins_43 : decode cX11_begins 43 = .ok (.getfield 109, 3) := by decide +kernel
theorem dX11_begins_46 : decode cX11_begins 46 = .ok (.ifCond .ne 7, 3) := by decide +kernel
theorem dX11_begins_49 : decode cX11_begins 49 = .ok (.aload_n 0, 1) := by decide +kernel
theorem dX11_begins_50 : decode cX11_begins 50 = .ok (.invokevirtual 130, 3) := by decide +kernel
theorem dX11_begins_53 : decode cX11_begins 53 = .ok (.iconst 1, 1) := by decide +kernel
theorem dX11_begins_54 : decode cX11_begins 54 = .ok (.ireturn, 1) := by decide +kernel
theorem dX11_readLine_0 : decode cX11_readLine 0 = .ok (.aload_n 0, 1) := by decide +kernel
theorem dX11_readLine_1 : decode cX11_readLine 1 = .ok (.ldc 182, 2) := by decide +kernel
theorem dX11_readLine_3 : decode cX11_readLine 3 = .ok (.invokevirtual 126, 3) := by decide +kernel
theorem dX11_readLine_6 : decode cX11_readLine 6 = .ok (.ifCond .eq 10, 3) := by decide +kernel
theorem dX11_readLine_9 : decode cX11_readLine 9 = .ok (.aload_n 0, 1) := by decide +kernel
theorem dX11_readLine_10 : decode cX11_readLine 10 = .ok (.invokevirtual 184, 3) := by decide +kernel
theorem dX11_readLine_13 : decode cX11_readLine 13 = .ok (.goto 190, 3) := by decide +kernel
theorem dX11_readLine_16 : decode cX11_readLine 16 = .ok (.aload_n 0, 1) := by decide +kernel
theorem dX11_readLine_17 : decode cX11_readLine 17 = .ok (.ldc 187, 2) := by decide +kernel
theorem dX11_readLine_19 : decode cX11_readLine 19 = .ok (.aload_n 0, 1) := by decide +kernel
theorem dX11_readLine_20 : decode cX11_readLine 20 = .ok (.getfield 23, 3) := by decide +kernel
theorem dX11_readLine_23 : decode cX11_readLine 23 = .ok (.iconst 0, 1) := by decide +kernel
theorem dX11_readLine_24 : decode cX11_readLine 24 = .ok (.iaload, 1) := by decide +kernel
theorem dX11_readLine_25 : decode cX11_readLine 25 = .ok (.ifCond .eq 18, 3) := by decide +kernel
theorem dX11_readLine_28 : decode cX11_readLine 28 = .ok (.aload_n 0, 1) := by decide +kernel
theorem dX11_readLine_29 : decode cX11_readLine 29 = .ok (.getfield 23, 3) := by decide +kernel
theorem dX11_readLine_32 : decode cX11_readLine 32 = .ok (.iconst 4, 1) := by decide +kernel
theorem dX11_readLine_33 : decode cX11_readLine 33 = .ok (.iaload, 1) := by decide +kernel
theorem dX11_readLine_34 : decode cX11_readLine 34 = .ok (.aload_n 0, 1) := by decide +kernel
theorem dX11_readLine_35 : decode cX11_readLine 35 = .ok (.getfield 23, 3) := by decide +kernel
theorem dX11_readLine_38 : decode cX11_readLine 38 = .ok (.iconst 0, 1) := by decide +kernel
theorem dX11_readLine_39 : decode cX11_readLine 39 = .ok (.iaload, 1) := by decide +kernel
theorem dX11_readLine_40 : decode cX11_readLine 40 = .ok (.if_icmp .ge 7, 3) := by decide +kernel
theorem dX11_readLine_43 : decode cX11_readLine 43 = .ok (.iconst 1, 1) := by decide +kernel
theorem dX11_readLine_44 : decode cX11_readLine 44 = .ok (.goto 4, 3) := by decide +kernel
theorem dX11_readLine_47 : decode cX11_readLine 47 = .ok (.iconst 0, 1) := by decide +kernel
theorem dX11_readLine_48 : decode cX11_readLine 48 = .ok (.iconst 5, 1) := by decide +kernel
theorem dX11_readLine_49 : decode cX11_readLine 49 = .ok (.invokevirtual 189, 3) := by decide +kernel
theorem dX11_readLine_52 : decode cX11_readLine 52 = .ok (.ifCond .eq 10, 3) := by decide +kernel
theorem dX11_readLine_55 : decode cX11_readLine 55 = .ok (.aload_n 0, 1) := by decide +kernel
theorem dX11_readLine_56 : decode cX11_readLine 56 = .ok (.invokevirtual 193, 3) := by decide +kernel
theorem dX11_readLine_59 : decode cX11_readLine 59 = .ok (.goto 144, 3) := by decide +kernel
theorem dX11_readLine_62 : decode cX11_readLine 62 = .ok (.aload_n 0, 1) := by decide +kernel
theorem dX11_readLine_63 : decode cX11_readLine 63 = .ok (.ldc 196, 2) := by decide +kernel
theorem dX11_readLine_65 : decode cX11_readLine 65 = .ok (.aload_n 0, 1) := by decide +kernel
theorem dX11_readLine_66 : decode cX11_readLine 66 = .ok (.getfield 23, 3) := by decide +kernel
theorem dX11_readLine_69 : decode cX11_readLine 69 = .ok (.iconst 5, 1) := by decide +kernel
theorem dX11_readLine_70 : decode cX11_readLine 70 = .ok (.iaload, 1) := by decide +kernel
theorem dX11_readLine_71 : decode cX11_readLine 71 = .ok (.bipush 6, 2) := by decide +kernel
theorem dX11_readLine_73 : decode cX11_readLine 73 = .ok (.if_icmp .ge 7, 3) := by decide +kernel
theorem dX11_readLine_76 : decode cX11_readLine 76 = .ok (.iconst 1, 1) := by decide +kernel
theorem dX11_readLine_77 : decode cX11_readLine 77 = .ok (.goto 4, 3) := by decide +kernel
theorem dX11_readLine_80 : decode cX11_readLine 80 = .ok (.iconst 0, 1) := by decide +kernel
theorem dX11_readLine_81 : decode cX11_readLine 81 = .ok (.iconst 5, 1) := by decide +kernel
theorem dX11_readLine_82 : decode cX11_readLine 82 = .ok (.invokevirtual 189, 3) := by decide +kernel
theorem dX11_readLine_85 : decode cX11_readLine 85 = .ok (.ifCond .eq 10, 3) := by decide +kernel
theorem dX11_readLine_88 : decode cX11_readLine 88 = .ok (.aload_n 0, 1) := by decide +kernel
theorem dX11_readLine_89 : decode cX11_readLine 89 = .ok (.invokevirtual 198, 3) := by decide +kernel
theorem dX11_readLine_92 : decode cX11_readLine 92 = .ok (.goto 111, 3) := by decide +kernel
theorem dX11_readLine_95 : decode cX11_readLine 95 = .ok (.aload_n 0, 1) := by decide +kernel
theorem dX11_readLine_96 : decode cX11_readLine 96 = .ok (.ldc 201, 2) := by decide +kernel
theorem dX11_readLine_98 : decode cX11_readLine 98 = .ok (.aload_n 0, 1) := by decide +kernel
theorem dX11_readLine_99 : decode cX11_readLine 99 = .ok (.getfield 23, 3) := by decide +kernel
theorem dX11_readLine_102 : decode cX11_readLine 102 = .ok (.bipush 6, 2) := by decide +kernel
theorem dX11_readLine_104 : decode cX11_readLine 104 = .ok (.iaload, 1) := by decide +kernel
theorem dX11_readLine_105 : decode cX11_readLine 105 = .ok (.iconst 4, 1) := by decide +kernel
theorem dX11_readLine_106 : decode cX11_readLine 106 = .ok (.if_icmp .ge 7, 3) := by decide +kernel
theorem dX11_readLine_109 : decode cX11_readLine 109 = .ok (.iconst 1, 1) := by decide +kernel
theorem dX11_readLine_110 : decode cX11_readLine 110 = .ok (.goto 4, 3) := by decide +kernel
theorem dX11_readLine_113 : decode cX11_readLine 113 = .ok (.iconst 0, 1) := by decide +kernel
theorem dX11_readLine_114 : decode cX11_readLine 114 = .ok (.iconst 5, 1) := by decide +kernel
theorem dX11_readLine_115 : decode cX11_readLine 115 = .ok (.invokevirtual 189, 3) := by decide +kernel
theorem dX11_readLine_118 : decode cX11_readLine 118 = .ok (.ifCond .eq 10, 3) := by decide +kernel
theorem dX11_readLine_121 : decode cX11_readLine 121 = .ok (.aload_n 0, 1) := by decide +kernel
theorem dX11_readLine_122 : decode cX11_readLine 122 = .ok (.invokevirtual 203, 3) := by decide +kernel
theorem dX11_readLine_125 : decode cX11_readLine 125 = .ok (.goto 78, 3) := by decide +kernel
theorem dX11_readLine_128 : decode cX11_readLine 128 = .ok (.aload_n 0, 1) := by decide +kernel
theorem dX11_readLine_129 : decode cX11_readLine 129 = .ok (.ldc 206, 2) := by decide +kernel
theorem dX11_readLine_131 : decode cX11_readLine 131 = .ok (.aload_n 0, 1) := by decide +kernel
theorem dX11_readLine_132 : decode cX11_readLine 132 = .ok (.getfield 23, 3) := by decide +kernel
theorem dX11_readLine_135 : decode cX11_readLine 135 = .ok (.bipush 7, 2) := by decide +kernel
theorem dX11_readLine_137 : decode cX11_readLine 137 = .ok (.iaload, 1) := by decide +kernel
theorem dX11_readLine_138 : decode cX11_readLine 138 = .ok (.bipush 6, 2) := by decide +kernel
theorem dX11_readLine_140 : decode cX11_readLine 140 = .ok (.if_icmp .ge 7, 3) := by decide +kernel
theorem dX11_readLine_143 : decode cX11_readLine 143 = .ok (.iconst 1, 1) := by decide +kernel
theorem dX11_readLine_144 : decode cX11_readLine 144 = .ok (.goto 4, 3) := by decide +kernel
theorem dX11_readLine_147 : decode cX11_readLine 147 = .ok (.iconst 0, 1) := by decide +kernel
theorem dX11_readLine_148 : decode cX11_readLine 148 = .ok (.iconst 5, 1) := by decide +kernel
theorem dX11_readLine_149 : decode cX11_readLine 149 = .ok (.invokevirtual 189, 3) := by decide +kernel
theorem dX11_readLine_152 : decode cX11_readLine 152 = .ok (.ifCond .eq 10, 3) := by decide +kernel
theorem dX11_readLine_155 : decode cX11_readLine 155 = .ok (.aload_n 0, 1) := by decide +kernel
theorem dX11_readLine_156 : decode cX11_readLine 156 = .ok (.invokevirtual 208, 3) := by decide +kernel
theorem dX11_readLine_159 : decode cX11_readLine 159 = .ok (.goto 44, 3) := by decide +kernel
theorem dX11_readLine_162 : decode cX11_readLine 162 = .ok (.aload_n 0, 1) := by decide +kernel
theorem dX11_readLine_163 : decode cX11_readLine 163 = .ok (.ldc 211, 2) := by decide +kernel
theorem dX11_readLine_165 : decode cX11_readLine 165 = .ok (.aload_n 0, 1) := by decide +kernel
theorem dX11_readLine_166 : decode cX11_readLine 166 = .ok (.getfield 23, 3) := by decide +kernel
theorem dX11_readLine_169 : decode cX11_readLine 169 = .ok (.bipush 9, 2) := by decide +kernel
theorem dX11_readLine_171 : decode cX11_readLine 171 = .ok (.iaload, 1) := by decide +kernel
theorem dX11_readLine_172 : decode cX11_readLine 172 = .ok (.ifCond .ne 7, 3) := by decide +kernel
theorem dX11_readLine_175 : decode cX11_readLine 175 = .ok (.iconst 1, 1) := by decide +kernel
theorem dX11_readLine_176 : decode cX11_readLine 176 = .ok (.goto 4, 3) := by decide +kernel
theorem dX11_readLine_179 : decode cX11_readLine 179 = .ok (.iconst 0, 1) := by decide +kernel
theorem dX11_readLine_180 : decode cX11_readLine 180 = .ok (.iconst 3, 1) := by decide +kernel
theorem dX11_readLine_181 : decode cX11_readLine 181 = .ok (.invokevirtual 189, 3) := by decide +kernel
theorem dX11_readLine_184 : decode cX11_readLine 184 = .ok (.ifCond .eq 10, 3) := by decide +kernel
theorem dX11_readLine_187 : decode cX11_readLine 187 = .ok (.aload_n 0, 1) := by decide +kernel
theorem dX11_readLine_188 : decode cX11_readLine 188 = .ok (.invokevirtual 213, 3) := by decide +kernel
theorem dX11_readLine_191 : decode cX11_readLine 191 = .ok (.goto 12, 3) := by decide +kernel
theorem dX11_readLine_194 : decode cX11_readLine 194 = .ok (.aload_n 0, 1) := by decide +kernel
theorem dX11_readLine_195 : decode cX11_readLine 195 = .ok (.iconst 1, 1) := by decide +kernel
theorem dX11_readLine_196 : decode cX11_readLine 196 = .ok (.aload_n 0, 1) := by decide +kernel
theorem dX11_readLine_197 : decode cX11_readLine 197 = .ok (.getfield 90, 3) := by decide +kernel
theorem dX11_readLine_200 : decode cX11_readLine 200 = .ok (.invokevirtual 136, 3) := by decide +kernel
theorem dX11_readLine_203 : decode cX11_readLine 203 = .ok (.return_, 1) := by decide +kernel
theorem dX11_fanLine_0 : decode cX11_fanLine 0 = .ok (.aload_n 0, 1) := by decide +kernel
theorem dX11_fanLine_1 : decode cX11_fanLine 1 = .ok (.getfield 23, 3) := by decide +kernel
theorem dX11_fanLine_4 : decode cX11_fanLine 4 = .ok (.iconst 0, 1) := by decide +kernel
theorem dX11_fanLine_5 : decode cX11_fanLine 5 = .ok (.iaload, 1) := by decide +kernel
theorem dX11_fanLine_6 : decode cX11_fanLine 6 = .ok (.ifCond .le 12, 3) := by decide +kernel
theorem dX11_fanLine_9 : decode cX11_fanLine 9 = .ok (.aload_n 0, 1) := by decide +kernel
theorem dX11_fanLine_10 : decode cX11_fanLine 10 = .ok (.iconst 3, 1) := by decide +kernel
theorem dX11_fanLine_11 : decode cX11_fanLine 11 = .ok (.aload_n 0, 1) := by decide +kernel
theorem dX11_fanLine_12 : decode cX11_fanLine 12 = .ok (.getfield 90, 3) := by decide +kernel
theorem dX11_fanLine_15 : decode cX11_fanLine 15 = .ok (.invokevirtual 136, 3) := by decide +kernel
theorem dX11_fanLine_18 : decode cX11_fanLine 18 = .ok (.aload_n 0, 1) := by decide +kernel
theorem dX11_fanLine_19 : decode cX11_fanLine 19 = .ok (.getfield 109, 3) := by decide +kernel
theorem dX11_fanLine_22 : decode cX11_fanLine 22 = .ok (.ifCond .eq 4, 3) := by decide +kernel
theorem dX11_fanLine_25 : decode cX11_fanLine 25 = .ok (.return_, 1) := by decide +kernel
theorem dX11_fanLine_26 : decode cX11_fanLine 26 = .ok (.aload_n 0, 1) := by decide +kernel
theorem dX11_fanLine_27 : decode cX11_fanLine 27 = .ok (.invokevirtual 130, 3) := by decide +kernel
theorem dX11_fanLine_30 : decode cX11_fanLine 30 = .ok (.aload_n 0, 1) := by decide +kernel
theorem dX11_fanLine_31 : decode cX11_fanLine 31 = .ok (.ldc 216, 2) := by decide +kernel
theorem dX11_fanLine_33 : decode cX11_fanLine 33 = .ok (.iconst 2, 1) := by decide +kernel
theorem dX11_fanLine_34 : decode cX11_fanLine 34 = .ok (.bipush 10, 2) := by decide +kernel
theorem dX11_fanLine_36 : decode cX11_fanLine 36 = .ok (.invokevirtual 218, 3) := by decide +kernel
theorem dX11_fanLine_39 : decode cX11_fanLine 39 = .ok (.istore_n 1, 1) := by decide +kernel
theorem dX11_fanLine_40 : decode cX11_fanLine 40 = .ok (.aload_n 0, 1) := by decide +kernel
theorem dX11_fanLine_41 : decode cX11_fanLine 41 = .ok (.getfield 23, 3) := by decide +kernel
theorem dX11_fanLine_44 : decode cX11_fanLine 44 = .ok (.iconst 1, 1) := by decide +kernel
theorem dX11_fanLine_45 : decode cX11_fanLine 45 = .ok (.aload_n 0, 1) := by decide +kernel
theorem dX11_fanLine_46 : decode cX11_fanLine 46 = .ok (.ldc 222, 2) := by decide +kernel
theorem dX11_fanLine_48 : decode cX11_fanLine 48 = .ok (.iconst 1, 1) := by decide +kernel
theorem dX11_fanLine_49 : decode cX11_fanLine 49 = .ok (.iconst 3, 1) := by decide +kernel
theorem dX11_fanLine_50 : decode cX11_fanLine 50 = .ok (.invokevirtual 218, 3) := by decide +kernel
theorem dX11_fanLine_53 : decode cX11_fanLine 53 = .ok (.iastore, 1) := by decide +kernel
theorem dX11_fanLine_54 : decode cX11_fanLine 54 = .ok (.aload_n 0, 1) := by decide +kernel
theorem dX11_fanLine_55 : decode cX11_fanLine 55 = .ok (.getfield 23, 3) := by decide +kernel
theorem dX11_fanLine_58 : decode cX11_fanLine 58 = .ok (.iconst 2, 1) := by decide +kernel
theorem dX11_fanLine_59 : decode cX11_fanLine 59 = .ok (.aload_n 0, 1) := by decide +kernel
theorem dX11_fanLine_60 : decode cX11_fanLine 60 = .ok (.ldc 224, 2) := by decide +kernel
theorem dX11_fanLine_62 : decode cX11_fanLine 62 = .ok (.iconst 0, 1) := by decide +kernel
theorem dX11_fanLine_63 : decode cX11_fanLine 63 = .ok (.bipush 99, 2) := by decide +kernel
theorem dX11_fanLine_65 : decode cX11_fanLine 65 = .ok (.invokevirtual 218, 3) := by decide +kernel
theorem dX11_fanLine_68 : decode cX11_fanLine 68 = .ok (.iastore, 1) := by decide +kernel
theorem dX11_fanLine_69 : decode cX11_fanLine 69 = .ok (.aload_n 0, 1) := by decide +kernel
theorem dX11_fanLine_70 : decode cX11_fanLine 70 = .ok (.ldc 226, 2) := by decide +kernel
theorem dX11_fanLine_72 : decode cX11_fanLine 72 = .ok (.invokevirtual 144, 3) := by decide +kernel
theorem dX11_fanLine_75 : decode cX11_fanLine 75 = .ok (.aload_n 0, 1) := by decide +kernel
theorem dX11_fanLine_76 : decode cX11_fanLine 76 = .ok (.ldc 228, 2) := by decide +kernel
theorem dX11_fanLine_78 : decode cX11_fanLine 78 = .ok (.invokevirtual 133, 3) := by decide +kernel
theorem dX11_fanLine_81 : decode cX11_fanLine 81 = .ok (.ifCond .eq 13, 3) := by decide +kernel
theorem dX11_fanLine_84 : decode cX11_fanLine 84 = .ok (.aload_n 0, 1) := by decide +kernel
theorem dX11_fanLine_85 : decode cX11_fanLine 85 = .ok (.getfield 23, 3) := by decide +kernel
theorem dX11_fanLine_88 : decode cX11_fanLine 88 = .ok (.iconst 3, 1) := by decide +kernel
theorem dX11_fanLine_89 : decode cX11_fanLine 89 = .ok (.iconst 1, 1) := by decide +kernel
theorem dX11_fanLine_90 : decode cX11_fanLine 90 = .ok (.iastore, 1) := by decide +kernel
theorem dX11_fanLine_91 : decode cX11_fanLine 91 = .ok (.goto 9, 3) := by decide +kernel
theorem dX11_fanLine_94 : decode cX11_fanLine 94 = .ok (.aload_n 0, 1) := by decide +kernel
theorem dX11_fanLine_95 : decode cX11_fanLine 95 = .ok (.ldc 230, 2) := by decide +kernel
theorem dX11_fanLine_97 : decode cX11_fanLine 97 = .ok (.invokevirtual 144, 3) := by decide +kernel
theorem dX11_fanLine_100 : decode cX11_fanLine 100 = .ok (.aload_n 0, 1) := by decide +kernel
theorem dX11_fanLine_101 : decode cX11_fanLine 101 = .ok (.getfield 109, 3) := by decide +kernel
theorem dX11_fanLine_104 : decode cX11_fanLine 104 = .ok (.ifCond .ne 10, 3) := by decide +kernel
theorem dX11_fanLine_107 : decode cX11_fanLine 107 = .ok (.aload_n 0, 1) := by decide +kernel
theorem dX11_fanLine_108 : decode cX11_fanLine 108 = .ok (.getfield 23, 3) := by decide +kernel
theorem dX11_fanLine_111 : decode cX11_fanLine 111 = .ok (.iconst 0, 1) := by decide +kernel
theorem dX11_fanLine_112 : decode cX11_fanLine 112 = .ok (.iload_n 1, 1) := by decide +kernel
theorem dX11_fanLine_113 : decode cX11_fanLine 113 = .ok (.iastore, 1) := by decide +kernel
theorem dX11_fanLine_114 : decode cX11_fanLine 114 = .ok (.return_, 1) := by decide +kernel
theorem dX11_ribLine_0 : decode cX11_ribLine 0 = .ok (.aload_n 0, 1) := by decide +kernel
theorem dX11_ribLine_1 : decode cX11_ribLine 1 = .ok (.getfield 23, 3) := by decide +kernel
theorem dX11_ribLine_4 : decode cX11_ribLine 4 = .ok (.iconst 4, 1) := by decide +kernel
theorem dX11_ribLine_5 : decode cX11_ribLine 5 = .ok (.iaload, 1) := by decide +kernel
theorem dX11_ribLine_6 : decode cX11_ribLine 6 = .ok (.istore_n 1, 1) := by decide +kernel
theorem dX11_ribLine_7 : decode cX11_ribLine 7 = .ok (.iconst 0, 1) := by decide +kernel
theorem dX11_ribLine_8 : decode cX11_ribLine 8 = .ok (.istore_n 2, 1) := by decide +kernel
theorem dX11_ribLine_9 : decode cX11_ribLine 9 = .ok (.iload_n 2, 1) := by decide +kernel
theorem dX11_ribLine_10 : decode cX11_ribLine 10 = .ok (.iconst 2, 1) := by decide +kernel
theorem dX11_ribLine_11 : decode cX11_ribLine 11 = .ok (.if_icmp .ge 101, 3) := by decide +kernel
theorem dX11_ribLine_14 : decode cX11_ribLine 14 = .ok (.aload_n 0, 1) := by decide +kernel
theorem dX11_ribLine_15 : decode cX11_ribLine 15 = .ok (.getfield 109, 3) := by decide +kernel
theorem dX11_ribLine_18 : decode cX11_ribLine 18 = .ok (.ifCond .ne 94, 3) := by decide +kernel
theorem dX11_ribLine_21 : decode cX11_ribLine 21 = .ok (.aload_n 0, 1) := by decide +kernel
theorem dX11_ribLine_22 : decode cX11_ribLine 22 = .ok (.invokevirtual 232, 3) := by decide +kernel
theorem dX11_ribLine_25 : decode cX11_ribLine 25 = .ok (.aload_n 0, 1) := by decide +kernel
theorem dX11_ribLine_26 : decode cX11_ribLine 26 = .ok (.getfield 109, 3) := by decide +kernel
theorem dX11_ribLine_29 : decode cX11_ribLine 29 = .ok (.ifCond .ne 25, 3) := by decide +kernel
theorem dX11_ribLine_32 : decode cX11_ribLine 32 = .ok (.aload_n 0, 1) := by decide +kernel
theorem dX11_ribLine_33 : decode cX11_ribLine 33 = .ok (.getfield 93, 3) := by decide +kernel
theorem dX11_ribLine_36 : decode cX11_ribLine 36 = .ok (.aload_n 0, 1) := by decide +kernel
theorem dX11_ribLine_37 : decode cX11_ribLine 37 = .ok (.getfield 23, 3) := by decide +kernel
theorem dX11_ribLine_40 : decode cX11_ribLine 40 = .ok (.iconst 1, 1) := by decide +kernel
theorem dX11_ribLine_41 : decode cX11_ribLine 41 = .ok (.iaload, 1) := by decide +kernel
theorem dX11_ribLine_42 : decode cX11_ribLine 42 = .ok (.if_icmp .eq 12, 3) := by decide +kernel
theorem dX11_ribLine_45 : decode cX11_ribLine 45 = .ok (.aload_n 0, 1) := by decide +kernel
theorem dX11_ribLine_46 : decode cX11_ribLine 46 = .ok (.iconst 4, 1) := by decide +kernel
theorem dX11_ribLine_47 : decode cX11_ribLine 47 = .ok (.aload_n 0, 1) := by decide +kernel
theorem dX11_ribLine_48 : decode cX11_ribLine 48 = .ok (.getfield 90, 3) := by decide +kernel
theorem dX11_ribLine_51 : decode cX11_ribLine 51 = .ok (.invokevirtual 136, 3) := by decide +kernel
theorem dX11_ribLine_54 : decode cX11_ribLine 54 = .ok (.aload_n 0, 1) := by decide +kernel
theorem dX11_ribLine_55 : decode cX11_ribLine 55 = .ok (.getfield 109, 3) := by decide +kernel
theorem dX11_ribLine_58 : decode cX11_ribLine 58 = .ok (.ifCond .eq 4, 3) := by decide +kernel
theorem dX11_ribLine_61 : decode cX11_ribLine 61 = .ok (.return_, 1) := by decide +kernel
theorem dX11_ribLine_62 : decode cX11_ribLine 62 = .ok (.iconst 0, 1) := by decide +kernel
theorem dX11_ribLine_63 : decode cX11_ribLine 63 = .ok (.istore_n 3, 1) := by decide +kernel
theorem dX11_ribLine_64 : decode cX11_ribLine 64 = .ok (.iload_n 3, 1) := by decide +kernel
theorem dX11_ribLine_65 : decode cX11_ribLine 65 = .ok (.aload_n 0, 1) := by decide +kernel
theorem dX11_ribLine_66 : decode cX11_ribLine 66 = .ok (.getfield 93, 3) := by decide +kernel
theorem dX11_ribLine_69 : decode cX11_ribLine 69 = .ok (.if_icmp .ge 33, 3) := by decide +kernel
theorem dX11_ribLine_72 : decode cX11_ribLine 72 = .ok (.aload_n 0, 1) := by decide +kernel
theorem dX11_ribLine_73 : decode cX11_ribLine 73 = .ok (.getfield 29, 3) := by decide +kernel
theorem dX11_ribLine_76 : decode cX11_ribLine 76 = .ok (.bipush 30, 2) := by decide +kernel
theorem dX11_ribLine_78 : decode cX11_ribLine 78 = .ok (.iload_n 2, 1) := by decide +kernel
theorem dX11_ribLine_79 : decode cX11_ribLine 79 = .ok (.imul, 1) := by decide +kernel
theorem dX11_ribLine_80 : decode cX11_ribLine 80 = .ok (.iconst 3, 1) := by decide +kernel
theorem dX11_ribLine_81 : decode cX11_ribLine 81 = .ok (.iload_n 1, 1) := by decide +kernel
theorem dX11_ribLine_82 : decode cX11_ribLine 82 = .ok (.imul, 1) := by decide +kernel
theorem dX11_ribLine_83 : decode cX11_ribLine 83 = .ok (.iadd, 1) := by decide +kernel
theorem dX11_ribLine_84 : decode cX11_ribLine 84 = .ok (.iload_n 3, 1) := by decide +kernel
theorem dX11_ribLine_85 : decode cX11_ribLine 85 = .ok (.iadd, 1) := by decide +kernel
theorem dX11_ribLine_86 : decode cX11_ribLine 86 = .ok (.aload_n 0, 1) := by decide +kernel
theorem dX11_ribLine_87 : decode cX11_ribLine 87 = .ok (.getfield 17, 3) := by decide +kernel
theorem dX11_ribLine_90 : decode cX11_ribLine 90 = .ok (.iload_n 3, 1) := by decide +kernel
theorem dX11_ribLine_91 : decode cX11_ribLine 91 = .ok (.iaload, 1) := by decide +kernel
theorem dX11_ribLine_92 : decode cX11_ribLine 92 = .ok (.bipush 97, 2) := by decide +kernel
theorem dX11_ribLine_94 : decode cX11_ribLine 94 = .ok (.isub, 1) := by decide +kernel
theorem dX11_ribLine_95 : decode cX11_ribLine 95 = .ok (.iastore, 1) := by decide +kernel
theorem dX11_ribLine_96 : decode cX11_ribLine 96 = .ok (.iinc 3 1, 3) := by decide +kernel
theorem dX11_ribLine_99 : decode cX11_ribLine 99 = .ok (.goto (-35), 3) := by decide +kernel
theorem dX11_ribLine_102 : decode cX11_ribLine 102 = .ok (.aload_n 0, 1) := by decide +kernel
theorem dX11_ribLine_103 : decode cX11_ribLine 103 = .ok (.invokevirtual 130, 3) := by decide +kernel
theorem dX11_ribLine_106 : decode cX11_ribLine 106 = .ok (.iinc 2 1, 3) := by decide +kernel
theorem dX11_ribLine_109 : decode cX11_ribLine 109 = .ok (.goto (-100), 3) := by decide +kernel
theorem dX11_ribLine_112 : decode cX11_ribLine 112 = .ok (.aload_n 0, 1) := by decide +kernel
theorem dX11_ribLine_113 : decode cX11_ribLine 113 = .ok (.getfield 109, 3) := by decide +kernel
theorem dX11_ribLine_116 : decode cX11_ribLine 116 = .ok (.ifCond .eq 4, 3) := by decide +kernel
theorem dX11_ribLine_119 : decode cX11_ribLine 119 = .ok (.return_, 1) := by decide +kernel
theorem dX11_ribLine_120 : decode cX11_ribLine 120 = .ok (.aload_n 0, 1) := by decide +kernel
theorem dX11_ribLine_121 : decode cX11_ribLine 121 = .ok (.ldc 235, 2) := by decide +kernel
theorem dX11_ribLine_123 : decode cX11_ribLine 123 = .ok (.invokevirtual 133, 3) := by decide +kernel
theorem dX11_ribLine_126 : decode cX11_ribLine 126 = .ok (.ifCond .eq 16, 3) := by decide +kernel
theorem dX11_ribLine_129 : decode cX11_ribLine 129 = .ok (.aload_n 0, 1) := by decide +kernel
theorem dX11_ribLine_130 : decode cX11_ribLine 130 = .ok (.getfield 29, 3) := by decide +kernel
theorem dX11_ribLine_133 : decode cX11_ribLine 133 = .ok (.bipush 60, 2) := by decide +kernel
theorem dX11_ribLine_135 : decode cX11_ribLine 135 = .ok (.dup2, 1) := by decide +kernel
theorem dX11_ribLine_136 : decode cX11_ribLine 136 = .ok (.iaload, 1) := by decide +kernel
theorem dX11_ribLine_137 : decode cX11_ribLine 137 = .ok (.iconst 1, 1) := by decide +kernel
theorem dX11_ribLine_138 : decode cX11_ribLine 138 = .ok (.iload_n 1, 1) := by decide +kernel
theorem dX11_ribLine_139 : decode cX11_ribLine 139 = .ok (.ishl, 1) := by decide +kernel
theorem dX11_ribLine_140 : decode cX11_ribLine 140 = .ok (.ior, 1) := by decide +kernel
theorem dX11_ribLine_141 : decode cX11_ribLine 141 = .ok (.iastore, 1) := by decide +kernel
theorem dX11_ribLine_142 : decode cX11_ribLine 142 = .ok (.aload_n 0, 1) := by decide +kernel
theorem dX11_ribLine_143 : decode cX11_ribLine 143 = .ok (.getfield 23, 3) := by decide +kernel
theorem dX11_ribLine_146 : decode cX11_ribLine 146 = .ok (.iconst 4, 1) := by decide +kernel
theorem dX11_ribLine_147 : decode cX11_ribLine 147 = .ok (.dup2, 1) := by decide +kernel
theorem dX11_ribLine_148 : decode cX11_ribLine 148 = .ok (.iaload, 1) := by decide +kernel
theorem dX11_ribLine_149 : decode cX11_ribLine 149 = .ok (.iconst 1, 1) := by decide +kernel
theorem dX11_ribLine_150 : decode cX11_ribLine 150 = .ok (.iadd, 1) := by decide +kernel
theorem dX11_ribLine_151 : decode cX11_ribLine 151 = .ok (.iastore, 1) := by decide +kernel
theorem dX11_ribLine_152 : decode cX11_ribLine 152 = .ok (.return_, 1) := by decide +kernel
theorem dX11_keepWord_0 : decode cX11_keepWord 0 = .ok (.aload_n 0, 1) := by decide +kernel
theorem dX11_keepWord_1 : decode cX11_keepWord 1 = .ok (.invokevirtual 232, 3) := by decide +kernel
theorem dX11_keepWord_4 : decode cX11_keepWord 4 = .ok (.aload_n 0, 1) := by decide +kernel
theorem dX11_keepWord_5 : decode cX11_keepWord 5 = .ok (.getfield 109, 3) := by decide +kernel
theorem dX11_keepWord_8 : decode cX11_keepWord 8 = .ok (.ifCond .eq 5, 3) := by decide +kernel
theorem dX11_keepWord_11 : decode cX11_keepWord 11 = .ok (.iconst 0, 1) := by decide +kernel
theorem dX11_keepWord_12 : decode cX11_keepWord 12 = .ok (.ireturn, 1) := by decide +kernel
theorem dX11_keepWord_13 : decode cX11_keepWord 13 = .ok (.aload_n 0, 1) := by decide +kernel
theorem dX11_keepWord_14 : decode cX11_keepWord 14 = .ok (.getfield 93, 3) := by decide +kernel
theorem dX11_keepWord_17 : decode cX11_keepWord 17 = .ok (.istore_n 2, 1) := by decide +kernel
theorem dX11_keepWord_18 : decode cX11_keepWord 18 = .ok (.iconst 0, 1) := by decide +kernel
theorem dX11_keepWord_19 : decode cX11_keepWord 19 = .ok (.istore_n 3, 1) := by decide +kernel
theorem dX11_keepWord_20 : decode cX11_keepWord 20 = .ok (.iload_n 3, 1) := by decide +kernel
theorem dX11_keepWord_21 : decode cX11_keepWord 21 = .ok (.iload_n 2, 1) := by decide +kernel
theorem dX11_keepWord_22 : decode cX11_keepWord 22 = .ok (.if_icmp .ge 26, 3) := by decide +kernel
theorem dX11_keepWord_25 : decode cX11_keepWord 25 = .ok (.aload_n 0, 1) := by decide +kernel
theorem dX11_keepWord_26 : decode cX11_keepWord 26 = .ok (.getfield 23, 3) := by decide +kernel
theorem dX11_keepWord_29 : decode cX11_keepWord 29 = .ok (.iload_n 1, 1) := by decide +kernel
theorem dX11_keepWord_30 : decode cX11_keepWord 30 = .ok (.iload_n 3, 1) := by decide +kernel
theorem dX11_keepWord_31 : decode cX11_keepWord 31 = .ok (.iadd, 1) := by decide +kernel
theorem dX11_keepWord_32 : decode cX11_keepWord 32 = .ok (.aload_n 0, 1) := by decide +kernel
theorem dX11_keepWord_33 : decode cX11_keepWord 33 = .ok (.getfield 17, 3) := by decide +kernel
theorem dX11_keepWord_36 : decode cX11_keepWord 36 = .ok (.iload_n 3, 1) := by decide +kernel
theorem dX11_keepWord_37 : decode cX11_keepWord 37 = .ok (.iaload, 1) := by decide +kernel
theorem dX11_keepWord_38 : decode cX11_keepWord 38 = .ok (.bipush 97, 2) := by decide +kernel
theorem dX11_keepWord_40 : decode cX11_keepWord 40 = .ok (.isub, 1) := by decide +kernel
theorem dX11_keepWord_41 : decode cX11_keepWord 41 = .ok (.iastore, 1) := by decide +kernel
theorem dX11_keepWord_42 : decode cX11_keepWord 42 = .ok (.iinc 3 1, 3) := by decide +kernel
theorem dX11_keepWord_45 : decode cX11_keepWord 45 = .ok (.goto (-25), 3) := by decide +kernel
theorem dX11_keepWord_48 : decode cX11_keepWord 48 = .ok (.aload_n 0, 1) := by decide +kernel
theorem dX11_keepWord_49 : decode cX11_keepWord 49 = .ok (.invokevirtual 130, 3) := by decide +kernel
theorem dX11_keepWord_52 : decode cX11_keepWord 52 = .ok (.iload_n 2, 1) := by decide +kernel
theorem dX11_keepWord_53 : decode cX11_keepWord 53 = .ok (.ireturn, 1) := by decide +kernel
theorem dX11_wordLine_0 : decode cX11_wordLine 0 = .ok (.aload_n 0, 1) := by decide +kernel
theorem dX11_wordLine_1 : decode cX11_wordLine 1 = .ok (.getfield 109, 3) := by decide +kernel
theorem dX11_wordLine_4 : decode cX11_wordLine 4 = .ok (.ifCond .eq 4, 3) := by decide +kernel
theorem dX11_wordLine_7 : decode cX11_wordLine 7 = .ok (.return_, 1) := by decide +kernel
theorem dX11_wordLine_8 : decode cX11_wordLine 8 = .ok (.aload_n 0, 1) := by decide +kernel
theorem dX11_wordLine_9 : decode cX11_wordLine 9 = .ok (.getfield 23, 3) := by decide +kernel
theorem dX11_wordLine_12 : decode cX11_wordLine 12 = .ok (.iconst 5, 1) := by decide +kernel
theorem dX11_wordLine_13 : decode cX11_wordLine 13 = .ok (.iaload, 1) := by decide +kernel
theorem dX11_wordLine_14 : decode cX11_wordLine 14 = .ok (.istore_n 1, 1) := by decide +kernel
theorem dX11_wordLine_15 : decode cX11_wordLine 15 = .ok (.aload_n 0, 1) := by decide +kernel
theorem dX11_wordLine_16 : decode cX11_wordLine 16 = .ok (.invokevirtual 232, 3) := by decide +kernel
theorem dX11_wordLine_19 : decode cX11_wordLine 19 = .ok (.iconst 0, 1) := by decide +kernel
theorem dX11_wordLine_20 : decode cX11_wordLine 20 = .ok (.istore_n 2, 1) := by decide +kernel
theorem dX11_wordLine_21 : decode cX11_wordLine 21 = .ok (.iload_n 2, 1) := by decide +kernel
theorem dX11_wordLine_22 : decode cX11_wordLine 22 = .ok (.iload_n 1, 1) := by decide +kernel
theorem dX11_wordLine_23 : decode cX11_wordLine 23 = .ok (.if_icmp .ge 107, 3) := by decide +kernel
theorem dX11_wordLine_26 : decode cX11_wordLine 26 = .ok (.aload_n 0, 1) := by decide +kernel
theorem dX11_wordLine_27 : decode cX11_wordLine 27 = .ok (.getfield 109, 3) := by decide +kernel
theorem dX11_wordLine_30 : decode cX11_wordLine 30 = .ok (.ifCond .ne 100, 3) := by decide +kernel
theorem dX11_wordLine_33 : decode cX11_wordLine 33 = .ok (.aload_n 0, 1) := by decide +kernel
theorem dX11_wordLine_34 : decode cX11_wordLine 34 = .ok (.getfield 23, 3) := by decide +kernel
theorem dX11_wordLine_37 : decode cX11_wordLine 37 = .ok (.bipush 10, 2) := by decide +kernel
theorem dX11_wordLine_39 : decode cX11_wordLine 39 = .ok (.iload_n 2, 1) := by decide +kernel
theorem dX11_wordLine_40 : decode cX11_wordLine 40 = .ok (.iadd, 1) := by decide +kernel
theorem dX11_wordLine_41 : decode cX11_wordLine 41 = .ok (.iaload, 1) := by decide +kernel
theorem dX11_wordLine_42 : decode cX11_wordLine 42 = .ok (.aload_n 0, 1) := by decide +kernel
theorem dX11_wordLine_43 : decode cX11_wordLine 43 = .ok (.getfield 93, 3) := by decide +kernel
theorem dX11_wordLine_46 : decode cX11_wordLine 46 = .ok (.if_icmp .ne 7, 3) := by decide +kernel
theorem dX11_wordLine_49 : decode cX11_wordLine 49 = .ok (.iconst 1, 1) := by decide +kernel
theorem dX11_wordLine_50 : decode cX11_wordLine 50 = .ok (.goto 4, 3) := by decide +kernel
theorem dX11_wordLine_53 : decode cX11_wordLine 53 = .ok (.iconst 0, 1) := by decide +kernel
theorem dX11_wordLine_54 : decode cX11_wordLine 54 = .ok (.istore_n 3, 1) := by decide +kernel
theorem dX11_wordLine_55 : decode cX11_wordLine 55 = .ok (.iconst 0, 1) := by decide +kernel
theorem dX11_wordLine_56 : decode cX11_wordLine 56 = .ok (.istore 4, 2) := by decide +kernel
theorem dX11_wordLine_58 : decode cX11_wordLine 58 = .ok (.iload 4, 2) := by decide +kernel
theorem dX11_wordLine_60 : decode cX11_wordLine 60 = .ok (.aload_n 0, 1) := by decide +kernel
theorem dX11_wordLine_61 : decode cX11_wordLine 61 = .ok (.getfield 93, 3) := by decide +kernel
theorem dX11_wordLine_64 : decode cX11_wordLine 64 = .ok (.if_icmp .ge 47, 3) := by decide +kernel
theorem dX11_wordLine_67 : decode cX11_wordLine 67 = .ok (.iload_n 3, 1) := by decide +kernel
theorem dX11_wordLine_68 : decode cX11_wordLine 68 = .ok (.ifCond .eq 43, 3) := by decide +kernel
theorem dX11_wordLine_71 : decode cX11_wordLine 71 = .ok (.aload_n 0, 1) := by decide +kernel
theorem dX11_wordLine_72 : decode cX11_wordLine 72 = .ok (.getfield 23, 3) := by decide +kernel
theorem dX11_wordLine_75 : decode cX11_wordLine 75 = .ok (.bipush 16, 2) := by decide +kernel
theorem dX11_wordLine_77 : decode cX11_wordLine 77 = .ok (.bipush 8, 2) := by decide +kernel
theorem dX11_wordLine_79 : decode cX11_wordLine 79 = .ok (.iload_n 2, 1) := by decide +kernel
theorem dX11_wordLine_80 : decode cX11_wordLine 80 = .ok (.imul, 1) := by decide +kernel
theorem dX11_wordLine_81 : decode cX11_wordLine 81 = .ok (.iadd, 1) := by decide +kernel
theorem dX11_wordLine_82 : decode cX11_wordLine 82 = .ok (.iload 4, 2) := by decide +kernel
theorem dX11_wordLine_84 : decode cX11_wordLine 84 = .ok (.iadd, 1) := by decide +kernel
theorem dX11_wordLine_85 : decode cX11_wordLine 85 = .ok (.iaload, 1) := by decide +kernel
theorem dX11_wordLine_86 : decode cX11_wordLine 86 = .ok (.aload_n 0, 1) := by decide +kernel
theorem dX11_wordLine_87 : decode cX11_wordLine 87 = .ok (.getfield 17, 3) := by decide +kernel
theorem dX11_wordLine_90 : decode cX11_wordLine 90 = .ok (.iload 4, 2) := by decide +kernel
theorem dX11_wordLine_92 : decode cX11_wordLine 92 = .ok (.iaload, 1) := by decide +kernel
theorem dX11_wordLine_93 : decode cX11_wordLine 93 = .ok (.bipush 97, 2) := by decide +kernel
theorem dX11_wordLine_95 : decode cX11_wordLine 95 = .ok (.isub, 1) := by decide +kernel
theorem dX11_wordLine_96 : decode cX11_wordLine 96 = .ok (.if_icmp .ne 7, 3) := by decide +kernel
theorem dX11_wordLine_99 : decode cX11_wordLine 99 = .ok (.iconst 1, 1) := by decide +kernel
theorem dX11_wordLine_100 : decode cX11_wordLine 100 = .ok (.goto 4, 3) := by decide +kernel
theorem dX11_wordLine_103 : decode cX11_wordLine 103 = .ok (.iconst 0, 1) := by decide +kernel
theorem dX11_wordLine_104 : decode cX11_wordLine 104 = .ok (.istore_n 3, 1) := by decide +kernel
theorem dX11_wordLine_105 : decode cX11_wordLine 105 = .ok (.iinc 4 1, 3) := by decide +kernel
theorem dX11_wordLine_108 : decode cX11_wordLine 108 = .ok (.goto (-50), 3) := by decide +kernel
theorem dX11_wordLine_111 : decode cX11_wordLine 111 = .ok (.iload_n 3, 1) := by decide +kernel
theorem dX11_wordLine_112 : decode cX11_wordLine 112 = .ok (.ifCond .eq 12, 3) := by decide +kernel
theorem dX11_wordLine_115 : decode cX11_wordLine 115 = .ok (.aload_n 0, 1) := by decide +kernel
theorem dX11_wordLine_116 : decode cX11_wordLine 116 = .ok (.iconst 3, 1) := by decide +kernel
theorem dX11_wordLine_117 : decode cX11_wordLine 117 = .ok (.aload_n 0, 1) := by decide +kernel
theorem dX11_wordLine_118 : decode cX11_wordLine 118 = .ok (.getfield 90, 3) := by decide +kernel
theorem dX11_wordLine_121 : decode cX11_wordLine 121 = .ok (.invokevirtual 136, 3) := by decide +kernel
theorem dX11_wordLine_124 : decode cX11_wordLine 124 = .ok (.iinc 2 1, 3) := by decide +kernel
theorem dX11_wordLine_127 : decode cX11_wordLine 127 = .ok (.goto (-106), 3) := by decide +kernel
theorem dX11_wordLine_130 : decode cX11_wordLine 130 = .ok (.aload_n 0, 1) := by decide +kernel
theorem dX11_wordLine_131 : decode cX11_wordLine 131 = .ok (.getfield 109, 3) := by decide +kernel
theorem dX11_wordLine_134 : decode cX11_wordLine 134 = .ok (.ifCond .eq 4, 3) := by decide +kernel
theorem dX11_wordLine_137 : decode cX11_wordLine 137 = .ok (.return_, 1) := by decide +kernel
theorem dX11_wordLine_138 : decode cX11_wordLine 138 = .ok (.aload_n 0, 1) := by decide +kernel
theorem dX11_wordLine_139 : decode cX11_wordLine 139 = .ok (.getfield 23, 3) := by decide +kernel
theorem dX11_wordLine_142 : decode cX11_wordLine 142 = .ok (.bipush 10, 2) := by decide +kernel
theorem dX11_wordLine_144 : decode cX11_wordLine 144 = .ok (.iload_n 1, 1) := by decide +kernel
theorem dX11_wordLine_145 : decode cX11_wordLine 145 = .ok (.iadd, 1) := by decide +kernel
theorem dX11_wordLine_146 : decode cX11_wordLine 146 = .ok (.aload_n 0, 1) := by decide +kernel
theorem dX11_wordLine_147 : decode cX11_wordLine 147 = .ok (.bipush 16, 2) := by decide +kernel
theorem dX11_wordLine_149 : decode cX11_wordLine 149 = .ok (.bipush 8, 2) := by decide +kernel
theorem dX11_wordLine_151 : decode cX11_wordLine 151 = .ok (.iload_n 1, 1) := by decide +kernel
theorem dX11_wordLine_152 : decode cX11_wordLine 152 = .ok (.imul, 1) := by decide +kernel
theorem dX11_wordLine_153 : decode cX11_wordLine 153 = .ok (.iadd, 1) := by decide +kernel
theorem dX11_wordLine_154 : decode cX11_wordLine 154 = .ok (.invokevirtual 237, 3) := by decide +kernel
theorem dX11_wordLine_157 : decode cX11_wordLine 157 = .ok (.iastore, 1) := by decide +kernel
theorem dX11_wordLine_158 : decode cX11_wordLine 158 = .ok (.aload_n 0, 1) := by decide +kernel
theorem dX11_wordLine_159 : decode cX11_wordLine 159 = .ok (.getfield 23, 3) := by decide +kernel
theorem dX11_wordLine_162 : decode cX11_wordLine 162 = .ok (.iconst 5, 1) := by decide +kernel
theorem dX11_wordLine_163 : decode cX11_wordLine 163 = .ok (.dup2, 1) := by decide +kernel
theorem dX11_wordLine_164 : decode cX11_wordLine 164 = .ok (.iaload, 1) := by decide +kernel
theorem dX11_wordLine_165 : decode cX11_wordLine 165 = .ok (.iconst 1, 1) := by decide +kernel
theorem dX11_wordLine_166 : decode cX11_wordLine 166 = .ok (.iadd, 1) := by decide +kernel
theorem dX11_wordLine_167 : decode cX11_wordLine 167 = .ok (.iastore, 1) := by decide +kernel
theorem dX11_wordLine_168 : decode cX11_wordLine 168 = .ok (.return_, 1) := by decide +kernel
theorem dX11_wishLine_0 : decode cX11_wishLine 0 = .ok (.aload_n 0, 1) := by decide +kernel
theorem dX11_wishLine_1 : decode cX11_wishLine 1 = .ok (.getfield 109, 3) := by decide +kernel
theorem dX11_wishLine_4 : decode cX11_wishLine 4 = .ok (.ifCond .eq 4, 3) := by decide +kernel
theorem dX11_wishLine_7 : decode cX11_wishLine 7 = .ok (.return_, 1) := by decide +kernel
theorem dX11_wishLine_8 : decode cX11_wishLine 8 = .ok (.aload_n 0, 1) := by decide +kernel
theorem dX11_wishLine_9 : decode cX11_wishLine 9 = .ok (.getfield 23, 3) := by decide +kernel
theorem dX11_wishLine_12 : decode cX11_wishLine 12 = .ok (.bipush 6, 2) := by decide +kernel
theorem dX11_wishLine_14 : decode cX11_wishLine 14 = .ok (.iaload, 1) := by decide +kernel
theorem dX11_wishLine_15 : decode cX11_wishLine 15 = .ok (.istore_n 1, 1) := by decide +kernel
theorem dX11_wishLine_16 : decode cX11_wishLine 16 = .ok (.aload_n 0, 1) := by decide +kernel
theorem dX11_wishLine_17 : decode cX11_wishLine 17 = .ok (.getfield 23, 3) := by decide +kernel
theorem dX11_wishLine_20 : decode cX11_wishLine 20 = .ok (.bipush 64, 2) := by decide +kernel
theorem dX11_wishLine_22 : decode cX11_wishLine 22 = .ok (.iload_n 1, 1) := by decide +kernel
theorem dX11_wishLine_23 : decode cX11_wishLine 23 = .ok (.iadd, 1) := by decide +kernel
theorem dX11_wishLine_24 : decode cX11_wishLine 24 = .ok (.aload_n 0, 1) := by decide +kernel
theorem dX11_wishLine_25 : decode cX11_wishLine 25 = .ok (.bipush 68, 2) := by decide +kernel
theorem dX11_wishLine_27 : decode cX11_wishLine 27 = .ok (.bipush 8, 2) := by decide +kernel
theorem dX11_wishLine_29 : decode cX11_wishLine 29 = .ok (.iload_n 1, 1) := by decide +kernel
theorem dX11_wishLine_30 : decode cX11_wishLine 30 = .ok (.imul, 1) := by decide +kernel
theorem dX11_wishLine_31 : decode cX11_wishLine 31 = .ok (.iadd, 1) := by decide +kernel
theorem dX11_wishLine_32 : decode cX11_wishLine 32 = .ok (.invokevirtual 237, 3) := by decide +kernel
theorem dX11_wishLine_35 : decode cX11_wishLine 35 = .ok (.iastore, 1) := by decide +kernel
theorem dX11_wishLine_36 : decode cX11_wishLine 36 = .ok (.aload_n 0, 1) := by decide +kernel
theorem dX11_wishLine_37 : decode cX11_wishLine 37 = .ok (.getfield 23, 3) := by decide +kernel
theorem dX11_wishLine_40 : decode cX11_wishLine 40 = .ok (.bipush 100, 2) := by decide +kernel
theorem dX11_wishLine_42 : decode cX11_wishLine 42 = .ok (.iload_n 1, 1) := by decide +kernel
theorem dX11_wishLine_43 : decode cX11_wishLine 43 = .ok (.iadd, 1) := by decide +kernel
theorem dX11_wishLine_44 : decode cX11_wishLine 44 = .ok (.aload_n 0, 1) := by decide +kernel
theorem dX11_wishLine_45 : decode cX11_wishLine 45 = .ok (.invokevirtual 240, 3) := by decide +kernel
theorem dX11_wishLine_48 : decode cX11_wishLine 48 = .ok (.iastore, 1) := by decide +kernel
theorem dX11_wishLine_49 : decode cX11_wishLine 49 = .ok (.aload_n 0, 1) := by decide +kernel
theorem dX11_wishLine_50 : decode cX11_wishLine 50 = .ok (.getfield 23, 3) := by decide +kernel
theorem dX11_wishLine_53 : decode cX11_wishLine 53 = .ok (.bipush 104, 2) := by decide +kernel
theorem dX11_wishLine_55 : decode cX11_wishLine 55 = .ok (.iload_n 1, 1) := by decide +kernel
theorem dX11_wishLine_56 : decode cX11_wishLine 56 = .ok (.iadd, 1) := by decide +kernel
theorem dX11_wishLine_57 : decode cX11_wishLine 57 = .ok (.aload_n 0, 1) := by decide +kernel
theorem dX11_wishLine_58 : decode cX11_wishLine 58 = .ok (.iconst 0, 1) := by decide +kernel
theorem dX11_wishLine_59 : decode cX11_wishLine 59 = .ok (.aload_n 0, 1) := by decide +kernel
theorem dX11_wishLine_60 : decode cX11_wishLine 60 = .ok (.getfield 23, 3) := by decide +kernel
theorem dX11_wishLine_63 : decode cX11_wishLine 63 = .ok (.invokestatic 178, 3) := by decide +kernel
theorem dX11_wishLine_66 : decode cX11_wishLine 66 = .ok (.invokevirtual 148, 3) := by decide +kernel
theorem dX11_wishLine_69 : decode cX11_wishLine 69 = .ok (.iastore, 1) := by decide +kernel
theorem dX11_wishLine_70 : decode cX11_wishLine 70 = .ok (.aload_n 0, 1) := by decide +kernel
theorem dX11_wishLine_71 : decode cX11_wishLine 71 = .ok (.getfield 109, 3) := by decide +kernel
theorem dX11_wishLine_74 : decode cX11_wishLine 74 = .ok (.ifCond .ne 14, 3) := by decide +kernel
theorem dX11_wishLine_77 : decode cX11_wishLine 77 = .ok (.aload_n 0, 1) := by decide +kernel
theorem dX11_wishLine_78 : decode cX11_wishLine 78 = .ok (.getfield 23, 3) := by decide +kernel
theorem dX11_wishLine_81 : decode cX11_wishLine 81 = .ok (.bipush 6, 2) := by decide +kernel
theorem dX11_wishLine_83 : decode cX11_wishLine 83 = .ok (.dup2, 1) := by decide +kernel
theorem dX11_wishLine_84 : decode cX11_wishLine 84 = .ok (.iaload, 1) := by decide +kernel
theorem dX11_wishLine_85 : decode cX11_wishLine 85 = .ok (.iconst 1, 1) := by decide +kernel
theorem dX11_wishLine_86 : decode cX11_wishLine 86 = .ok (.iadd, 1) := by decide +kernel
theorem dX11_wishLine_87 : decode cX11_wishLine 87 = .ok (.iastore, 1) := by decide +kernel
theorem dX11_wishLine_88 : decode cX11_wishLine 88 = .ok (.return_, 1) := by decide +kernel
theorem dX11_seenLine_0 : decode cX11_seenLine 0 = .ok (.aload_n 0, 1) := by decide +kernel
theorem dX11_seenLine_1 : decode cX11_seenLine 1 = .ok (.getfield 109, 3) := by decide +kernel
theorem dX11_seenLine_4 : decode cX11_seenLine 4 = .ok (.ifCond .eq 4, 3) := by decide +kernel
theorem dX11_seenLine_7 : decode cX11_seenLine 7 = .ok (.return_, 1) := by decide +kernel
theorem dX11_seenLine_8 : decode cX11_seenLine 8 = .ok (.aload_n 0, 1) := by decide +kernel
theorem dX11_seenLine_9 : decode cX11_seenLine 9 = .ok (.getfield 23, 3) := by decide +kernel
theorem dX11_seenLine_12 : decode cX11_seenLine 12 = .ok (.bipush 7, 2) := by decide +kernel
theorem dX11_seenLine_14 : decode cX11_seenLine 14 = .ok (.iaload, 1) := by decide +kernel
theorem dX11_seenLine_15 : decode cX11_seenLine 15 = .ok (.istore_n 1, 1) := by decide +kernel
theorem dX11_seenLine_16 : decode cX11_seenLine 16 = .ok (.aload_n 0, 1) := by decide +kernel
theorem dX11_seenLine_17 : decode cX11_seenLine 17 = .ok (.getfield 23, 3) := by decide +kernel
theorem dX11_seenLine_20 : decode cX11_seenLine 20 = .ok (.bipush 108, 2) := by decide +kernel
theorem dX11_seenLine_22 : decode cX11_seenLine 22 = .ok (.iload_n 1, 1) := by decide +kernel
theorem dX11_seenLine_23 : decode cX11_seenLine 23 = .ok (.iadd, 1) := by decide +kernel
theorem dX11_seenLine_24 : decode cX11_seenLine 24 = .ok (.aload_n 0, 1) := by decide +kernel
theorem dX11_seenLine_25 : decode cX11_seenLine 25 = .ok (.invokevirtual 240, 3) := by decide +kernel
theorem dX11_seenLine_28 : decode cX11_seenLine 28 = .ok (.iastore, 1) := by decide +kernel
theorem dX11_seenLine_29 : decode cX11_seenLine 29 = .ok (.aload_n 0, 1) := by decide +kernel
theorem dX11_seenLine_30 : decode cX11_seenLine 30 = .ok (.getfield 23, 3) := by decide +kernel
theorem dX11_seenLine_33 : decode cX11_seenLine 33 = .ok (.bipush 114, 2) := by decide +kernel
theorem dX11_seenLine_35 : decode cX11_seenLine 35 = .ok (.iload_n 1, 1) := by decide +kernel
theorem dX11_seenLine_36 : decode cX11_seenLine 36 = .ok (.iadd, 1) := by decide +kernel
theorem dX11_seenLine_37 : decode cX11_seenLine 37 = .ok (.aload_n 0, 1) := by decide +kernel
theorem dX11_seenLine_38 : decode cX11_seenLine 38 = .ok (.iconst 0, 1) := by decide +kernel
theorem dX11_seenLine_39 : decode cX11_seenLine 39 = .ok (.aload_n 0, 1) := by decide +kernel
theorem dX11_seenLine_40 : decode cX11_seenLine 40 = .ok (.getfield 23, 3) := by decide +kernel
theorem dX11_seenLine_43 : decode cX11_seenLine 43 = .ok (.invokestatic 178, 3) := by decide +kernel
theorem dX11_seenLine_46 : decode cX11_seenLine 46 = .ok (.invokevirtual 148, 3) := by decide +kernel
theorem dX11_seenLine_49 : decode cX11_seenLine 49 = .ok (.iastore, 1) := by decide +kernel
theorem dX11_seenLine_50 : decode cX11_seenLine 50 = .ok (.aload_n 0, 1) := by decide +kernel
theorem dX11_seenLine_51 : decode cX11_seenLine 51 = .ok (.ldc 243, 2) := by decide +kernel
theorem dX11_seenLine_53 : decode cX11_seenLine 53 = .ok (.invokevirtual 144, 3) := by decide +kernel
theorem dX11_seenLine_56 : decode cX11_seenLine 56 = .ok (.aload_n 0, 1) := by decide +kernel
theorem dX11_seenLine_57 : decode cX11_seenLine 57 = .ok (.getfield 109, 3) := by decide +kernel
theorem dX11_seenLine_60 : decode cX11_seenLine 60 = .ok (.ifCond .eq 7, 3) := by decide +kernel
theorem dX11_seenLine_63 : decode cX11_seenLine 63 = .ok (.iconst 1, 1) := by decide +kernel
theorem dX11_seenLine_64 : decode cX11_seenLine 64 = .ok (.goto 30, 3) := by decide +kernel
theorem dX11_seenLine_67 : decode cX11_seenLine 67 = .ok (.aload_n 0, 1) := by decide +kernel
theorem dX11_seenLine_68 : decode cX11_seenLine 68 = .ok (.aload_n 0, 1) := by decide +kernel
theorem dX11_seenLine_69 : decode cX11_seenLine 69 = .ok (.getfield 23, 3) := by decide +kernel
theorem dX11_seenLine_72 : decode cX11_seenLine 72 = .ok (.aload_n 0, 1) := by decide +kernel
theorem dX11_seenLine_73 : decode cX11_seenLine 73 = .ok (.getfield 23, 3) := by decide +kernel
theorem dX11_seenLine_76 : decode cX11_seenLine 76 = .ok (.bipush 108, 2) := by decide +kernel
theorem dX11_seenLine_78 : decode cX11_seenLine 78 = .ok (.iload_n 1, 1) := by decide +kernel
theorem dX11_seenLine_79 : decode cX11_seenLine 79 = .ok (.iadd, 1) := by decide +kernel
theorem dX11_seenLine_80 : decode cX11_seenLine 80 = .ok (.iaload, 1) := by decide +kernel
theorem dX11_seenLine_81 : decode cX11_seenLine 81 = .ok (.aload_n 0, 1) := by decide +kernel
theorem dX11_seenLine_82 : decode cX11_seenLine 82 = .ok (.getfield 23, 3) := by decide +kernel
theorem dX11_seenLine_85 : decode cX11_seenLine 85 = .ok (.bipush 114, 2) := by decide +kernel
theorem dX11_seenLine_87 : decode cX11_seenLine 87 = .ok (.iload_n 1, 1) := by decide +kernel
theorem dX11_seenLine_88 : decode cX11_seenLine 88 = .ok (.iadd, 1) := by decide +kernel
theorem dX11_seenLine_89 : decode cX11_seenLine 89 = .ok (.iaload, 1) := by decide +kernel
theorem dX11_seenLine_90 : decode cX11_seenLine 90 = .ok (.iconst 0, 1) := by decide +kernel
theorem dX11_seenLine_91 : decode cX11_seenLine 91 = .ok (.invokevirtual 245, 3) := by decide +kernel
theorem dX11_seenLine_94 : decode cX11_seenLine 94 = .ok (.istore_n 2, 1) := by decide +kernel
theorem dX11_seenLine_95 : decode cX11_seenLine 95 = .ok (.aload_n 0, 1) := by decide +kernel
theorem dX11_seenLine_96 : decode cX11_seenLine 96 = .ok (.getfield 23, 3) := by decide +kernel
theorem dX11_seenLine_99 : decode cX11_seenLine 99 = .ok (.bipush 120, 2) := by decide +kernel
theorem dX11_seenLine_101 : decode cX11_seenLine 101 = .ok (.iload_n 1, 1) := by decide +kernel
theorem dX11_seenLine_102 : decode cX11_seenLine 102 = .ok (.iadd, 1) := by decide +kernel
theorem dX11_seenLine_103 : decode cX11_seenLine 103 = .ok (.aload_n 0, 1) := by decide +kernel
theorem dX11_seenLine_104 : decode cX11_seenLine 104 = .ok (.iconst 0, 1) := by decide +kernel
theorem dX11_seenLine_105 : decode cX11_seenLine 105 = .ok (.iload_n 2, 1) := by decide +kernel
theorem dX11_seenLine_106 : decode cX11_seenLine 106 = .ok (.iconst 1, 1) := by decide +kernel
theorem dX11_seenLine_107 : decode cX11_seenLine 107 = .ok (.isub, 1) := by decide +kernel
theorem dX11_seenLine_108 : decode cX11_seenLine 108 = .ok (.invokevirtual 148, 3) := by decide +kernel
theorem dX11_seenLine_111 : decode cX11_seenLine 111 = .ok (.iastore, 1) := by decide +kernel
theorem dX11_seenLine_112 : decode cX11_seenLine 112 = .ok (.aload_n 0, 1) := by decide +kernel
theorem dX11_seenLine_113 : decode cX11_seenLine 113 = .ok (.invokevirtual 232, 3) := by decide +kernel
theorem dX11_seenLine_116 : decode cX11_seenLine 116 = .ok (.aload_n 0, 1) := by decide +kernel
theorem dX11_seenLine_117 : decode cX11_seenLine 117 = .ok (.getfield 109, 3) := by decide +kernel
theorem dX11_seenLine_120 : decode cX11_seenLine 120 = .ok (.ifCond .ne 31, 3) := by decide +kernel
theorem dX11_seenLine_123 : decode cX11_seenLine 123 = .ok (.aload_n 0, 1) := by decide +kernel
theorem dX11_seenLine_124 : decode cX11_seenLine 124 = .ok (.getfield 23, 3) := by decide +kernel
theorem dX11_seenLine_127 : decode cX11_seenLine 127 = .ok (.bipush 120, 2) := by decide +kernel
theorem dX11_seenLine_129 : decode cX11_seenLine 129 = .ok (.iload_n 1, 1) := by decide +kernel
theorem dX11_seenLine_130 : decode cX11_seenLine 130 = .ok (.iadd, 1) := by decide +kernel
theorem dX11_seenLine_131 : decode cX11_seenLine 131 = .ok (.iaload, 1) := by decide +kernel
theorem dX11_seenLine_132 : decode cX11_seenLine 132 = .ok (.aload_n 0, 1) := by decide +kernel
theorem dX11_seenLine_133 : decode cX11_seenLine 133 = .ok (.getfield 93, 3) := by decide +kernel
theorem dX11_seenLine_136 : decode cX11_seenLine 136 = .ok (.iadd, 1) := by decide +kernel
theorem dX11_seenLine_137 : decode cX11_seenLine 137 = .ok (.iload_n 2, 1) := by decide +kernel
theorem dX11_seenLine_138 : decode cX11_seenLine 138 = .ok (.if_icmp .le 13, 3) := by decide +kernel
theorem dX11_seenLine_141 : decode cX11_seenLine 141 = .ok (.aload_n 0, 1) := by decide +kernel
theorem dX11_seenLine_142 : decode cX11_seenLine 142 = .ok (.bipush 7, 2) := by decide +kernel
theorem dX11_seenLine_144 : decode cX11_seenLine 144 = .ok (.aload_n 0, 1) := by decide +kernel
theorem dX11_seenLine_145 : decode cX11_seenLine 145 = .ok (.getfield 90, 3) := by decide +kernel
theorem dX11_seenLine_148 : decode cX11_seenLine 148 = .ok (.invokevirtual 136, 3) := by decide +kernel
theorem dX11_seenLine_151 : decode cX11_seenLine 151 = .ok (.aload_n 0, 1) := by decide +kernel
theorem dX11_seenLine_152 : decode cX11_seenLine 152 = .ok (.getfield 23, 3) := by decide +kernel
theorem dX11_seenLine_155 : decode cX11_seenLine 155 = .ok (.bipush 126, 2) := by decide +kernel
theorem dX11_seenLine_157 : decode cX11_seenLine 157 = .ok (.iload_n 1, 1) := by decide +kernel
theorem dX11_seenLine_158 : decode cX11_seenLine 158 = .ok (.iadd, 1) := by decide +kernel
theorem dX11_seenLine_159 : decode cX11_seenLine 159 = .ok (.aload_n 0, 1) := by decide +kernel
theorem dX11_seenLine_160 : decode cX11_seenLine 160 = .ok (.sipush 132, 3) := by decide +kernel
theorem dX11_seenLine_163 : decode cX11_seenLine 163 = .ok (.bipush 8, 2) := by decide +kernel
theorem dX11_seenLine_165 : decode cX11_seenLine 165 = .ok (.iload_n 1, 1) := by decide +kernel
theorem dX11_seenLine_166 : decode cX11_seenLine 166 = .ok (.imul, 1) := by decide +kernel
theorem dX11_seenLine_167 : decode cX11_seenLine 167 = .ok (.iadd, 1) := by decide +kernel
theorem dX11_seenLine_168 : decode cX11_seenLine 168 = .ok (.invokevirtual 237, 3) := by decide +kernel
theorem dX11_seenLine_171 : decode cX11_seenLine 171 = .ok (.iastore, 1) := by decide +kernel
theorem dX11_seenLine_172 : decode cX11_seenLine 172 = .ok (.aload_n 0, 1) := by decide +kernel
theorem dX11_seenLine_173 : decode cX11_seenLine 173 = .ok (.getfield 109, 3) := by decide +kernel
theorem dX11_seenLine_176 : decode cX11_seenLine 176 = .ok (.ifCond .ne 14, 3) := by decide +kernel
theorem dX11_seenLine_179 : decode cX11_seenLine 179 = .ok (.aload_n 0, 1) := by decide +kernel
theorem dX11_seenLine_180 : decode cX11_seenLine 180 = .ok (.getfield 23, 3) := by decide +kernel
theorem dX11_seenLine_183 : decode cX11_seenLine 183 = .ok (.bipush 7, 2) := by decide +kernel
theorem dX11_seenLine_185 : decode cX11_seenLine 185 = .ok (.dup2, 1) := by decide +kernel
theorem dX11_seenLine_186 : decode cX11_seenLine 186 = .ok (.iaload, 1) := by decide +kernel
theorem dX11_seenLine_187 : decode cX11_seenLine 187 = .ok (.iconst 1, 1) := by decide +kernel
theorem dX11_seenLine_188 : decode cX11_seenLine 188 = .ok (.iadd, 1) := by decide +kernel
theorem dX11_seenLine_189 : decode cX11_seenLine 189 = .ok (.iastore, 1) := by decide +kernel
theorem dX11_seenLine_190 : decode cX11_seenLine 190 = .ok (.return_, 1) := by decide +kernel
theorem dX11_beatLine_0 : decode cX11_beatLine 0 = .ok (.aload_n 0, 1) := by decide +kernel
theorem dX11_beatLine_1 : decode cX11_beatLine 1 = .ok (.getfield 109, 3) := by decide +kernel
theorem dX11_beatLine_4 : decode cX11_beatLine 4 = .ok (.ifCond .eq 4, 3) := by decide +kernel
theorem dX11_beatLine_7 : decode cX11_beatLine 7 = .ok (.return_, 1) := by decide +kernel
theorem dX11_beatLine_8 : decode cX11_beatLine 8 = .ok (.aload_n 0, 1) := by decide +kernel
theorem dX11_beatLine_9 : decode cX11_beatLine 9 = .ok (.getfield 23, 3) := by decide +kernel
theorem dX11_beatLine_12 : decode cX11_beatLine 12 = .ok (.bipush 9, 2) := by decide +kernel
theorem dX11_beatLine_14 : decode cX11_beatLine 14 = .ok (.iconst 1, 1) := by decide +kernel
theorem dX11_beatLine_15 : decode cX11_beatLine 15 = .ok (.iastore, 1) := by decide +kernel
theorem dX11_beatLine_16 : decode cX11_beatLine 16 = .ok (.iconst 1, 1) := by decide +kernel
theorem dX11_beatLine_17 : decode cX11_beatLine 17 = .ok (.istore_n 1, 1) := by decide +kernel
theorem dX11_beatLine_18 : decode cX11_beatLine 18 = .ok (.iload_n 1, 1) := by decide +kernel
theorem dX11_beatLine_19 : decode cX11_beatLine 19 = .ok (.ifCond .eq 137, 3) := by decide +kernel
theorem dX11_beatLine_22 : decode cX11_beatLine 22 = .ok (.aload_n 0, 1) := by decide +kernel
theorem dX11_beatLine_23 : decode cX11_beatLine 23 = .ok (.iconst 0, 1) := by decide +kernel
theorem dX11_beatLine_24 : decode cX11_beatLine 24 = .ok (.aload_n 0, 1) := by decide +kernel
theorem dX11_beatLine_25 : decode cX11_beatLine 25 = .ok (.getfield 23, 3) := by decide +kernel
theorem dX11_beatLine_28 : decode cX11_beatLine 28 = .ok (.invokestatic 178, 3) := by decide +kernel
theorem dX11_beatLine_31 : decode cX11_beatLine 31 = .ok (.invokevirtual 148, 3) := by decide +kernel
theorem dX11_beatLine_34 : decode cX11_beatLine 34 = .ok (.istore_n 2, 1) := by decide +kernel
theorem dX11_beatLine_35 : decode cX11_beatLine 35 = .ok (.aload_n 0, 1) := by decide +kernel
theorem dX11_beatLine_36 : decode cX11_beatLine 36 = .ok (.getfield 109, 3) := by decide +kernel
theorem dX11_beatLine_39 : decode cX11_beatLine 39 = .ok (.ifCond .eq 4, 3) := by decide +kernel
theorem dX11_beatLine_42 : decode cX11_beatLine 42 = .ok (.return_, 1) := by decide +kernel
theorem dX11_beatLine_43 : decode cX11_beatLine 43 = .ok (.aload_n 0, 1) := by decide +kernel
theorem dX11_beatLine_44 : decode cX11_beatLine 44 = .ok (.getfield 23, 3) := by decide +kernel
theorem dX11_beatLine_47 : decode cX11_beatLine 47 = .ok (.sipush 180, 3) := by decide +kernel
theorem dX11_beatLine_50 : decode cX11_beatLine 50 = .ok (.aload_n 0, 1) := by decide +kernel
theorem dX11_beatLine_51 : decode cX11_beatLine 51 = .ok (.getfield 23, 3) := by decide +kernel
theorem dX11_beatLine_54 : decode cX11_beatLine 54 = .ok (.bipush 8, 2) := by decide +kernel
theorem dX11_beatLine_56 : decode cX11_beatLine 56 = .ok (.iaload, 1) := by decide +kernel
theorem dX11_beatLine_57 : decode cX11_beatLine 57 = .ok (.iadd, 1) := by decide +kernel
theorem dX11_beatLine_58 : decode cX11_beatLine 58 = .ok (.iload_n 2, 1) := by decide +kernel
theorem dX11_beatLine_59 : decode cX11_beatLine 59 = .ok (.iastore, 1) := by decide +kernel
theorem dX11_beatLine_60 : decode cX11_beatLine 60 = .ok (.aload_n 0, 1) := by decide +kernel
theorem dX11_beatLine_61 : decode cX11_beatLine 61 = .ok (.getfield 23, 3) := by decide +kernel
theorem dX11_beatLine_64 : decode cX11_beatLine 64 = .ok (.bipush 8, 2) := by decide +kernel
theorem dX11_beatLine_66 : decode cX11_beatLine 66 = .ok (.dup2, 1) := by decide +kernel
theorem dX11_beatLine_67 : decode cX11_beatLine 67 = .ok (.iaload, 1) := by decide +kernel
theorem dX11_beatLine_68 : decode cX11_beatLine 68 = .ok (.iconst 1, 1) := by decide +kernel
theorem dX11_beatLine_69 : decode cX11_beatLine 69 = .ok (.iadd, 1) := by decide +kernel
theorem dX11_beatLine_70 : decode cX11_beatLine 70 = .ok (.iastore, 1) := by decide +kernel
theorem dX11_beatLine_71 : decode cX11_beatLine 71 = .ok (.aload_n 0, 1) := by decide +kernel
theorem dX11_beatLine_72 : decode cX11_beatLine 72 = .ok (.invokevirtual 249, 3) := by decide +kernel
theorem dX11_beatLine_75 : decode cX11_beatLine 75 = .ok (.istore_n 1, 1) := by decide +kernel
theorem dX11_beatLine_76 : decode cX11_beatLine 76 = .ok (.iload_n 1, 1) := by decide +kernel
theorem dX11_beatLine_77 : decode cX11_beatLine 77 = .ok (.ifCond .eq 76, 3) := by decide +kernel
theorem dX11_beatLine_80 : decode cX11_beatLine 80 = .ok (.aload_n 0, 1) := by decide +kernel
theorem dX11_beatLine_81 : decode cX11_beatLine 81 = .ok (.getfield 23, 3) := by decide +kernel
theorem dX11_beatLine_84 : decode cX11_beatLine 84 = .ok (.bipush 8, 2) := by decide +kernel
theorem dX11_beatLine_86 : decode cX11_beatLine 86 = .ok (.iaload, 1) := by decide +kernel
theorem dX11_beatLine_87 : decode cX11_beatLine 87 = .ok (.bipush 6, 2) := by decide +kernel
theorem dX11_beatLine_89 : decode cX11_beatLine 89 = .ok (.if_icmp .ne 64, 3) := by decide +kernel
theorem dX11_beatLine_92 : decode cX11_beatLine 92 = .ok (.aload_n 0, 1) := by decide +kernel
theorem dX11_beatLine_93 : decode cX11_beatLine 93 = .ok (.getfield 99, 3) := by decide +kernel
theorem dX11_beatLine_96 : decode cX11_beatLine 96 = .ok (.iconst 3, 1) := by decide +kernel
theorem dX11_beatLine_97 : decode cX11_beatLine 97 = .ok (.if_icmp .eq 12, 3) := by decide +kernel
theorem dX11_beatLine_100 : decode cX11_beatLine 100 = .ok (.aload_n 0, 1) := by decide +kernel
theorem dX11_beatLine_101 : decode cX11_beatLine 101 = .ok (.iconst 1, 1) := by decide +kernel
theorem dX11_beatLine_102 : decode cX11_beatLine 102 = .ok (.aload_n 0, 1) := by decide +kernel
theorem dX11_beatLine_103 : decode cX11_beatLine 103 = .ok (.getfield 90, 3) := by decide +kernel
theorem dX11_beatLine_106 : decode cX11_beatLine 106 = .ok (.invokevirtual 136, 3) := by decide +kernel
theorem dX11_beatLine_109 : decode cX11_beatLine 109 = .ok (.aload_n 0, 1) := by decide +kernel
theorem dX11_beatLine_110 : decode cX11_beatLine 110 = .ok (.getfield 109, 3) := by decide +kernel
theorem dX11_beatLine_113 : decode cX11_beatLine 113 = .ok (.ifCond .ne 30, 3) := by decide +kernel
theorem dX11_beatLine_116 : decode cX11_beatLine 116 = .ok (.aload_n 0, 1) := by decide +kernel
theorem dX11_beatLine_117 : decode cX11_beatLine 117 = .ok (.getfield 96, 3) := by decide +kernel
theorem dX11_beatLine_120 : decode cX11_beatLine 120 = .ok (.iconst 0, 1) := by decide +kernel
theorem dX11_beatLine_121 : decode cX11_beatLine 121 = .ok (.aload_n 0, 1) := by decide +kernel
theorem dX11_beatLine_122 : decode cX11_beatLine 122 = .ok (.getfield 23, 3) := by decide +kernel
theorem dX11_beatLine_125 : decode cX11_beatLine 125 = .ok (.invokestatic 178, 3) := by decide +kernel
theorem dX11_beatLine_128 : decode cX11_beatLine 128 = .ok (.invokestatic 140, 3) := by decide +kernel
theorem dX11_beatLine_131 : decode cX11_beatLine 131 = .ok (.ifCond .ne 12, 3) := by decide +kernel
theorem dX11_beatLine_134 : decode cX11_beatLine 134 = .ok (.aload_n 0, 1) := by decide +kernel
theorem dX11_beatLine_135 : decode cX11_beatLine 135 = .ok (.iconst 4, 1) := by decide +kernel
theorem dX11_beatLine_136 : decode cX11_beatLine 136 = .ok (.aload_n 0, 1) := by decide +kernel
theorem dX11_beatLine_137 : decode cX11_beatLine 137 = .ok (.getfield 90, 3) := by decide +kernel
theorem dX11_beatLine_140 : decode cX11_beatLine 140 = .ok (.invokevirtual 136, 3) := by decide +kernel
theorem dX11_beatLine_143 : decode cX11_beatLine 143 = .ok (.aload_n 0, 1) := by decide +kernel
theorem dX11_beatLine_144 : decode cX11_beatLine 144 = .ok (.iconst 5, 1) := by decide +kernel
theorem dX11_beatLine_145 : decode cX11_beatLine 145 = .ok (.aload_n 0, 1) := by decide +kernel
theorem dX11_beatLine_146 : decode cX11_beatLine 146 = .ok (.getfield 90, 3) := by decide +kernel
theorem dX11_beatLine_149 : decode cX11_beatLine 149 = .ok (.invokevirtual 136, 3) := by decide +kernel
theorem dX11_beatLine_152 : decode cX11_beatLine 152 = .ok (.return_, 1) := by decide +kernel
theorem dX11_beatLine_153 : decode cX11_beatLine 153 = .ok (.goto (-135), 3) := by decide +kernel
theorem dX11_beatLine_156 : decode cX11_beatLine 156 = .ok (.return_, 1) := by decide +kernel
theorem dX11_fault_0 : decode cX11_fault 0 = .ok (.aload_n 0, 1) := by decide +kernel
theorem dX11_fault_1 : decode cX11_fault 1 = .ok (.iconst 0, 1) := by decide +kernel
theorem dX11_fault_2 : decode cX11_fault 2 = .ok (.putfield 71, 3) := by decide +kernel
theorem dX11_fault_5 : decode cX11_fault 5 = .ok (.aload_n 0, 1) := by decide +kernel
theorem dX11_fault_6 : decode cX11_fault 6 = .ok (.getfield 113, 3) := by decide +kernel
theorem dX11_fault_9 : decode cX11_fault 9 = .ok (.ireturn, 1) := by decide +kernel
theorem dX11_where_0 : decode cX11_where 0 = .ok (.aload_n 0, 1) := by decide +kernel
theorem dX11_where_1 : decode cX11_where 1 = .ok (.iconst 0, 1) := by decide +kernel
theorem dX11_where_2 : decode cX11_where 2 = .ok (.putfield 71, 3) := by decide +kernel
theorem dX11_where_5 : decode cX11_where 5 = .ok (.aload_n 0, 1) := by decide +kernel
theorem dX11_where_6 : decode cX11_where 6 = .ok (.getfield 74, 3) := by decide +kernel
theorem dX11_where_9 : decode cX11_where 9 = .ok (.iconst 4, 1) := by decide +kernel
theorem dX11_where_10 : decode cX11_where 10 = .ok (.if_icmp .ne 10, 3) := by decide +kernel
theorem dX11_where_13 : decode cX11_where 13 = .ok (.aload_n 0, 1) := by decide +kernel
theorem dX11_where_14 : decode cX11_where 14 = .ok (.getfield 13, 3) := by decide +kernel
theorem dX11_where_17 : decode cX11_where 17 = .ok (.goto 4, 3) := by decide +kernel
theorem dX11_where_20 : decode cX11_where 20 = .ok (.iconst (-1), 1) := by decide +kernel
theorem dX11_where_21 : decode cX11_where 21 = .ok (.ireturn, 1) := by decide +kernel
theorem dX11_isSide_0 : decode cX11_isSide 0 = .ok (.aload_n 0, 1) := by decide +kernel
theorem dX11_isSide_1 : decode cX11_isSide 1 = .ok (.getfield 169, 3) := by decide +kernel
theorem dX11_isSide_4 : decode cX11_isSide 4 = .ok (.ifCond .eq 16, 3) := by decide +kernel
theorem dX11_isSide_7 : decode cX11_isSide 7 = .ok (.iload_n 1, 1) := by decide +kernel
theorem dX11_isSide_8 : decode cX11_isSide 8 = .ok (.iconst 0, 1) := by decide +kernel
theorem dX11_isSide_9 : decode cX11_isSide 9 = .ok (.iconst 1, 1) := by decide +kernel
theorem dX11_isSide_10 : decode cX11_isSide 10 = .ok (.invokestatic 140, 3) := by decide +kernel
theorem dX11_isSide_13 : decode cX11_isSide 13 = .ok (.ifCond .eq 7, 3) := by decide +kernel
theorem dX11_isSide_16 : decode cX11_isSide 16 = .ok (.iconst 1, 1) := by decide +kernel
theorem dX11_isSide_17 : decode cX11_isSide 17 = .ok (.goto 4, 3) := by decide +kernel
theorem dX11_isSide_20 : decode cX11_isSide 20 = .ok (.iconst 0, 1) := by decide +kernel
theorem dX11_isSide_21 : decode cX11_isSide 21 = .ok (.ireturn, 1) := by decide +kernel
theorem dX11_isRib_0 : decode cX11_isRib 0 = .ok (.aload_n 0, 1) := by decide +kernel
theorem dX11_isRib_1 : decode cX11_isRib 1 = .ok (.getfield 169, 3) := by decide +kernel
theorem dX11_isRib_4 : decode cX11_isRib 4 = .ok (.ifCond .eq 23, 3) := by decide +kernel
theorem dX11_isRib_7 : decode cX11_isRib 7 = .ok (.iload_n 1, 1) := by decide +kernel
theorem dX11_isRib_8 : decode cX11_isRib 8 = .ok (.iconst 0, 1) := by decide +kernel
theorem dX11_isRib_9 : decode cX11_isRib 9 = .ok (.aload_n 0, 1) := by decide +kernel
theorem dX11_isRib_10 : decode cX11_isRib 10 = .ok (.getfield 20, 3) := by decide +kernel
theorem dX11_isRib_13 : decode cX11_isRib 13 = .ok (.iconst 0, 1) := by decide +kernel
theorem dX11_isRib_14 : decode cX11_isRib 14 = .ok (.iaload, 1) := by decide +kernel
theorem dX11_isRib_15 : decode cX11_isRib 15 = .ok (.iconst 1, 1) := by decide +kernel
theorem dX11_isRib_16 : decode cX11_isRib 16 = .ok (.isub, 1) := by decide +kernel
theorem dX11_isRib_17 : decode cX11_isRib 17 = .ok (.invokestatic 140, 3) := by decide +kernel
theorem dX11_isRib_20 : decode cX11_isRib 20 = .ok (.ifCond .eq 7, 3) := by decide +kernel
theorem dX11_isRib_23 : decode cX11_isRib 23 = .ok (.iconst 1, 1) := by decide +kernel
theorem dX11_isRib_24 : decode cX11_isRib 24 = .ok (.goto 4, 3) := by decide +kernel
theorem dX11_isRib_27 : decode cX11_isRib 27 = .ok (.iconst 0, 1) := by decide +kernel
theorem dX11_isRib_28 : decode cX11_isRib 28 = .ok (.ireturn, 1) := by decide +kernel
theorem dX11_isCell_0 : decode cX11_isCell 0 = .ok (.aload_n 0, 1) := by decide +kernel
theorem dX11_isCell_1 : decode cX11_isCell 1 = .ok (.iload_n 1, 1) := by decide +kernel
theorem dX11_isCell_2 : decode cX11_isCell 2 = .ok (.invokevirtual 253, 3) := by decide +kernel
theorem dX11_isCell_5 : decode cX11_isCell 5 = .ok (.ifCond .eq 31, 3) := by decide +kernel
theorem dX11_isCell_8 : decode cX11_isCell 8 = .ok (.aload_n 0, 1) := by decide +kernel
theorem dX11_isCell_9 : decode cX11_isCell 9 = .ok (.iload_n 2, 1) := by decide +kernel
theorem dX11_isCell_10 : decode cX11_isCell 10 = .ok (.invokevirtual 256, 3) := by decide +kernel
theorem dX11_isCell_13 : decode cX11_isCell 13 = .ok (.ifCond .eq 23, 3) := by decide +kernel
theorem dX11_isCell_16 : decode cX11_isCell 16 = .ok (.iload_n 3, 1) := by decide +kernel
theorem dX11_isCell_17 : decode cX11_isCell 17 = .ok (.iconst 0, 1) := by decide +kernel
theorem dX11_isCell_18 : decode cX11_isCell 18 = .ok (.aload_n 0, 1) := by decide +kernel
theorem dX11_isCell_19 : decode cX11_isCell 19 = .ok (.getfield 20, 3) := by decide +kernel
theorem dX11_isCell_22 : decode cX11_isCell 22 = .ok (.iconst 1, 1) := by decide +kernel
theorem dX11_isCell_23 : decode cX11_isCell 23 = .ok (.iaload, 1) := by decide +kernel
theorem dX11_isCell_24 : decode cX11_isCell 24 = .ok (.iconst 1, 1) := by decide +kernel
theorem dX11_isCell_25 : decode cX11_isCell 25 = .ok (.isub, 1) := by decide +kernel
theorem dX11_isCell_26 : decode cX11_isCell 26 = .ok (.invokestatic 140, 3) := by decide +kernel
theorem dX11_isCell_29 : decode cX11_isCell 29 = .ok (.ifCond .eq 7, 3) := by decide +kernel
theorem dX11_isCell_32 : decode cX11_isCell 32 = .ok (.iconst 1, 1) := by decide +kernel
theorem dX11_isCell_33 : decode cX11_isCell 33 = .ok (.goto 4, 3) := by decide +kernel
theorem dX11_isCell_36 : decode cX11_isCell 36 = .ok (.iconst 0, 1) := by decide +kernel
theorem dX11_isCell_37 : decode cX11_isCell 37 = .ok (.ireturn, 1) := by decide +kernel
theorem dX11_isOpening_0 : decode cX11_isOpening 0 = .ok (.iload_n 1, 1) := by decide +kernel
theorem dX11_isOpening_1 : decode cX11_isOpening 1 = .ok (.iconst 0, 1) := by decide +kernel
theorem dX11_isOpening_2 : decode cX11_isOpening 2 = .ok (.aload_n 0, 1) := by decide +kernel
theorem dX11_isOpening_3 : decode cX11_isOpening 3 = .ok (.getfield 20, 3) := by decide +kernel
theorem dX11_isOpening_6 : decode cX11_isOpening 6 = .ok (.invokestatic 178, 3) := by decide +kernel
theorem dX11_isOpening_9 : decode cX11_isOpening 9 = .ok (.invokestatic 140, 3) := by decide +kernel
theorem dX11_isOpening_12 : decode cX11_isOpening 12 = .ok (.ireturn, 1) := by decide +kernel
theorem dX11_isWordThere_0 : decode cX11_isWordThere 0 = .ok (.aload_n 0, 1) := by decide +kernel
theorem dX11_isWordThere_1 : decode cX11_isWordThere 1 = .ok (.getfield 169, 3) := by decide +kernel
theorem dX11_isWordThere_4 : decode cX11_isWordThere 4 = .ok (.ifCond .eq 23, 3) := by decide +kernel
theorem dX11_isWordThere_7 : decode cX11_isWordThere 7 = .ok (.iload_n 1, 1) := by decide +kernel
theorem dX11_isWordThere_8 : decode cX11_isWordThere 8 = .ok (.iconst 0, 1) := by decide +kernel
theorem dX11_isWordThere_9 : decode cX11_isWordThere 9 = .ok (.aload_n 0, 1) := by decide +kernel
theorem dX11_isWordThere_10 : decode cX11_isWordThere 10 = .ok (.getfield 20, 3) := by decide +kernel
theorem dX11_isWordThere_13 : decode cX11_isWordThere 13 = .ok (.iconst 5, 1) := by decide +kernel
theorem dX11_isWordThere_14 : decode cX11_isWordThere 14 = .ok (.iaload, 1) := by decide +kernel
theorem dX11_isWordThere_15 : decode cX11_isWordThere 15 = .ok (.iconst 1, 1) := by decide +kernel
theorem dX11_isWordThere_16 : decode cX11_isWordThere 16 = .ok (.isub, 1) := by decide +kernel
theorem dX11_isWordThere_17 : decode cX11_isWordThere 17 = .ok (.invokestatic 140, 3) := by decide +kernel
theorem dX11_isWordThere_20 : decode cX11_isWordThere 20 = .ok (.ifCond .eq 7, 3) := by decide +kernel
theorem dX11_isWordThere_23 : decode cX11_isWordThere 23 = .ok (.iconst 1, 1) := by decide +kernel
theorem dX11_isWordThere_24 : decode cX11_isWordThere 24 = .ok (.goto 4, 3) := by decide +kernel
theorem dX11_isWordThere_27 : decode cX11_isWordThere 27 = .ok (.iconst 0, 1) := by decide +kernel
theorem dX11_isWordThere_28 : decode cX11_isWordThere 28 = .ok (.ireturn, 1) := by decide +kernel
theorem dX11_isWish_0 : decode cX11_isWish 0 = .ok (.aload_n 0, 1) := by decide +kernel
theorem dX11_isWish_1 : decode cX11_isWish 1 = .ok (.getfield 169, 3) := by decide +kernel
theorem dX11_isWish_4 : decode cX11_isWish 4 = .ok (.ifCond .eq 24, 3) := by decide +kernel
theorem dX11_isWish_7 : decode cX11_isWish 7 = .ok (.iload_n 1, 1) := by decide +kernel
theorem dX11_isWish_8 : decode cX11_isWish 8 = .ok (.iconst 0, 1) := by decide +kernel
theorem dX11_isWish_9 : decode cX11_isWish 9 = .ok (.aload_n 0, 1) := by decide +kernel
theorem dX11_isWish_10 : decode cX11_isWish 10 = .ok (.getfield 20, 3) := by decide +kernel
theorem dX11_isWish_13 : decode cX11_isWish 13 = .ok (.bipush 6, 2) := by decide +kernel
theorem dX11_isWish_15 : decode cX11_isWish 15 = .ok (.iaload, 1) := by decide +kernel
theorem dX11_isWish_16 : decode cX11_isWish 16 = .ok (.iconst 1, 1) := by decide +kernel
theorem dX11_isWish_17 : decode cX11_isWish 17 = .ok (.isub, 1) := by decide +kernel
theorem dX11_isWish_18 : decode cX11_isWish 18 = .ok (.invokestatic 140, 3) := by decide +kernel
theorem dX11_isWish_21 : decode cX11_isWish 21 = .ok (.ifCond .eq 7, 3) := by decide +kernel
theorem dX11_isWish_24 : decode cX11_isWish 24 = .ok (.iconst 1, 1) := by decide +kernel
theorem dX11_isWish_25 : decode cX11_isWish 25 = .ok (.goto 4, 3) := by decide +kernel
theorem dX11_isWish_28 : decode cX11_isWish 28 = .ok (.iconst 0, 1) := by decide +kernel
theorem dX11_isWish_29 : decode cX11_isWish 29 = .ok (.ireturn, 1) := by decide +kernel
theorem dX11_openOf_0 : decode cX11_openOf 0 = .ok (.aload_n 0, 1) := by decide +kernel
theorem dX11_openOf_1 : decode cX11_openOf 1 = .ok (.iconst 3, 1) := by decide +kernel
theorem dX11_openOf_2 : decode cX11_openOf 2 = .ok (.iaload, 1) := by decide +kernel
theorem dX11_openOf_3 : decode cX11_openOf 3 = .ok (.ifCond .ne 5, 3) := by decide +kernel
theorem dX11_openOf_6 : decode cX11_openOf 6 = .ok (.iload_n 2, 1) := by decide +kernel
theorem dX11_openOf_7 : decode cX11_openOf 7 = .ok (.ireturn, 1) := by decide +kernel
theorem dX11_openOf_8 : decode cX11_openOf 8 = .ok (.iload_n 2, 1) := by decide +kernel
theorem dX11_openOf_9 : decode cX11_openOf 9 = .ok (.aload_n 0, 1) := by decide +kernel
theorem dX11_openOf_10 : decode cX11_openOf 10 = .ok (.iconst 1, 1) := by decide +kernel
theorem dX11_openOf_11 : decode cX11_openOf 11 = .ok (.iaload, 1) := by decide +kernel
theorem dX11_openOf_12 : decode cX11_openOf 12 = .ok (.iload_n 1, 1) := by decide +kernel
theorem dX11_openOf_13 : decode cX11_openOf 13 = .ok (.imul, 1) := by decide +kernel
theorem dX11_openOf_14 : decode cX11_openOf 14 = .ok (.isub, 1) := by decide +kernel
theorem dX11_openOf_15 : decode cX11_openOf 15 = .ok (.istore_n 3, 1) := by decide +kernel
theorem dX11_openOf_16 : decode cX11_openOf 16 = .ok (.iload_n 3, 1) := by decide +kernel
theorem dX11_openOf_17 : decode cX11_openOf 17 = .ok (.ifCond .ge 7, 3) := by decide +kernel
theorem dX11_openOf_20 : decode cX11_openOf 20 = .ok (.iconst 0, 1) := by decide +kernel
theorem dX11_openOf_21 : decode cX11_openOf 21 = .ok (.goto 17, 3) := by decide +kernel
theorem dX11_openOf_24 : decode cX11_openOf 24 = .ok (.iload_n 3, 1) := by decide +kernel
theorem dX11_openOf_25 : decode cX11_openOf 25 = .ok (.aload_n 0, 1) := by decide +kernel
theorem dX11_openOf_26 : decode cX11_openOf 26 = .ok (.iconst 1, 1) := by decide +kernel
theorem dX11_openOf_27 : decode cX11_openOf 27 = .ok (.iaload, 1) := by decide +kernel
theorem dX11_openOf_28 : decode cX11_openOf 28 = .ok (.if_icmp .le 9, 3) := by decide +kernel
theorem dX11_openOf_31 : decode cX11_openOf 31 = .ok (.aload_n 0, 1) := by decide +kernel
theorem dX11_openOf_32 : decode cX11_openOf 32 = .ok (.iconst 1, 1) := by decide +kernel
theorem dX11_openOf_33 : decode cX11_openOf 33 = .ok (.iaload, 1) := by decide +kernel
theorem dX11_openOf_34 : decode cX11_openOf 34 = .ok (.goto 4, 3) := by decide +kernel
theorem dX11_openOf_37 : decode cX11_openOf 37 = .ok (.iload_n 3, 1) := by decide +kernel
theorem dX11_openOf_38 : decode cX11_openOf 38 = .ok (.ireturn, 1) := by decide +kernel
theorem dX11_lay_0 : decode cX11_lay 0 = .ok (.iconst 0, 1) := by decide +kernel
theorem dX11_lay_1 : decode cX11_lay 1 = .ok (.istore 5, 2) := by decide +kernel
theorem dX11_lay_3 : decode cX11_lay 3 = .ok (.iconst 0, 1) := by decide +kernel
theorem dX11_lay_4 : decode cX11_lay 4 = .ok (.istore 6, 2) := by decide +kernel
theorem dX11_lay_6 : decode cX11_lay 6 = .ok (.iload 6, 2) := by decide +kernel
theorem dX11_lay_8 : decode cX11_lay 8 = .ok (.aload_n 1, 1) := by decide +kernel
theorem dX11_lay_9 : decode cX11_lay 9 = .ok (.iconst 0, 1) := by decide +kernel
theorem dX11_lay_10 : decode cX11_lay 10 = .ok (.iaload, 1) := by decide +kernel
theorem dX11_lay_11 : decode cX11_lay 11 = .ok (.if_icmp .ge 99, 3) := by decide +kernel
theorem dX11_lay_14 : decode cX11_lay 14 = .ok (.iload_n 2, 1) := by decide +kernel
theorem dX11_lay_15 : decode cX11_lay 15 = .ok (.ifCond .ne 8, 3) := by decide +kernel
theorem dX11_lay_18 : decode cX11_lay 18 = .ok (.iload 6, 2) := by decide +kernel
theorem dX11_lay_20 : decode cX11_lay 20 = .ok (.goto 11, 3) := by decide +kernel
theorem dX11_lay_23 : decode cX11_lay 23 = .ok (.aload_n 1, 1) := by decide +kernel
theorem dX11_lay_24 : decode cX11_lay 24 = .ok (.iconst 0, 1) := by decide +kernel
theorem dX11_lay_25 : decode cX11_lay 25 = .ok (.iaload, 1) := by decide +kernel
theorem dX11_lay_26 : decode cX11_lay 26 = .ok (.iconst 1, 1) := by decide +kernel
theorem dX11_lay_27 : decode cX11_lay 27 = .ok (.isub, 1) := by decide +kernel
theorem dX11_lay_28 : decode cX11_lay 28 = .ok (.iload 6, 2) := by decide +kernel
theorem dX11_lay_30 : decode cX11_lay 30 = .ok (.isub, 1) := by decide +kernel
theorem dX11_lay_31 : decode cX11_lay 31 = .ok (.istore 7, 2) := by decide +kernel
theorem dX11_lay_33 : decode cX11_lay 33 = .ok (.iload 4, 2) := by decide +kernel
theorem dX11_lay_35 : decode cX11_lay 35 = .ok (.iload 7, 2) := by decide +kernel
theorem dX11_lay_37 : decode cX11_lay 37 = .ok (.invokestatic 259, 3) := by decide +kernel
theorem dX11_lay_40 : decode cX11_lay 40 = .ok (.ifCond .eq 6, 3) := by decide +kernel
theorem dX11_lay_43 : decode cX11_lay 43 = .ok (.goto 61, 3) := by decide +kernel
theorem dX11_lay_46 : decode cX11_lay 46 = .ok (.iload 6, 2) := by decide +kernel
theorem dX11_lay_48 : decode cX11_lay 48 = .ok (.aload_n 1, 1) := by decide +kernel
theorem dX11_lay_49 : decode cX11_lay 49 = .ok (.iconst 0, 1) := by decide +kernel
theorem dX11_lay_50 : decode cX11_lay 50 = .ok (.iaload, 1) := by decide +kernel
theorem dX11_lay_51 : decode cX11_lay 51 = .ok (.iconst 1, 1) := by decide +kernel
theorem dX11_lay_52 : decode cX11_lay 52 = .ok (.isub, 1) := by decide +kernel
theorem dX11_lay_53 : decode cX11_lay 53 = .ok (.if_icmp .ne 9, 3) := by decide +kernel
theorem dX11_lay_56 : decode cX11_lay 56 = .ok (.aload_n 1, 1) := by decide +kernel
theorem dX11_lay_57 : decode cX11_lay 57 = .ok (.iconst 1, 1) := by decide +kernel
theorem dX11_lay_58 : decode cX11_lay 58 = .ok (.iaload, 1) := by decide +kernel
theorem dX11_lay_59 : decode cX11_lay 59 = .ok (.goto 10, 3) := by decide +kernel
theorem dX11_lay_62 : decode cX11_lay 62 = .ok (.aload_n 1, 1) := by decide +kernel
theorem dX11_lay_63 : decode cX11_lay 63 = .ok (.iload 7, 2) := by decide +kernel
theorem dX11_lay_65 : decode cX11_lay 65 = .ok (.iload_n 3, 1) := by decide +kernel
theorem dX11_lay_66 : decode cX11_lay 66 = .ok (.invokestatic 263, 3) := by decide +kernel
theorem dX11_lay_69 : decode cX11_lay 69 = .ok (.istore 8, 2) := by decide +kernel
theorem dX11_lay_71 : decode cX11_lay 71 = .ok (.iconst 0, 1) := by decide +kernel
theorem dX11_lay_72 : decode cX11_lay 72 = .ok (.istore 9, 2) := by decide +kernel
theorem dX11_lay_74 : decode cX11_lay 74 = .ok (.iload 9, 2) := by decide +kernel
theorem dX11_lay_76 : decode cX11_lay 76 = .ok (.iload 8, 2) := by decide +kernel
theorem dX11_lay_78 : decode cX11_lay 78 = .ok (.if_icmp .ge 26, 3) := by decide +kernel
theorem dX11_lay_81 : decode cX11_lay 81 = .ok (.aload_n 0, 1) := by decide +kernel
theorem dX11_lay_82 : decode cX11_lay 82 = .ok (.getfield 38, 3) := by decide +kernel
theorem dX11_lay_85 : decode cX11_lay 85 = .ok (.iload 5, 2) := by decide +kernel
theorem dX11_lay_87 : decode cX11_lay 87 = .ok (.iconst 3, 1) := by decide +kernel
theorem dX11_lay_88 : decode cX11_lay 88 = .ok (.iload 7, 2) := by decide +kernel
theorem dX11_lay_90 : decode cX11_lay 90 = .ok (.imul, 1) := by decide +kernel
theorem dX11_lay_91 : decode cX11_lay 91 = .ok (.iload 9, 2) := by decide +kernel
theorem dX11_lay_93 : decode cX11_lay 93 = .ok (.iadd, 1) := by decide +kernel
theorem dX11_lay_94 : decode cX11_lay 94 = .ok (.iastore, 1) := by decide +kernel
theorem dX11_lay_95 : decode cX11_lay 95 = .ok (.iinc 5 1, 3) := by decide +kernel
theorem dX11_lay_98 : decode cX11_lay 98 = .ok (.iinc 9 1, 3) := by decide +kernel
theorem dX11_lay_101 : decode cX11_lay 101 = .ok (.goto (-27), 3) := by decide +kernel
theorem dX11_lay_104 : decode cX11_lay 104 = .ok (.iinc 6 1, 3) := by decide +kernel
theorem dX11_lay_107 : decode cX11_lay 107 = .ok (.goto (-101), 3) := by decide +kernel
theorem dX11_lay_110 : decode cX11_lay 110 = .ok (.iload 5, 2) := by decide +kernel
theorem dX11_lay_112 : decode cX11_lay 112 = .ok (.ireturn, 1) := by decide +kernel
theorem dX11_layNow_0 : decode cX11_layNow 0 = .ok (.aload_n 0, 1) := by decide +kernel
theorem dX11_layNow_1 : decode cX11_layNow 1 = .ok (.aload_n 0, 1) := by decide +kernel
theorem dX11_layNow_2 : decode cX11_layNow 2 = .ok (.getfield 20, 3) := by decide +kernel
theorem dX11_layNow_5 : decode cX11_layNow 5 = .ok (.iload_n 1, 1) := by decide +kernel
theorem dX11_layNow_6 : decode cX11_layNow 6 = .ok (.iload_n 2, 1) := by decide +kernel
theorem dX11_layNow_7 : decode cX11_layNow 7 = .ok (.aload_n 0, 1) := by decide +kernel
theorem dX11_layNow_8 : decode cX11_layNow 8 = .ok (.getfield 26, 3) := by decide +kernel
theorem dX11_layNow_11 : decode cX11_layNow 11 = .ok (.bipush 60, 2) := by decide +kernel
theorem dX11_layNow_13 : decode cX11_layNow 13 = .ok (.iaload, 1) := by decide +kernel
theorem dX11_layNow_14 : decode cX11_layNow 14 = .ok (.invokevirtual 245, 3) := by decide +kernel
theorem dX11_layNow_17 : decode cX11_layNow 17 = .ok (.ireturn, 1) := by decide +kernel
theorem dX11_letterAt_0 : decode cX11_letterAt 0 = .ok (.aload_n 0, 1) := by decide +kernel
theorem dX11_letterAt_1 : decode cX11_letterAt 1 = .ok (.getfield 26, 3) := by decide +kernel
theorem dX11_letterAt_4 : decode cX11_letterAt 4 = .ok (.bipush 30, 2) := by decide +kernel
theorem dX11_letterAt_6 : decode cX11_letterAt 6 = .ok (.iload_n 1, 1) := by decide +kernel
theorem dX11_letterAt_7 : decode cX11_letterAt 7 = .ok (.imul, 1) := by decide +kernel
theorem dX11_letterAt_8 : decode cX11_letterAt 8 = .ok (.aload_n 0, 1) := by decide +kernel
theorem dX11_letterAt_9 : decode cX11_letterAt 9 = .ok (.getfield 38, 3) := by decide +kernel
theorem dX11_letterAt_12 : decode cX11_letterAt 12 = .ok (.iload_n 2, 1) := by decide +kernel
theorem dX11_letterAt_13 : decode cX11_letterAt 13 = .ok (.iaload, 1) := by decide +kernel
theorem dX11_letterAt_14 : decode cX11_letterAt 14 = .ok (.iadd, 1) := by decide +kernel
theorem dX11_letterAt_15 : decode cX11_letterAt 15 = .ok (.iaload, 1) := by decide +kernel
theorem dX11_letterAt_16 : decode cX11_letterAt 16 = .ok (.ireturn, 1) := by decide +kernel
theorem dX11_seenAs_0 : decode cX11_seenAs 0 = .ok (.iload_n 0, 1) := by decide +kernel
theorem dX11_seenAs_1 : decode cX11_seenAs 1 = .ok (.bipush 25, 2) := by decide +kernel
theorem dX11_seenAs_3 : decode cX11_seenAs 3 = .ok (.if_icmp .ne 8, 3) := by decide +kernel
theorem dX11_seenAs_6 : decode cX11_seenAs 6 = .ok (.bipush (-2), 2) := by decide +kernel
theorem dX11_seenAs_8 : decode cX11_seenAs 8 = .ok (.goto 4, 3) := by decide +kernel
theorem dX11_seenAs_11 : decode cX11_seenAs 11 = .ok (.iload_n 0, 1) := by decide +kernel
theorem dX11_seenAs_12 : decode cX11_seenAs 12 = .ok (.ireturn, 1) := by decide +kernel
theorem dX11_cell_0 : decode cX11_cell 0 = .ok (.aload_n 0, 1) := by decide +kernel
theorem dX11_cell_1 : decode cX11_cell 1 = .ok (.invokevirtual 156, 3) := by decide +kernel
theorem dX11_cell_4 : decode cX11_cell 4 = .ok (.aload_n 0, 1) := by decide +kernel
theorem dX11_cell_5 : decode cX11_cell 5 = .ok (.iload_n 1, 1) := by decide +kernel
theorem dX11_cell_6 : decode cX11_cell 6 = .ok (.iload_n 2, 1) := by decide +kernel
theorem dX11_cell_7 : decode cX11_cell 7 = .ok (.iload_n 3, 1) := by decide +kernel
theorem dX11_cell_8 : decode cX11_cell 8 = .ok (.invokevirtual 267, 3) := by decide +kernel
theorem dX11_cell_11 : decode cX11_cell 11 = .ok (.ifCond .eq 24, 3) := by decide +kernel
theorem dX11_cell_14 : decode cX11_cell 14 = .ok (.aload_n 0, 1) := by decide +kernel
theorem dX11_cell_15 : decode cX11_cell 15 = .ok (.getfield 26, 3) := by decide +kernel
theorem dX11_cell_18 : decode cX11_cell 18 = .ok (.bipush 30, 2) := by decide +kernel
theorem dX11_cell_20 : decode cX11_cell 20 = .ok (.iload_n 1, 1) := by decide +kernel
theorem dX11_cell_21 : decode cX11_cell 21 = .ok (.imul, 1) := by decide +kernel
theorem dX11_cell_22 : decode cX11_cell 22 = .ok (.iconst 3, 1) := by decide +kernel
theorem dX11_cell_23 : decode cX11_cell 23 = .ok (.iload_n 2, 1) := by decide +kernel
theorem dX11_cell_24 : decode cX11_cell 24 = .ok (.imul, 1) := by decide +kernel
theorem dX11_cell_25 : decode cX11_cell 25 = .ok (.iadd, 1) := by decide +kernel
theorem dX11_cell_26 : decode cX11_cell 26 = .ok (.iload_n 3, 1) := by decide +kernel
theorem dX11_cell_27 : decode cX11_cell 27 = .ok (.iadd, 1) := by decide +kernel
theorem dX11_cell_28 : decode cX11_cell 28 = .ok (.iaload, 1) := by decide +kernel
theorem dX11_cell_29 : decode cX11_cell 29 = .ok (.invokestatic 270, 3) := by decide +kernel
theorem dX11_cell_32 : decode cX11_cell 32 = .ok (.goto 8, 3) := by decide +kernel
theorem dX11_cell_35 : decode cX11_cell 35 = .ok (.aload_n 0, 1) := by decide +kernel
theorem dX11_cell_36 : decode cX11_cell 36 = .ok (.iconst 1, 1) := by decide +kernel
theorem dX11_cell_37 : decode cX11_cell 37 = .ok (.invokevirtual 159, 3) := by decide +kernel
theorem dX11_cell_40 : decode cX11_cell 40 = .ok (.ireturn, 1) := by decide +kernel
theorem dX11_broken_0 : decode cX11_broken 0 = .ok (.aload_n 0, 1) := by decide +kernel
theorem dX11_broken_1 : decode cX11_broken 1 = .ok (.invokevirtual 156, 3) := by decide +kernel
theorem dX11_broken_4 : decode cX11_broken 4 = .ok (.aload_n 0, 1) := by decide +kernel
theorem dX11_broken_5 : decode cX11_broken 5 = .ok (.iload_n 1, 1) := by decide +kernel
theorem dX11_broken_6 : decode cX11_broken 6 = .ok (.invokevirtual 256, 3) := by decide +kernel
theorem dX11_broken_9 : decode cX11_broken 9 = .ok (.ifCond .eq 25, 3) := by decide +kernel
theorem dX11_broken_12 : decode cX11_broken 12 = .ok (.aload_n 0, 1) := by decide +kernel
theorem dX11_broken_13 : decode cX11_broken 13 = .ok (.getfield 26, 3) := by decide +kernel
theorem dX11_broken_16 : decode cX11_broken 16 = .ok (.bipush 60, 2) := by decide +kernel
theorem dX11_broken_18 : decode cX11_broken 18 = .ok (.iaload, 1) := by decide +kernel
theorem dX11_broken_19 : decode cX11_broken 19 = .ok (.iload_n 1, 1) := by decide +kernel
theorem dX11_broken_20 : decode cX11_broken 20 = .ok (.invokestatic 259, 3) := by decide +kernel
theorem dX11_broken_23 : decode cX11_broken 23 = .ok (.ifCond .eq 7, 3) := by decide +kernel
theorem dX11_broken_26 : decode cX11_broken 26 = .ok (.iconst 1, 1) := by decide +kernel
theorem dX11_broken_27 : decode cX11_broken 27 = .ok (.goto 12, 3) := by decide +kernel
theorem dX11_broken_30 : decode cX11_broken 30 = .ok (.iconst 0, 1) := by decide +kernel
theorem dX11_broken_31 : decode cX11_broken 31 = .ok (.goto 8, 3) := by decide +kernel
theorem dX11_broken_34 : decode cX11_broken 34 = .ok (.aload_n 0, 1) := by decide +kernel
theorem dX11_broken_35 : decode cX11_broken 35 = .ok (.iconst 1, 1) := by decide +kernel
theorem dX11_broken_36 : decode cX11_broken 36 = .ok (.invokevirtual 159, 3) := by decide +kernel
theorem dX11_broken_39 : decode cX11_broken 39 = .ok (.ireturn, 1) := by decide +kernel
theorem dX11_openWhy_0 : decode cX11_openWhy 0 = .ok (.aload_n 0, 1) := by decide +kernel
theorem dX11_openWhy_1 : decode cX11_openWhy 1 = .ok (.iload_n 1, 1) := by decide +kernel
theorem dX11_openWhy_2 : decode cX11_openWhy 2 = .ok (.invokevirtual 253, 3) := by decide +kernel
theorem dX11_openWhy_5 : decode cX11_openWhy 5 = .ok (.ifCond .ne 7, 3) := by decide +kernel
theorem dX11_openWhy_8 : decode cX11_openWhy 8 = .ok (.iconst 1, 1) := by decide +kernel
theorem dX11_openWhy_9 : decode cX11_openWhy 9 = .ok (.goto 16, 3) := by decide +kernel
theorem dX11_openWhy_12 : decode cX11_openWhy 12 = .ok (.aload_n 0, 1) := by decide +kernel
theorem dX11_openWhy_13 : decode cX11_openWhy 13 = .ok (.iload_n 2, 1) := by decide +kernel
theorem dX11_openWhy_14 : decode cX11_openWhy 14 = .ok (.invokevirtual 273, 3) := by decide +kernel
theorem dX11_openWhy_17 : decode cX11_openWhy 17 = .ok (.ifCond .eq 7, 3) := by decide +kernel
theorem dX11_openWhy_20 : decode cX11_openWhy 20 = .ok (.iconst 0, 1) := by decide +kernel
theorem dX11_openWhy_21 : decode cX11_openWhy 21 = .ok (.goto 4, 3) := by decide +kernel
theorem dX11_openWhy_24 : decode cX11_openWhy 24 = .ok (.iconst 2, 1) := by decide +kernel
theorem dX11_openWhy_25 : decode cX11_openWhy 25 = .ok (.ireturn, 1) := by decide +kernel
theorem dX11_shows_0 : decode cX11_shows 0 = .ok (.aload_n 0, 1) := by decide +kernel
theorem dX11_shows_1 : decode cX11_shows 1 = .ok (.invokevirtual 156, 3) := by decide +kernel
theorem dX11_shows_4 : decode cX11_shows 4 = .ok (.aload_n 0, 1) := by decide +kernel
theorem dX11_shows_5 : decode cX11_shows 5 = .ok (.iload_n 1, 1) := by decide +kernel
theorem dX11_shows_6 : decode cX11_shows 6 = .ok (.iload_n 2, 1) := by decide +kernel
theorem dX11_shows_7 : decode cX11_shows 7 = .ok (.invokevirtual 276, 3) := by decide +kernel
theorem dX11_shows_10 : decode cX11_shows 10 = .ok (.istore_n 3, 1) := by decide +kernel
theorem dX11_shows_11 : decode cX11_shows 11 = .ok (.iload_n 3, 1) := by decide +kernel
theorem dX11_shows_12 : decode cX11_shows 12 = .ok (.ifCond .eq 11, 3) := by decide +kernel
theorem dX11_shows_15 : decode cX11_shows 15 = .ok (.aload_n 0, 1) := by decide +kernel
theorem dX11_shows_16 : decode cX11_shows 16 = .ok (.iload_n 3, 1) := by decide +kernel
theorem dX11_shows_17 : decode cX11_shows 17 = .ok (.invokevirtual 159, 3) := by decide +kernel
theorem dX11_shows_20 : decode cX11_shows 20 = .ok (.goto 9, 3) := by decide +kernel
theorem dX11_shows_23 : decode cX11_shows 23 = .ok (.aload_n 0, 1) := by decide +kernel
theorem dX11_shows_24 : decode cX11_shows 24 = .ok (.iload_n 1, 1) := by decide +kernel
theorem dX11_shows_25 : decode cX11_shows 25 = .ok (.iload_n 2, 1) := by decide +kernel
theorem dX11_shows_26 : decode cX11_shows 26 = .ok (.invokevirtual 279, 3) := by decide +kernel
theorem dX11_shows_29 : decode cX11_shows 29 = .ok (.ireturn, 1) := by decide +kernel
theorem dX11_placeWhy_0 : decode cX11_placeWhy 0 = .ok (.aload_n 0, 1) := by decide +kernel
theorem dX11_placeWhy_1 : decode cX11_placeWhy 1 = .ok (.iload_n 1, 1) := by decide +kernel
theorem dX11_placeWhy_2 : decode cX11_placeWhy 2 = .ok (.iload_n 2, 1) := by decide +kernel
theorem dX11_placeWhy_3 : decode cX11_placeWhy 3 = .ok (.invokevirtual 276, 3) := by decide +kernel
theorem dX11_placeWhy_6 : decode cX11_placeWhy 6 = .ok (.istore 4, 2) := by decide +kernel
theorem dX11_placeWhy_8 : decode cX11_placeWhy 8 = .ok (.iload 4, 2) := by decide +kernel
theorem dX11_placeWhy_10 : decode cX11_placeWhy 10 = .ok (.ifCond .eq 6, 3) := by decide +kernel
theorem dX11_placeWhy_13 : decode cX11_placeWhy 13 = .ok (.iload 4, 2) := by decide +kernel
theorem dX11_placeWhy_15 : decode cX11_placeWhy 15 = .ok (.ireturn, 1) := by decide +kernel
theorem dX11_placeWhy_16 : decode cX11_placeWhy 16 = .ok (.iload_n 3, 1) := by decide +kernel
theorem dX11_placeWhy_17 : decode cX11_placeWhy 17 = .ok (.iconst 0, 1) := by decide +kernel
theorem dX11_placeWhy_18 : decode cX11_placeWhy 18 = .ok (.aload_n 0, 1) := by decide +kernel
theorem dX11_placeWhy_19 : decode cX11_placeWhy 19 = .ok (.iload_n 1, 1) := by decide +kernel
theorem dX11_placeWhy_20 : decode cX11_placeWhy 20 = .ok (.iload_n 2, 1) := by decide +kernel
theorem dX11_placeWhy_21 : decode cX11_placeWhy 21 = .ok (.invokevirtual 279, 3) := by decide +kernel
theorem dX11_placeWhy_24 : decode cX11_placeWhy 24 = .ok (.iconst 1, 1) := by decide +kernel
theorem dX11_placeWhy_25 : decode cX11_placeWhy 25 = .ok (.isub, 1) := by decide +kernel
theorem dX11_placeWhy_26 : decode cX11_placeWhy 26 = .ok (.invokestatic 140, 3) := by decide +kernel
theorem dX11_placeWhy_29 : decode cX11_placeWhy 29 = .ok (.ifCond .eq 7, 3) := by decide +kernel
theorem dX11_placeWhy_32 : decode cX11_placeWhy 32 = .ok (.iconst 0, 1) := by decide +kernel
theorem dX11_placeWhy_33 : decode cX11_placeWhy 33 = .ok (.goto 4, 3) := by decide +kernel
theorem dX11_placeWhy_36 : decode cX11_placeWhy 36 = .ok (.iconst 1, 1) := by decide +kernel
theorem dX11_placeWhy_37 : decode cX11_placeWhy 37 = .ok (.ireturn, 1) := by decide +kernel
theorem dX11_letter_0 : decode cX11_letter 0 = .ok (.aload_n 0, 1) := by decide +kernel
theorem dX11_letter_1 : decode cX11_letter 1 = .ok (.invokevirtual 156, 3) := by decide +kernel
theorem dX11_letter_4 : decode cX11_letter 4 = .ok (.aload_n 0, 1) := by decide +kernel
theorem dX11_letter_5 : decode cX11_letter 5 = .ok (.iload_n 1, 1) := by decide +kernel
theorem dX11_letter_6 : decode cX11_letter 6 = .ok (.iload_n 2, 1) := by decide +kernel
theorem dX11_letter_7 : decode cX11_letter 7 = .ok (.iload_n 3, 1) := by decide +kernel
theorem dX11_letter_8 : decode cX11_letter 8 = .ok (.invokevirtual 282, 3) := by decide +kernel
theorem dX11_letter_11 : decode cX11_letter 11 = .ok (.istore 4, 2) := by decide +kernel
theorem dX11_letter_13 : decode cX11_letter 13 = .ok (.iload 4, 2) := by decide +kernel
theorem dX11_letter_15 : decode cX11_letter 15 = .ok (.ifCond .eq 12, 3) := by decide +kernel
theorem dX11_letter_18 : decode cX11_letter 18 = .ok (.aload_n 0, 1) := by decide +kernel
theorem dX11_letter_19 : decode cX11_letter 19 = .ok (.iload 4, 2) := by decide +kernel
theorem dX11_letter_21 : decode cX11_letter 21 = .ok (.invokevirtual 159, 3) := by decide +kernel
theorem dX11_letter_24 : decode cX11_letter 24 = .ok (.goto 12, 3) := by decide +kernel
theorem dX11_letter_27 : decode cX11_letter 27 = .ok (.aload_n 0, 1) := by decide +kernel
theorem dX11_letter_28 : decode cX11_letter 28 = .ok (.iload_n 1, 1) := by decide +kernel
theorem dX11_letter_29 : decode cX11_letter 29 = .ok (.iload_n 3, 1) := by decide +kernel
theorem dX11_letter_30 : decode cX11_letter 30 = .ok (.invokevirtual 286, 3) := by decide +kernel
theorem dX11_letter_33 : decode cX11_letter 33 = .ok (.invokestatic 270, 3) := by decide +kernel
theorem dX11_letter_36 : decode cX11_letter 36 = .ok (.ireturn, 1) := by decide +kernel
theorem dX11_at_0 : decode cX11_at 0 = .ok (.aload_n 0, 1) := by decide +kernel
theorem dX11_at_1 : decode cX11_at 1 = .ok (.invokevirtual 156, 3) := by decide +kernel
theorem dX11_at_4 : decode cX11_at 4 = .ok (.aload_n 0, 1) := by decide +kernel
theorem dX11_at_5 : decode cX11_at 5 = .ok (.iload_n 1, 1) := by decide +kernel
theorem dX11_at_6 : decode cX11_at 6 = .ok (.iload_n 2, 1) := by decide +kernel
theorem dX11_at_7 : decode cX11_at 7 = .ok (.iload_n 3, 1) := by decide +kernel
theorem dX11_at_8 : decode cX11_at 8 = .ok (.invokevirtual 282, 3) := by decide +kernel
theorem dX11_at_11 : decode cX11_at 11 = .ok (.istore 4, 2) := by decide +kernel
theorem dX11_at_13 : decode cX11_at 13 = .ok (.iload 4, 2) := by decide +kernel
theorem dX11_at_15 : decode cX11_at 15 = .ok (.ifCond .eq 12, 3) := by decide +kernel
theorem dX11_at_18 : decode cX11_at 18 = .ok (.aload_n 0, 1) := by decide +kernel
theorem dX11_at_19 : decode cX11_at 19 = .ok (.iload 4, 2) := by decide +kernel
theorem dX11_at_21 : decode cX11_at 21 = .ok (.invokevirtual 159, 3) := by decide +kernel
theorem dX11_at_24 : decode cX11_at 24 = .ok (.goto 27, 3) := by decide +kernel
theorem dX11_at_27 : decode cX11_at 27 = .ok (.aload_n 0, 1) := by decide +kernel
theorem dX11_at_28 : decode cX11_at 28 = .ok (.getfield 20, 3) := by decide +kernel
theorem dX11_at_31 : decode cX11_at 31 = .ok (.iconst 1, 1) := by decide +kernel
theorem dX11_at_32 : decode cX11_at 32 = .ok (.iaload, 1) := by decide +kernel
theorem dX11_at_33 : decode cX11_at 33 = .ok (.aload_n 0, 1) := by decide +kernel
theorem dX11_at_34 : decode cX11_at 34 = .ok (.getfield 38, 3) := by decide +kernel
theorem dX11_at_37 : decode cX11_at 37 = .ok (.iload_n 3, 1) := by decide +kernel
theorem dX11_at_38 : decode cX11_at 38 = .ok (.iaload, 1) := by decide +kernel
theorem dX11_at_39 : decode cX11_at 39 = .ok (.iconst 3, 1) := by decide +kernel
theorem dX11_at_40 : decode cX11_at 40 = .ok (.idiv, 1) := by decide +kernel
theorem dX11_at_41 : decode cX11_at 41 = .ok (.imul, 1) := by decide +kernel
theorem dX11_at_42 : decode cX11_at 42 = .ok (.aload_n 0, 1) := by decide +kernel
theorem dX11_at_43 : decode cX11_at 43 = .ok (.getfield 38, 3) := by decide +kernel
theorem dX11_at_46 : decode cX11_at 46 = .ok (.iload_n 3, 1) := by decide +kernel
theorem dX11_at_47 : decode cX11_at 47 = .ok (.iaload, 1) := by decide +kernel
theorem dX11_at_48 : decode cX11_at 48 = .ok (.iconst 3, 1) := by decide +kernel
theorem dX11_at_49 : decode cX11_at 49 = .ok (.irem, 1) := by decide +kernel
theorem dX11_at_50 : decode cX11_at 50 = .ok (.iadd, 1) := by decide +kernel
theorem dX11_at_51 : decode cX11_at 51 = .ok (.ireturn, 1) := by decide +kernel
theorem dX11_shown_0 : decode cX11_shown 0 = .ok (.aload_n 0, 1) := by decide +kernel
theorem dX11_shown_1 : decode cX11_shown 1 = .ok (.invokevirtual 156, 3) := by decide +kernel
theorem dX11_shown_4 : decode cX11_shown 4 = .ok (.aload_n 0, 1) := by decide +kernel
theorem dX11_shown_5 : decode cX11_shown 5 = .ok (.iload_n 1, 1) := by decide +kernel
theorem dX11_shown_6 : decode cX11_shown 6 = .ok (.iload_n 2, 1) := by decide +kernel
theorem dX11_shown_7 : decode cX11_shown 7 = .ok (.iload_n 3, 1) := by decide +kernel
theorem dX11_shown_8 : decode cX11_shown 8 = .ok (.invokevirtual 267, 3) := by decide +kernel
theorem dX11_shown_11 : decode cX11_shown 11 = .ok (.ifCond .ne 9, 3) := by decide +kernel
theorem dX11_shown_14 : decode cX11_shown 14 = .ok (.aload_n 0, 1) := by decide +kernel
theorem dX11_shown_15 : decode cX11_shown 15 = .ok (.iconst 1, 1) := by decide +kernel
theorem dX11_shown_16 : decode cX11_shown 16 = .ok (.invokevirtual 159, 3) := by decide +kernel
theorem dX11_shown_19 : decode cX11_shown 19 = .ok (.ireturn, 1) := by decide +kernel
theorem dX11_shown_20 : decode cX11_shown 20 = .ok (.iconst 0, 1) := by decide +kernel
theorem dX11_shown_21 : decode cX11_shown 21 = .ok (.istore 4, 2) := by decide +kernel
theorem dX11_shown_23 : decode cX11_shown 23 = .ok (.iload 4, 2) := by decide +kernel
theorem dX11_shown_25 : decode cX11_shown 25 = .ok (.aload_n 0, 1) := by decide +kernel
theorem dX11_shown_26 : decode cX11_shown 26 = .ok (.getfield 20, 3) := by decide +kernel
theorem dX11_shown_29 : decode cX11_shown 29 = .ok (.invokestatic 178, 3) := by decide +kernel
theorem dX11_shown_32 : decode cX11_shown 32 = .ok (.if_icmp .gt 52, 3) := by decide +kernel
theorem dX11_shown_35 : decode cX11_shown 35 = .ok (.aload_n 0, 1) := by decide +kernel
theorem dX11_shown_36 : decode cX11_shown 36 = .ok (.iload_n 1, 1) := by decide +kernel
theorem dX11_shown_37 : decode cX11_shown 37 = .ok (.iload 4, 2) := by decide +kernel
theorem dX11_shown_39 : decode cX11_shown 39 = .ok (.invokevirtual 279, 3) := by decide +kernel
theorem dX11_shown_42 : decode cX11_shown 42 = .ok (.istore 5, 2) := by decide +kernel
theorem dX11_shown_44 : decode cX11_shown 44 = .ok (.iconst 0, 1) := by decide +kernel
theorem dX11_shown_45 : decode cX11_shown 45 = .ok (.istore 6, 2) := by decide +kernel
theorem dX11_shown_47 : decode cX11_shown 47 = .ok (.iload 6, 2) := by decide +kernel
theorem dX11_shown_49 : decode cX11_shown 49 = .ok (.iload 5, 2) := by decide +kernel
theorem dX11_shown_51 : decode cX11_shown 51 = .ok (.if_icmp .ge 27, 3) := by decide +kernel
theorem dX11_shown_54 : decode cX11_shown 54 = .ok (.aload_n 0, 1) := by decide +kernel
theorem dX11_shown_55 : decode cX11_shown 55 = .ok (.getfield 38, 3) := by decide +kernel
theorem dX11_shown_58 : decode cX11_shown 58 = .ok (.iload 6, 2) := by decide +kernel
theorem dX11_shown_60 : decode cX11_shown 60 = .ok (.iaload, 1) := by decide +kernel
theorem dX11_shown_61 : decode cX11_shown 61 = .ok (.iconst 3, 1) := by decide +kernel
theorem dX11_shown_62 : decode cX11_shown 62 = .ok (.iload_n 2, 1) := by decide +kernel
theorem dX11_shown_63 : decode cX11_shown 63 = .ok (.imul, 1) := by decide +kernel
theorem dX11_shown_64 : decode cX11_shown 64 = .ok (.iload_n 3, 1) := by decide +kernel
theorem dX11_shown_65 : decode cX11_shown 65 = .ok (.iadd, 1) := by decide +kernel
theorem dX11_shown_66 : decode cX11_shown 66 = .ok (.if_icmp .ne 6, 3) := by decide +kernel
theorem dX11_shown_69 : decode cX11_shown 69 = .ok (.iload 4, 2) := by decide +kernel
theorem dX11_shown_71 : decode cX11_shown 71 = .ok (.ireturn, 1) := by decide +kernel
theorem dX11_shown_72 : decode cX11_shown 72 = .ok (.iinc 6 1, 3) := by decide +kernel
theorem dX11_shown_75 : decode cX11_shown 75 = .ok (.goto (-28), 3) := by decide +kernel
theorem dX11_shown_78 : decode cX11_shown 78 = .ok (.iinc 4 1, 3) := by decide +kernel
theorem dX11_shown_81 : decode cX11_shown 81 = .ok (.goto (-58), 3) := by decide +kernel
theorem dX11_shown_84 : decode cX11_shown 84 = .ok (.bipush (-2), 2) := by decide +kernel
theorem dX11_shown_86 : decode cX11_shown 86 = .ok (.ireturn, 1) := by decide +kernel
theorem dX11_ribs_0 : decode cX11_ribs 0 = .ok (.aload_n 0, 1) := by decide +kernel
theorem dX11_ribs_1 : decode cX11_ribs 1 = .ok (.invokevirtual 156, 3) := by decide +kernel
theorem dX11_ribs_4 : decode cX11_ribs 4 = .ok (.aload_n 0, 1) := by decide +kernel
theorem dX11_ribs_5 : decode cX11_ribs 5 = .ok (.iload_n 1, 1) := by decide +kernel
theorem dX11_ribs_6 : decode cX11_ribs 6 = .ok (.iload_n 2, 1) := by decide +kernel
theorem dX11_ribs_7 : decode cX11_ribs 7 = .ok (.invokevirtual 276, 3) := by decide +kernel
theorem dX11_ribs_10 : decode cX11_ribs 10 = .ok (.istore_n 3, 1) := by decide +kernel
theorem dX11_ribs_11 : decode cX11_ribs 11 = .ok (.iload_n 3, 1) := by decide +kernel
theorem dX11_ribs_12 : decode cX11_ribs 12 = .ok (.ifCond .eq 9, 3) := by decide +kernel
theorem dX11_ribs_15 : decode cX11_ribs 15 = .ok (.aload_n 0, 1) := by decide +kernel
theorem dX11_ribs_16 : decode cX11_ribs 16 = .ok (.iload_n 3, 1) := by decide +kernel
theorem dX11_ribs_17 : decode cX11_ribs 17 = .ok (.invokevirtual 159, 3) := by decide +kernel
theorem dX11_ribs_20 : decode cX11_ribs 20 = .ok (.ireturn, 1) := by decide +kernel
theorem dX11_ribs_21 : decode cX11_ribs 21 = .ok (.aload_n 0, 1) := by decide +kernel
theorem dX11_ribs_22 : decode cX11_ribs 22 = .ok (.iload_n 1, 1) := by decide +kernel
theorem dX11_ribs_23 : decode cX11_ribs 23 = .ok (.iload_n 2, 1) := by decide +kernel
theorem dX11_ribs_24 : decode cX11_ribs 24 = .ok (.invokevirtual 279, 3) := by decide +kernel
theorem dX11_ribs_27 : decode cX11_ribs 27 = .ok (.istore 4, 2) := by decide +kernel
theorem dX11_ribs_29 : decode cX11_ribs 29 = .ok (.iconst 0, 1) := by decide +kernel
theorem dX11_ribs_30 : decode cX11_ribs 30 = .ok (.istore 5, 2) := by decide +kernel
theorem dX11_ribs_32 : decode cX11_ribs 32 = .ok (.iconst 0, 1) := by decide +kernel
theorem dX11_ribs_33 : decode cX11_ribs 33 = .ok (.istore 6, 2) := by decide +kernel
theorem dX11_ribs_35 : decode cX11_ribs 35 = .ok (.iload 6, 2) := by decide +kernel
theorem dX11_ribs_37 : decode cX11_ribs 37 = .ok (.iload 4, 2) := by decide +kernel
theorem dX11_ribs_39 : decode cX11_ribs 39 = .ok (.if_icmp .ge 39, 3) := by decide +kernel
theorem dX11_ribs_42 : decode cX11_ribs 42 = .ok (.iload 5, 2) := by decide +kernel
theorem dX11_ribs_44 : decode cX11_ribs 44 = .ok (.aload_n 0, 1) := by decide +kernel
theorem dX11_ribs_45 : decode cX11_ribs 45 = .ok (.getfield 38, 3) := by decide +kernel
theorem dX11_ribs_48 : decode cX11_ribs 48 = .ok (.iload 6, 2) := by decide +kernel
theorem dX11_ribs_50 : decode cX11_ribs 50 = .ok (.iaload, 1) := by decide +kernel
theorem dX11_ribs_51 : decode cX11_ribs 51 = .ok (.iconst 3, 1) := by decide +kernel
theorem dX11_ribs_52 : decode cX11_ribs 52 = .ok (.irem, 1) := by decide +kernel
theorem dX11_ribs_53 : decode cX11_ribs 53 = .ok (.aload_n 0, 1) := by decide +kernel
theorem dX11_ribs_54 : decode cX11_ribs 54 = .ok (.getfield 20, 3) := by decide +kernel
theorem dX11_ribs_57 : decode cX11_ribs 57 = .ok (.iconst 1, 1) := by decide +kernel
theorem dX11_ribs_58 : decode cX11_ribs 58 = .ok (.iaload, 1) := by decide +kernel
theorem dX11_ribs_59 : decode cX11_ribs 59 = .ok (.iconst 1, 1) := by decide +kernel
theorem dX11_ribs_60 : decode cX11_ribs 60 = .ok (.isub, 1) := by decide +kernel
theorem dX11_ribs_61 : decode cX11_ribs 61 = .ok (.if_icmp .ne 7, 3) := by decide +kernel
theorem dX11_ribs_64 : decode cX11_ribs 64 = .ok (.iconst 1, 1) := by decide +kernel
theorem dX11_ribs_65 : decode cX11_ribs 65 = .ok (.goto 4, 3) := by decide +kernel
theorem dX11_ribs_68 : decode cX11_ribs 68 = .ok (.iconst 0, 1) := by decide +kernel
theorem dX11_ribs_69 : decode cX11_ribs 69 = .ok (.iadd, 1) := by decide +kernel
theorem dX11_ribs_70 : decode cX11_ribs 70 = .ok (.istore 5, 2) := by decide +kernel
theorem dX11_ribs_72 : decode cX11_ribs 72 = .ok (.iinc 6 1, 3) := by decide +kernel
theorem dX11_ribs_75 : decode cX11_ribs 75 = .ok (.goto (-40), 3) := by decide +kernel
theorem dX11_ribs_78 : decode cX11_ribs 78 = .ok (.iload 5, 2) := by decide +kernel
theorem dX11_ribs_80 : decode cX11_ribs 80 = .ok (.ireturn, 1) := by decide +kernel
theorem dX11_paintedOf_0 : decode cX11_paintedOf 0 = .ok (.iconst 0, 1) := by decide +kernel
theorem dX11_paintedOf_1 : decode cX11_paintedOf 1 = .ok (.istore_n 1, 1) := by decide +kernel
theorem dX11_paintedOf_2 : decode cX11_paintedOf 2 = .ok (.iconst 0, 1) := by decide +kernel
theorem dX11_paintedOf_3 : decode cX11_paintedOf 3 = .ok (.istore_n 2, 1) := by decide +kernel
theorem dX11_paintedOf_4 : decode cX11_paintedOf 4 = .ok (.iload_n 2, 1) := by decide +kernel
theorem dX11_paintedOf_5 : decode cX11_paintedOf 5 = .ok (.bipush 60, 2) := by decide +kernel
theorem dX11_paintedOf_7 : decode cX11_paintedOf 7 = .ok (.if_icmp .ge 28, 3) := by decide +kernel
theorem dX11_paintedOf_10 : decode cX11_paintedOf 10 = .ok (.iload_n 1, 1) := by decide +kernel
theorem dX11_paintedOf_11 : decode cX11_paintedOf 11 = .ok (.aload_n 0, 1) := by decide +kernel
theorem dX11_paintedOf_12 : decode cX11_paintedOf 12 = .ok (.getfield 26, 3) := by decide +kernel
theorem dX11_paintedOf_15 : decode cX11_paintedOf 15 = .ok (.iload_n 2, 1) := by decide +kernel
theorem dX11_paintedOf_16 : decode cX11_paintedOf 16 = .ok (.iaload, 1) := by decide +kernel
theorem dX11_paintedOf_17 : decode cX11_paintedOf 17 = .ok (.bipush 25, 2) := by decide +kernel
theorem dX11_paintedOf_19 : decode cX11_paintedOf 19 = .ok (.if_icmp .ne 7, 3) := by decide +kernel
theorem dX11_paintedOf_22 : decode cX11_paintedOf 22 = .ok (.iconst 0, 1) := by decide +kernel
theorem dX11_paintedOf_23 : decode cX11_paintedOf 23 = .ok (.goto 4, 3) := by decide +kernel
theorem dX11_paintedOf_26 : decode cX11_paintedOf 26 = .ok (.iconst 1, 1) := by decide +kernel
theorem dX11_paintedOf_27 : decode cX11_paintedOf 27 = .ok (.iadd, 1) := by decide +kernel
theorem dX11_paintedOf_28 : decode cX11_paintedOf 28 = .ok (.istore_n 1, 1) := by decide +kernel
theorem dX11_paintedOf_29 : decode cX11_paintedOf 29 = .ok (.iinc 2 1, 3) := by decide +kernel
theorem dX11_paintedOf_32 : decode cX11_paintedOf 32 = .ok (.goto (-28), 3) := by decide +kernel
theorem dX11_paintedOf_35 : decode cX11_paintedOf 35 = .ok (.iload_n 1, 1) := by decide +kernel
theorem dX11_paintedOf_36 : decode cX11_paintedOf 36 = .ok (.ireturn, 1) := by decide +kernel
theorem dX11_painted_0 : decode cX11_painted 0 = .ok (.aload_n 0, 1) := by decide +kernel
theorem dX11_painted_1 : decode cX11_painted 1 = .ok (.invokevirtual 156, 3) := by decide +kernel
theorem dX11_painted_4 : decode cX11_painted 4 = .ok (.aload_n 0, 1) := by decide +kernel
theorem dX11_painted_5 : decode cX11_painted 5 = .ok (.getfield 169, 3) := by decide +kernel
theorem dX11_painted_8 : decode cX11_painted 8 = .ok (.ifCond .eq 10, 3) := by decide +kernel
theorem dX11_painted_11 : decode cX11_painted 11 = .ok (.aload_n 0, 1) := by decide +kernel
theorem dX11_painted_12 : decode cX11_painted 12 = .ok (.invokevirtual 289, 3) := by decide +kernel
theorem dX11_painted_15 : decode cX11_painted 15 = .ok (.goto 8, 3) := by decide +kernel
theorem dX11_painted_18 : decode cX11_painted 18 = .ok (.aload_n 0, 1) := by decide +kernel
theorem dX11_painted_19 : decode cX11_painted 19 = .ok (.iconst 1, 1) := by decide +kernel
theorem dX11_painted_20 : decode cX11_painted 20 = .ok (.invokevirtual 159, 3) := by decide +kernel
theorem dX11_painted_23 : decode cX11_painted 23 = .ok (.ireturn, 1) := by decide +kernel
theorem dX11_cost_0 : decode cX11_cost 0 = .ok (.aload_n 0, 1) := by decide +kernel
theorem dX11_cost_1 : decode cX11_cost 1 = .ok (.invokevirtual 156, 3) := by decide +kernel
theorem dX11_cost_4 : decode cX11_cost 4 = .ok (.aload_n 0, 1) := by decide +kernel
theorem dX11_cost_5 : decode cX11_cost 5 = .ok (.getfield 169, 3) := by decide +kernel
theorem dX11_cost_8 : decode cX11_cost 8 = .ok (.ifCond .eq 17, 3) := by decide +kernel
theorem dX11_cost_11 : decode cX11_cost 11 = .ok (.aload_n 0, 1) := by decide +kernel
theorem dX11_cost_12 : decode cX11_cost 12 = .ok (.getfield 20, 3) := by decide +kernel
theorem dX11_cost_15 : decode cX11_cost 15 = .ok (.iconst 2, 1) := by decide +kernel
theorem dX11_cost_16 : decode cX11_cost 16 = .ok (.iaload, 1) := by decide +kernel
theorem dX11_cost_17 : decode cX11_cost 17 = .ok (.aload_n 0, 1) := by decide +kernel
theorem dX11_cost_18 : decode cX11_cost 18 = .ok (.invokevirtual 289, 3) := by decide +kernel
theorem dX11_cost_21 : decode cX11_cost 21 = .ok (.imul, 1) := by decide +kernel
theorem dX11_cost_22 : decode cX11_cost 22 = .ok (.goto 8, 3) := by decide +kernel
theorem dX11_cost_25 : decode cX11_cost 25 = .ok (.aload_n 0, 1) := by decide +kernel
theorem dX11_cost_26 : decode cX11_cost 26 = .ok (.iconst 1, 1) := by decide +kernel
theorem dX11_cost_27 : decode cX11_cost 27 = .ok (.invokevirtual 159, 3) := by decide +kernel
theorem dX11_cost_30 : decode cX11_cost 30 = .ok (.ireturn, 1) := by decide +kernel
theorem dX11_stands_0 : decode cX11_stands 0 = .ok (.iload 4, 2) := by decide +kernel
theorem dX11_stands_2 : decode cX11_stands 2 = .ok (.iload_n 2, 1) := by decide +kernel
theorem dX11_stands_3 : decode cX11_stands 3 = .ok (.iadd, 1) := by decide +kernel
theorem dX11_stands_4 : decode cX11_stands 4 = .ok (.iload 5, 2) := by decide +kernel
theorem dX11_stands_6 : decode cX11_stands 6 = .ok (.if_icmp .gt 7, 3) := by decide +kernel
theorem dX11_stands_9 : decode cX11_stands 9 = .ok (.iconst 1, 1) := by decide +kernel
theorem dX11_stands_10 : decode cX11_stands 10 = .ok (.goto 4, 3) := by decide +kernel
theorem dX11_stands_13 : decode cX11_stands 13 = .ok (.iconst 0, 1) := by decide +kernel
theorem dX11_stands_14 : decode cX11_stands 14 = .ok (.istore 6, 2) := by decide +kernel
theorem dX11_stands_16 : decode cX11_stands 16 = .ok (.iconst 0, 1) := by decide +kernel
theorem dX11_stands_17 : decode cX11_stands 17 = .ok (.istore 7, 2) := by decide +kernel
theorem dX11_stands_19 : decode cX11_stands 19 = .ok (.iload 7, 2) := by decide +kernel
theorem dX11_stands_21 : decode cX11_stands 21 = .ok (.iload_n 2, 1) := by decide +kernel
theorem dX11_stands_22 : decode cX11_stands 22 = .ok (.if_icmp .ge 57, 3) := by decide +kernel
theorem dX11_stands_25 : decode cX11_stands 25 = .ok (.iload 6, 2) := by decide +kernel
theorem dX11_stands_27 : decode cX11_stands 27 = .ok (.ifCond .eq 52, 3) := by decide +kernel
theorem dX11_stands_30 : decode cX11_stands 30 = .ok (.aload_n 0, 1) := by decide +kernel
theorem dX11_stands_31 : decode cX11_stands 31 = .ok (.getfield 20, 3) := by decide +kernel
theorem dX11_stands_34 : decode cX11_stands 34 = .ok (.iload_n 1, 1) := by decide +kernel
theorem dX11_stands_35 : decode cX11_stands 35 = .ok (.iload 7, 2) := by decide +kernel
theorem dX11_stands_37 : decode cX11_stands 37 = .ok (.iadd, 1) := by decide +kernel
theorem dX11_stands_38 : decode cX11_stands 38 = .ok (.iaload, 1) := by decide +kernel
theorem dX11_stands_39 : decode cX11_stands 39 = .ok (.bipush 25, 2) := by decide +kernel
theorem dX11_stands_41 : decode cX11_stands 41 = .ok (.if_icmp .eq 29, 3) := by decide +kernel
theorem dX11_stands_44 : decode cX11_stands 44 = .ok (.aload_n 0, 1) := by decide +kernel
theorem dX11_stands_45 : decode cX11_stands 45 = .ok (.iload_n 3, 1) := by decide +kernel
theorem dX11_stands_46 : decode cX11_stands 46 = .ok (.iload 4, 2) := by decide +kernel
theorem dX11_stands_48 : decode cX11_stands 48 = .ok (.iload 7, 2) := by decide +kernel
theorem dX11_stands_50 : decode cX11_stands 50 = .ok (.iadd, 1) := by decide +kernel
theorem dX11_stands_51 : decode cX11_stands 51 = .ok (.invokevirtual 286, 3) := by decide +kernel
theorem dX11_stands_54 : decode cX11_stands 54 = .ok (.aload_n 0, 1) := by decide +kernel
theorem dX11_stands_55 : decode cX11_stands 55 = .ok (.getfield 20, 3) := by decide +kernel
theorem dX11_stands_58 : decode cX11_stands 58 = .ok (.iload_n 1, 1) := by decide +kernel
theorem dX11_stands_59 : decode cX11_stands 59 = .ok (.iload 7, 2) := by decide +kernel
theorem dX11_stands_61 : decode cX11_stands 61 = .ok (.iadd, 1) := by decide +kernel
theorem dX11_stands_62 : decode cX11_stands 62 = .ok (.iaload, 1) := by decide +kernel
theorem dX11_stands_63 : decode cX11_stands 63 = .ok (.if_icmp .ne 7, 3) := by decide +kernel
theorem dX11_stands_66 : decode cX11_stands 66 = .ok (.iconst 1, 1) := by decide +kernel
theorem dX11_stands_67 : decode cX11_stands 67 = .ok (.goto 4, 3) := by decide +kernel
theorem dX11_stands_70 : decode cX11_stands 70 = .ok (.iconst 0, 1) := by decide +kernel
theorem dX11_stands_71 : decode cX11_stands 71 = .ok (.istore 6, 2) := by decide +kernel
theorem dX11_stands_73 : decode cX11_stands 73 = .ok (.iinc 7 1, 3) := by decide +kernel
theorem dX11_stands_76 : decode cX11_stands 76 = .ok (.goto (-57), 3) := by decide +kernel
theorem dX11_stands_79 : decode cX11_stands 79 = .ok (.iload 6, 2) := by decide +kernel
theorem dX11_stands_81 : decode cX11_stands 81 = .ok (.ireturn, 1) := by decide +kernel
theorem dX11_readsOf_0 : decode cX11_readsOf 0 = .ok (.aload_n 0, 1) := by decide +kernel
theorem dX11_readsOf_1 : decode cX11_readsOf 1 = .ok (.aload_n 0, 1) := by decide +kernel
theorem dX11_readsOf_2 : decode cX11_readsOf 2 = .ok (.getfield 20, 3) := by decide +kernel
theorem dX11_readsOf_5 : decode cX11_readsOf 5 = .ok (.iload_n 3, 1) := by decide +kernel
theorem dX11_readsOf_6 : decode cX11_readsOf 6 = .ok (.iload 4, 2) := by decide +kernel
theorem dX11_readsOf_8 : decode cX11_readsOf 8 = .ok (.iload 5, 2) := by decide +kernel
theorem dX11_readsOf_10 : decode cX11_readsOf 10 = .ok (.invokevirtual 245, 3) := by decide +kernel
theorem dX11_readsOf_13 : decode cX11_readsOf 13 = .ok (.istore 6, 2) := by decide +kernel
theorem dX11_readsOf_15 : decode cX11_readsOf 15 = .ok (.iconst 0, 1) := by decide +kernel
theorem dX11_readsOf_16 : decode cX11_readsOf 16 = .ok (.istore 7, 2) := by decide +kernel
theorem dX11_readsOf_18 : decode cX11_readsOf 18 = .ok (.aload_n 0, 1) := by decide +kernel
theorem dX11_readsOf_19 : decode cX11_readsOf 19 = .ok (.bipush (-2), 2) := by decide +kernel
theorem dX11_readsOf_21 : decode cX11_readsOf 21 = .ok (.putfield 292, 3) := by decide +kernel
theorem dX11_readsOf_24 : decode cX11_readsOf 24 = .ok (.iconst 0, 1) := by decide +kernel
theorem dX11_readsOf_25 : decode cX11_readsOf 25 = .ok (.istore 8, 2) := by decide +kernel
theorem dX11_readsOf_27 : decode cX11_readsOf 27 = .ok (.iload 8, 2) := by decide +kernel
theorem dX11_readsOf_29 : decode cX11_readsOf 29 = .ok (.iload 6, 2) := by decide +kernel
theorem dX11_readsOf_31 : decode cX11_readsOf 31 = .ok (.if_icmp .ge 47, 3) := by decide +kernel
theorem dX11_readsOf_34 : decode cX11_readsOf 34 = .ok (.aload_n 0, 1) := by decide +kernel
theorem dX11_readsOf_35 : decode cX11_readsOf 35 = .ok (.iload_n 1, 1) := by decide +kernel
theorem dX11_readsOf_36 : decode cX11_readsOf 36 = .ok (.iload_n 2, 1) := by decide +kernel
theorem dX11_readsOf_37 : decode cX11_readsOf 37 = .ok (.iload_n 3, 1) := by decide +kernel
theorem dX11_readsOf_38 : decode cX11_readsOf 38 = .ok (.iload 8, 2) := by decide +kernel
theorem dX11_readsOf_40 : decode cX11_readsOf 40 = .ok (.iload 6, 2) := by decide +kernel
theorem dX11_readsOf_42 : decode cX11_readsOf 42 = .ok (.invokevirtual 295, 3) := by decide +kernel
theorem dX11_readsOf_45 : decode cX11_readsOf 45 = .ok (.ifCond .ne 6, 3) := by decide +kernel
theorem dX11_readsOf_48 : decode cX11_readsOf 48 = .ok (.goto 24, 3) := by decide +kernel
theorem dX11_readsOf_51 : decode cX11_readsOf 51 = .ok (.aload_n 0, 1) := by decide +kernel
theorem dX11_readsOf_52 : decode cX11_readsOf 52 = .ok (.iload 7, 2) := by decide +kernel
theorem dX11_readsOf_54 : decode cX11_readsOf 54 = .ok (.ifCond .ne 8, 3) := by decide +kernel
theorem dX11_readsOf_57 : decode cX11_readsOf 57 = .ok (.iload 8, 2) := by decide +kernel
theorem dX11_readsOf_59 : decode cX11_readsOf 59 = .ok (.goto 7, 3) := by decide +kernel
theorem dX11_readsOf_62 : decode cX11_readsOf 62 = .ok (.aload_n 0, 1) := by decide +kernel
theorem dX11_readsOf_63 : decode cX11_readsOf 63 = .ok (.getfield 292, 3) := by decide +kernel
theorem dX11_readsOf_66 : decode cX11_readsOf 66 = .ok (.putfield 292, 3) := by decide +kernel
theorem dX11_readsOf_69 : decode cX11_readsOf 69 = .ok (.iinc 7 1, 3) := by decide +kernel
theorem dX11_readsOf_72 : decode cX11_readsOf 72 = .ok (.iinc 8 1, 3) := by decide +kernel
theorem dX11_readsOf_75 : decode cX11_readsOf 75 = .ok (.goto (-48), 3) := by decide +kernel
theorem dX11_readsOf_78 : decode cX11_readsOf 78 = .ok (.iload 7, 2) := by decide +kernel
theorem dX11_readsOf_80 : decode cX11_readsOf 80 = .ok (.ireturn, 1) := by decide +kernel
theorem dX11_readsWord_0 : decode cX11_readsWord 0 = .ok (.aload_n 0, 1) := by decide +kernel
theorem dX11_readsWord_1 : decode cX11_readsWord 1 = .ok (.bipush 16, 2) := by decide +kernel
theorem dX11_readsWord_3 : decode cX11_readsWord 3 = .ok (.bipush 8, 2) := by decide +kernel
theorem dX11_readsWord_5 : decode cX11_readsWord 5 = .ok (.iload_n 1, 1) := by decide +kernel
theorem dX11_readsWord_6 : decode cX11_readsWord 6 = .ok (.imul, 1) := by decide +kernel
theorem dX11_readsWord_7 : decode cX11_readsWord 7 = .ok (.iadd, 1) := by decide +kernel
theorem dX11_readsWord_8 : decode cX11_readsWord 8 = .ok (.aload_n 0, 1) := by decide +kernel
theorem dX11_readsWord_9 : decode cX11_readsWord 9 = .ok (.getfield 20, 3) := by decide +kernel
theorem dX11_readsWord_12 : decode cX11_readsWord 12 = .ok (.bipush 10, 2) := by decide +kernel
theorem dX11_readsWord_14 : decode cX11_readsWord 14 = .ok (.iload_n 1, 1) := by decide +kernel
theorem dX11_readsWord_15 : decode cX11_readsWord 15 = .ok (.iadd, 1) := by decide +kernel
theorem dX11_readsWord_16 : decode cX11_readsWord 16 = .ok (.iaload, 1) := by decide +kernel
theorem dX11_readsWord_17 : decode cX11_readsWord 17 = .ok (.iload_n 2, 1) := by decide +kernel
theorem dX11_readsWord_18 : decode cX11_readsWord 18 = .ok (.iload_n 3, 1) := by decide +kernel
theorem dX11_readsWord_19 : decode cX11_readsWord 19 = .ok (.aload_n 0, 1) := by decide +kernel
theorem dX11_readsWord_20 : decode cX11_readsWord 20 = .ok (.getfield 26, 3) := by decide +kernel
theorem dX11_readsWord_23 : decode cX11_readsWord 23 = .ok (.bipush 60, 2) := by decide +kernel
theorem dX11_readsWord_25 : decode cX11_readsWord 25 = .ok (.iaload, 1) := by decide +kernel
theorem dX11_readsWord_26 : decode cX11_readsWord 26 = .ok (.invokevirtual 299, 3) := by decide +kernel
theorem dX11_readsWord_29 : decode cX11_readsWord 29 = .ok (.ireturn, 1) := by decide +kernel
theorem dX11_wordWhy_0 : decode cX11_wordWhy 0 = .ok (.aload_n 0, 1) := by decide +kernel
theorem dX11_wordWhy_1 : decode cX11_wordWhy 1 = .ok (.iload_n 1, 1) := by decide +kernel
theorem dX11_wordWhy_2 : decode cX11_wordWhy 2 = .ok (.invokevirtual 303, 3) := by decide +kernel
theorem dX11_wordWhy_5 : decode cX11_wordWhy 5 = .ok (.ifCond .eq 11, 3) := by decide +kernel
theorem dX11_wordWhy_8 : decode cX11_wordWhy 8 = .ok (.aload_n 0, 1) := by decide +kernel
theorem dX11_wordWhy_9 : decode cX11_wordWhy 9 = .ok (.iload_n 2, 1) := by decide +kernel
theorem dX11_wordWhy_10 : decode cX11_wordWhy 10 = .ok (.invokevirtual 253, 3) := by decide +kernel
theorem dX11_wordWhy_13 : decode cX11_wordWhy 13 = .ok (.ifCond .ne 7, 3) := by decide +kernel
theorem dX11_wordWhy_16 : decode cX11_wordWhy 16 = .ok (.iconst 1, 1) := by decide +kernel
theorem dX11_wordWhy_17 : decode cX11_wordWhy 17 = .ok (.goto 16, 3) := by decide +kernel
theorem dX11_wordWhy_20 : decode cX11_wordWhy 20 = .ok (.aload_n 0, 1) := by decide +kernel
theorem dX11_wordWhy_21 : decode cX11_wordWhy 21 = .ok (.iload_n 3, 1) := by decide +kernel
theorem dX11_wordWhy_22 : decode cX11_wordWhy 22 = .ok (.invokevirtual 273, 3) := by decide +kernel
theorem dX11_wordWhy_25 : decode cX11_wordWhy 25 = .ok (.ifCond .eq 7, 3) := by decide +kernel
theorem dX11_wordWhy_28 : decode cX11_wordWhy 28 = .ok (.iconst 0, 1) := by decide +kernel
theorem dX11_wordWhy_29 : decode cX11_wordWhy 29 = .ok (.goto 4, 3) := by decide +kernel
theorem dX11_wordWhy_32 : decode cX11_wordWhy 32 = .ok (.iconst 2, 1) := by decide +kernel
theorem dX11_wordWhy_33 : decode cX11_wordWhy 33 = .ok (.ireturn, 1) := by decide +kernel
theorem dX11_reads_0 : decode cX11_reads 0 = .ok (.aload_n 0, 1) := by decide +kernel
theorem dX11_reads_1 : decode cX11_reads 1 = .ok (.invokevirtual 156, 3) := by decide +kernel
theorem dX11_reads_4 : decode cX11_reads 4 = .ok (.aload_n 0, 1) := by decide +kernel
theorem dX11_reads_5 : decode cX11_reads 5 = .ok (.iload_n 1, 1) := by decide +kernel
theorem dX11_reads_6 : decode cX11_reads 6 = .ok (.iload_n 2, 1) := by decide +kernel
theorem dX11_reads_7 : decode cX11_reads 7 = .ok (.iload_n 3, 1) := by decide +kernel
theorem dX11_reads_8 : decode cX11_reads 8 = .ok (.invokevirtual 306, 3) := by decide +kernel
theorem dX11_reads_11 : decode cX11_reads 11 = .ok (.istore 4, 2) := by decide +kernel
theorem dX11_reads_13 : decode cX11_reads 13 = .ok (.iload 4, 2) := by decide +kernel
theorem dX11_reads_15 : decode cX11_reads 15 = .ok (.ifCond .eq 12, 3) := by decide +kernel
theorem dX11_reads_18 : decode cX11_reads 18 = .ok (.aload_n 0, 1) := by decide +kernel
theorem dX11_reads_19 : decode cX11_reads 19 = .ok (.iload 4, 2) := by decide +kernel
theorem dX11_reads_21 : decode cX11_reads 21 = .ok (.invokevirtual 159, 3) := by decide +kernel
theorem dX11_reads_24 : decode cX11_reads 24 = .ok (.goto 10, 3) := by decide +kernel
theorem dX11_reads_27 : decode cX11_reads 27 = .ok (.aload_n 0, 1) := by decide +kernel
theorem dX11_reads_28 : decode cX11_reads 28 = .ok (.iload_n 1, 1) := by decide +kernel
theorem dX11_reads_29 : decode cX11_reads 29 = .ok (.iload_n 2, 1) := by decide +kernel
theorem dX11_reads_30 : decode cX11_reads 30 = .ok (.iload_n 3, 1) := by decide +kernel
theorem dX11_reads_31 : decode cX11_reads 31 = .ok (.invokevirtual 309, 3) := by decide +kernel
theorem dX11_reads_34 : decode cX11_reads 34 = .ok (.ireturn, 1) := by decide +kernel
theorem dX11_readAt_0 : decode cX11_readAt 0 = .ok (.aload_n 0, 1) := by decide +kernel
theorem dX11_readAt_1 : decode cX11_readAt 1 = .ok (.invokevirtual 156, 3) := by decide +kernel
theorem dX11_readAt_4 : decode cX11_readAt 4 = .ok (.aload_n 0, 1) := by decide +kernel
theorem dX11_readAt_5 : decode cX11_readAt 5 = .ok (.iload_n 1, 1) := by decide +kernel
theorem dX11_readAt_6 : decode cX11_readAt 6 = .ok (.iload_n 2, 1) := by decide +kernel
theorem dX11_readAt_7 : decode cX11_readAt 7 = .ok (.iload_n 3, 1) := by decide +kernel
theorem dX11_readAt_8 : decode cX11_readAt 8 = .ok (.invokevirtual 306, 3) := by decide +kernel
theorem dX11_readAt_11 : decode cX11_readAt 11 = .ok (.istore 4, 2) := by decide +kernel
theorem dX11_readAt_13 : decode cX11_readAt 13 = .ok (.iload 4, 2) := by decide +kernel
theorem dX11_readAt_15 : decode cX11_readAt 15 = .ok (.ifCond .eq 10, 3) := by decide +kernel
theorem dX11_readAt_18 : decode cX11_readAt 18 = .ok (.aload_n 0, 1) := by decide +kernel
theorem dX11_readAt_19 : decode cX11_readAt 19 = .ok (.iload 4, 2) := by decide +kernel
theorem dX11_readAt_21 : decode cX11_readAt 21 = .ok (.invokevirtual 159, 3) := by decide +kernel
theorem dX11_readAt_24 : decode cX11_readAt 24 = .ok (.ireturn, 1) := by decide +kernel
theorem dX11_readAt_25 : decode cX11_readAt 25 = .ok (.aload_n 0, 1) := by decide +kernel
theorem dX11_readAt_26 : decode cX11_readAt 26 = .ok (.iload_n 1, 1) := by decide +kernel
theorem dX11_readAt_27 : decode cX11_readAt 27 = .ok (.iload_n 2, 1) := by decide +kernel
theorem dX11_readAt_28 : decode cX11_readAt 28 = .ok (.iload_n 3, 1) := by decide +kernel
theorem dX11_readAt_29 : decode cX11_readAt 29 = .ok (.invokevirtual 309, 3) := by decide +kernel
theorem dX11_readAt_32 : decode cX11_readAt 32 = .ok (.pop, 1) := by decide +kernel
theorem dX11_readAt_33 : decode cX11_readAt 33 = .ok (.aload_n 0, 1) := by decide +kernel
theorem dX11_readAt_34 : decode cX11_readAt 34 = .ok (.getfield 292, 3) := by decide +kernel
theorem dX11_readAt_37 : decode cX11_readAt 37 = .ok (.ireturn, 1) := by decide +kernel
theorem dX11_spanOf_0 : decode cX11_spanOf 0 = .ok (.iconst 0, 1) := by decide +kernel
theorem dX11_spanOf_1 : decode cX11_spanOf 1 = .ok (.istore 5, 2) := by decide +kernel
theorem dX11_spanOf_3 : decode cX11_spanOf 3 = .ok (.iconst (-1), 1) := by decide +kernel
theorem dX11_spanOf_4 : decode cX11_spanOf 4 = .ok (.istore 6, 2) := by decide +kernel
theorem dX11_spanOf_6 : decode cX11_spanOf 6 = .ok (.iconst 0, 1) := by decide +kernel
theorem dX11_spanOf_7 : decode cX11_spanOf 7 = .ok (.istore 7, 2) := by decide +kernel
theorem dX11_spanOf_9 : decode cX11_spanOf 9 = .ok (.iload 7, 2) := by decide +kernel
theorem dX11_spanOf_11 : decode cX11_spanOf 11 = .ok (.aload_n 0, 1) := by decide +kernel
theorem dX11_spanOf_12 : decode cX11_spanOf 12 = .ok (.getfield 20, 3) := by decide +kernel
theorem dX11_spanOf_15 : decode cX11_spanOf 15 = .ok (.invokestatic 178, 3) := by decide +kernel
theorem dX11_spanOf_18 : decode cX11_spanOf 18 = .ok (.iconst 1, 1) := by decide +kernel
theorem dX11_spanOf_19 : decode cX11_spanOf 19 = .ok (.iadd, 1) := by decide +kernel
theorem dX11_spanOf_20 : decode cX11_spanOf 20 = .ok (.if_icmp .gt 93, 3) := by decide +kernel
theorem dX11_spanOf_23 : decode cX11_spanOf 23 = .ok (.iload 7, 2) := by decide +kernel
theorem dX11_spanOf_25 : decode cX11_spanOf 25 = .ok (.aload_n 0, 1) := by decide +kernel
theorem dX11_spanOf_26 : decode cX11_spanOf 26 = .ok (.getfield 20, 3) := by decide +kernel
theorem dX11_spanOf_29 : decode cX11_spanOf 29 = .ok (.invokestatic 178, 3) := by decide +kernel
theorem dX11_spanOf_32 : decode cX11_spanOf 32 = .ok (.if_icmp .gt 18, 3) := by decide +kernel
theorem dX11_spanOf_35 : decode cX11_spanOf 35 = .ok (.aload_n 0, 1) := by decide +kernel
theorem dX11_spanOf_36 : decode cX11_spanOf 36 = .ok (.iload_n 1, 1) := by decide +kernel
theorem dX11_spanOf_37 : decode cX11_spanOf 37 = .ok (.iload_n 2, 1) := by decide +kernel
theorem dX11_spanOf_38 : decode cX11_spanOf 38 = .ok (.iload 7, 2) := by decide +kernel
theorem dX11_spanOf_40 : decode cX11_spanOf 40 = .ok (.invokevirtual 309, 3) := by decide +kernel
theorem dX11_spanOf_43 : decode cX11_spanOf 43 = .ok (.ifCond .le 7, 3) := by decide +kernel
theorem dX11_spanOf_46 : decode cX11_spanOf 46 = .ok (.iconst 1, 1) := by decide +kernel
theorem dX11_spanOf_47 : decode cX11_spanOf 47 = .ok (.goto 4, 3) := by decide +kernel
theorem dX11_spanOf_50 : decode cX11_spanOf 50 = .ok (.iconst 0, 1) := by decide +kernel
theorem dX11_spanOf_51 : decode cX11_spanOf 51 = .ok (.istore 8, 2) := by decide +kernel
theorem dX11_spanOf_53 : decode cX11_spanOf 53 = .ok (.iload 8, 2) := by decide +kernel
theorem dX11_spanOf_55 : decode cX11_spanOf 55 = .ok (.ifCond .eq 12, 3) := by decide +kernel
theorem dX11_spanOf_58 : decode cX11_spanOf 58 = .ok (.iload 6, 2) := by decide +kernel
theorem dX11_spanOf_60 : decode cX11_spanOf 60 = .ok (.ifCond .ge 7, 3) := by decide +kernel
theorem dX11_spanOf_63 : decode cX11_spanOf 63 = .ok (.iload 7, 2) := by decide +kernel
theorem dX11_spanOf_65 : decode cX11_spanOf 65 = .ok (.istore 6, 2) := by decide +kernel
theorem dX11_spanOf_67 : decode cX11_spanOf 67 = .ok (.iload 8, 2) := by decide +kernel
theorem dX11_spanOf_69 : decode cX11_spanOf 69 = .ok (.ifCond .ne 38, 3) := by decide +kernel
theorem dX11_spanOf_72 : decode cX11_spanOf 72 = .ok (.iload 6, 2) := by decide +kernel
theorem dX11_spanOf_74 : decode cX11_spanOf 74 = .ok (.ifCond .ge 6, 3) := by decide +kernel
theorem dX11_spanOf_77 : decode cX11_spanOf 77 = .ok (.goto 30, 3) := by decide +kernel
theorem dX11_spanOf_80 : decode cX11_spanOf 80 = .ok (.iload 5, 2) := by decide +kernel
theorem dX11_spanOf_82 : decode cX11_spanOf 82 = .ok (.iload_n 3, 1) := by decide +kernel
theorem dX11_spanOf_83 : decode cX11_spanOf 83 = .ok (.if_icmp .ne 18, 3) := by decide +kernel
theorem dX11_spanOf_86 : decode cX11_spanOf 86 = .ok (.iload 4, 2) := by decide +kernel
theorem dX11_spanOf_88 : decode cX11_spanOf 88 = .ok (.ifCond .eq 10, 3) := by decide +kernel
theorem dX11_spanOf_91 : decode cX11_spanOf 91 = .ok (.iload 7, 2) := by decide +kernel
theorem dX11_spanOf_93 : decode cX11_spanOf 93 = .ok (.iconst 1, 1) := by decide +kernel
theorem dX11_spanOf_94 : decode cX11_spanOf 94 = .ok (.isub, 1) := by decide +kernel
theorem dX11_spanOf_95 : decode cX11_spanOf 95 = .ok (.goto 5, 3) := by decide +kernel
theorem dX11_spanOf_98 : decode cX11_spanOf 98 = .ok (.iload 6, 2) := by decide +kernel
theorem dX11_spanOf_100 : decode cX11_spanOf 100 = .ok (.ireturn, 1) := by decide +kernel
theorem dX11_spanOf_101 : decode cX11_spanOf 101 = .ok (.iinc 5 1, 3) := by decide +kernel
theorem dX11_spanOf_104 : decode cX11_spanOf 104 = .ok (.iconst (-1), 1) := by decide +kernel
theorem dX11_spanOf_105 : decode cX11_spanOf 105 = .ok (.istore 6, 2) := by decide +kernel
theorem dX11_spanOf_107 : decode cX11_spanOf 107 = .ok (.iinc 7 1, 3) := by decide +kernel
theorem dX11_spanOf_110 : decode cX11_spanOf 110 = .ok (.goto (-101), 3) := by decide +kernel
theorem dX11_spanOf_113 : decode cX11_spanOf 113 = .ok (.iload 5, 2) := by decide +kernel
theorem dX11_spanOf_115 : decode cX11_spanOf 115 = .ok (.sipush 1000, 3) := by decide +kernel
theorem dX11_spanOf_118 : decode cX11_spanOf 118 = .ok (.isub, 1) := by decide +kernel
theorem dX11_spanOf_119 : decode cX11_spanOf 119 = .ok (.ireturn, 1) := by decide +kernel
theorem dX11_spans_0 : decode cX11_spans 0 = .ok (.aload_n 0, 1) := by decide +kernel
theorem dX11_spans_1 : decode cX11_spans 1 = .ok (.invokevirtual 156, 3) := by decide +kernel
theorem dX11_spans_4 : decode cX11_spans 4 = .ok (.aload_n 0, 1) := by decide +kernel
theorem dX11_spans_5 : decode cX11_spans 5 = .ok (.iload_n 1, 1) := by decide +kernel
theorem dX11_spans_6 : decode cX11_spans 6 = .ok (.invokevirtual 303, 3) := by decide +kernel
theorem dX11_spans_9 : decode cX11_spans 9 = .ok (.ifCond .eq 26, 3) := by decide +kernel
theorem dX11_spans_12 : decode cX11_spans 12 = .ok (.aload_n 0, 1) := by decide +kernel
theorem dX11_spans_13 : decode cX11_spans 13 = .ok (.iload_n 2, 1) := by decide +kernel
theorem dX11_spans_14 : decode cX11_spans 14 = .ok (.invokevirtual 253, 3) := by decide +kernel
theorem dX11_spans_17 : decode cX11_spans 17 = .ok (.ifCond .eq 18, 3) := by decide +kernel
theorem dX11_spans_20 : decode cX11_spans 20 = .ok (.aload_n 0, 1) := by decide +kernel
theorem dX11_spans_21 : decode cX11_spans 21 = .ok (.iload_n 1, 1) := by decide +kernel
theorem dX11_spans_22 : decode cX11_spans 22 = .ok (.iload_n 2, 1) := by decide +kernel
theorem dX11_spans_23 : decode cX11_spans 23 = .ok (.iconst (-1), 1) := by decide +kernel
theorem dX11_spans_24 : decode cX11_spans 24 = .ok (.iconst 0, 1) := by decide +kernel
theorem dX11_spans_25 : decode cX11_spans 25 = .ok (.invokevirtual 312, 3) := by decide +kernel
theorem dX11_spans_28 : decode cX11_spans 28 = .ok (.sipush 1000, 3) := by decide +kernel
theorem dX11_spans_31 : decode cX11_spans 31 = .ok (.iadd, 1) := by decide +kernel
theorem dX11_spans_32 : decode cX11_spans 32 = .ok (.goto 8, 3) := by decide +kernel
theorem dX11_spans_35 : decode cX11_spans 35 = .ok (.aload_n 0, 1) := by decide +kernel
theorem dX11_spans_36 : decode cX11_spans 36 = .ok (.iconst 1, 1) := by decide +kernel
theorem dX11_spans_37 : decode cX11_spans 37 = .ok (.invokevirtual 159, 3) := by decide +kernel
theorem dX11_spans_40 : decode cX11_spans 40 = .ok (.ireturn, 1) := by decide +kernel
theorem dX11_span_0 : decode cX11_span 0 = .ok (.aload_n 0, 1) := by decide +kernel
theorem dX11_span_1 : decode cX11_span 1 = .ok (.invokevirtual 156, 3) := by decide +kernel
theorem dX11_span_4 : decode cX11_span 4 = .ok (.aload_n 0, 1) := by decide +kernel
theorem dX11_span_5 : decode cX11_span 5 = .ok (.iload_n 1, 1) := by decide +kernel
theorem dX11_span_6 : decode cX11_span 6 = .ok (.invokevirtual 303, 3) := by decide +kernel
theorem dX11_span_9 : decode cX11_span 9 = .ok (.ifCond .eq 15, 3) := by decide +kernel
theorem dX11_span_12 : decode cX11_span 12 = .ok (.aload_n 0, 1) := by decide +kernel
theorem dX11_span_13 : decode cX11_span 13 = .ok (.iload_n 2, 1) := by decide +kernel
theorem dX11_span_14 : decode cX11_span 14 = .ok (.invokevirtual 253, 3) := by decide +kernel
theorem dX11_span_17 : decode cX11_span 17 = .ok (.ifCond .eq 7, 3) := by decide +kernel
theorem dX11_span_20 : decode cX11_span 20 = .ok (.iload_n 3, 1) := by decide +kernel
theorem dX11_span_21 : decode cX11_span 21 = .ok (.ifCond .ge 9, 3) := by decide +kernel
theorem dX11_span_24 : decode cX11_span 24 = .ok (.aload_n 0, 1) := by decide +kernel
theorem dX11_span_25 : decode cX11_span 25 = .ok (.iconst 1, 1) := by decide +kernel
theorem dX11_span_26 : decode cX11_span 26 = .ok (.invokevirtual 159, 3) := by decide +kernel
theorem dX11_span_29 : decode cX11_span 29 = .ok (.ireturn, 1) := by decide +kernel
theorem dX11_span_30 : decode cX11_span 30 = .ok (.aload_n 0, 1) := by decide +kernel
theorem dX11_span_31 : decode cX11_span 31 = .ok (.iload_n 1, 1) := by decide +kernel
theorem dX11_span_32 : decode cX11_span 32 = .ok (.iload_n 2, 1) := by decide +kernel
theorem dX11_span_33 : decode cX11_span 33 = .ok (.iload_n 3, 1) := by decide +kernel
theorem dX11_span_34 : decode cX11_span 34 = .ok (.iload 4, 2) := by decide +kernel
theorem dX11_span_36 : decode cX11_span 36 = .ok (.invokevirtual 312, 3) := by decide +kernel
theorem dX11_span_39 : decode cX11_span 39 = .ok (.istore 5, 2) := by decide +kernel
theorem dX11_span_41 : decode cX11_span 41 = .ok (.iload 5, 2) := by decide +kernel
theorem dX11_span_43 : decode cX11_span 43 = .ok (.ifCond .ge 11, 3) := by decide +kernel
theorem dX11_span_46 : decode cX11_span 46 = .ok (.aload_n 0, 1) := by decide +kernel
theorem dX11_span_47 : decode cX11_span 47 = .ok (.iconst 1, 1) := by decide +kernel
theorem dX11_span_48 : decode cX11_span 48 = .ok (.invokevirtual 159, 3) := by decide +kernel
theorem dX11_span_51 : decode cX11_span 51 = .ok (.goto 5, 3) := by decide +kernel
theorem dX11_span_54 : decode cX11_span 54 = .ok (.iload 5, 2) := by decide +kernel
theorem dX11_span_56 : decode cX11_span 56 = .ok (.ireturn, 1) := by decide +kernel
theorem dX11_says_0 : decode cX11_says 0 = .ok (.aload_n 0, 1) := by decide +kernel
theorem dX11_says_1 : decode cX11_says 1 = .ok (.invokevirtual 156, 3) := by decide +kernel
theorem dX11_says_4 : decode cX11_says 4 = .ok (.aload_n 0, 1) := by decide +kernel
theorem dX11_says_5 : decode cX11_says 5 = .ok (.iload_n 1, 1) := by decide +kernel
theorem dX11_says_6 : decode cX11_says 6 = .ok (.iload_n 2, 1) := by decide +kernel
theorem dX11_says_7 : decode cX11_says 7 = .ok (.invokevirtual 276, 3) := by decide +kernel
theorem dX11_says_10 : decode cX11_says 10 = .ok (.istore_n 3, 1) := by decide +kernel
theorem dX11_says_11 : decode cX11_says 11 = .ok (.iload_n 3, 1) := by decide +kernel
theorem dX11_says_12 : decode cX11_says 12 = .ok (.ifCond .eq 9, 3) := by decide +kernel
theorem dX11_says_15 : decode cX11_says 15 = .ok (.aload_n 0, 1) := by decide +kernel
theorem dX11_says_16 : decode cX11_says 16 = .ok (.iload_n 3, 1) := by decide +kernel
theorem dX11_says_17 : decode cX11_says 17 = .ok (.invokevirtual 159, 3) := by decide +kernel
theorem dX11_says_20 : decode cX11_says 20 = .ok (.ireturn, 1) := by decide +kernel
theorem dX11_says_21 : decode cX11_says 21 = .ok (.iconst 0, 1) := by decide +kernel
theorem dX11_says_22 : decode cX11_says 22 = .ok (.istore 4, 2) := by decide +kernel
theorem dX11_says_24 : decode cX11_says 24 = .ok (.iconst 0, 1) := by decide +kernel
theorem dX11_says_25 : decode cX11_says 25 = .ok (.istore 5, 2) := by decide +kernel
theorem dX11_says_27 : decode cX11_says 27 = .ok (.iload 5, 2) := by decide +kernel
theorem dX11_says_29 : decode cX11_says 29 = .ok (.aload_n 0, 1) := by decide +kernel
theorem dX11_says_30 : decode cX11_says 30 = .ok (.getfield 20, 3) := by decide +kernel
theorem dX11_says_33 : decode cX11_says 33 = .ok (.iconst 5, 1) := by decide +kernel
theorem dX11_says_34 : decode cX11_says 34 = .ok (.iaload, 1) := by decide +kernel
theorem dX11_says_35 : decode cX11_says 35 = .ok (.if_icmp .ge 33, 3) := by decide +kernel
theorem dX11_says_38 : decode cX11_says 38 = .ok (.iload 4, 2) := by decide +kernel
theorem dX11_says_40 : decode cX11_says 40 = .ok (.aload_n 0, 1) := by decide +kernel
theorem dX11_says_41 : decode cX11_says 41 = .ok (.iload 5, 2) := by decide +kernel
theorem dX11_says_43 : decode cX11_says 43 = .ok (.iload_n 1, 1) := by decide +kernel
theorem dX11_says_44 : decode cX11_says 44 = .ok (.iload_n 2, 1) := by decide +kernel
theorem dX11_says_45 : decode cX11_says 45 = .ok (.invokevirtual 309, 3) := by decide +kernel
theorem dX11_says_48 : decode cX11_says 48 = .ok (.ifCond .le 10, 3) := by decide +kernel
theorem dX11_says_51 : decode cX11_says 51 = .ok (.iconst 1, 1) := by decide +kernel
theorem dX11_says_52 : decode cX11_says 52 = .ok (.iload 5, 2) := by decide +kernel
theorem dX11_says_54 : decode cX11_says 54 = .ok (.ishl, 1) := by decide +kernel
theorem dX11_says_55 : decode cX11_says 55 = .ok (.goto 4, 3) := by decide +kernel
theorem dX11_says_58 : decode cX11_says 58 = .ok (.iconst 0, 1) := by decide +kernel
theorem dX11_says_59 : decode cX11_says 59 = .ok (.ior, 1) := by decide +kernel
theorem dX11_says_60 : decode cX11_says 60 = .ok (.istore 4, 2) := by decide +kernel
theorem dX11_says_62 : decode cX11_says 62 = .ok (.iinc 5 1, 3) := by decide +kernel
theorem dX11_says_65 : decode cX11_says 65 = .ok (.goto (-38), 3) := by decide +kernel
theorem dX11_says_68 : decode cX11_says 68 = .ok (.iload 4, 2) := by decide +kernel
theorem dX11_says_70 : decode cX11_says 70 = .ok (.ireturn, 1) := by decide +kernel
theorem dX11_isKeptWith_0 : decode cX11_isKeptWith 0 = .ok (.aload_n 0, 1) := by decide +kernel
theorem dX11_isKeptWith_1 : decode cX11_isKeptWith 1 = .ok (.bipush 68, 2) := by decide +kernel
theorem dX11_isKeptWith_3 : decode cX11_isKeptWith 3 = .ok (.bipush 8, 2) := by decide +kernel
theorem dX11_isKeptWith_5 : decode cX11_isKeptWith 5 = .ok (.iload_n 1, 1) := by decide +kernel
theorem dX11_isKeptWith_6 : decode cX11_isKeptWith 6 = .ok (.imul, 1) := by decide +kernel
theorem dX11_isKeptWith_7 : decode cX11_isKeptWith 7 = .ok (.iadd, 1) := by decide +kernel
theorem dX11_isKeptWith_8 : decode cX11_isKeptWith 8 = .ok (.aload_n 0, 1) := by decide +kernel
theorem dX11_isKeptWith_9 : decode cX11_isKeptWith 9 = .ok (.getfield 20, 3) := by decide +kernel
theorem dX11_isKeptWith_12 : decode cX11_isKeptWith 12 = .ok (.bipush 64, 2) := by decide +kernel
theorem dX11_isKeptWith_14 : decode cX11_isKeptWith 14 = .ok (.iload_n 1, 1) := by decide +kernel
theorem dX11_isKeptWith_15 : decode cX11_isKeptWith 15 = .ok (.iadd, 1) := by decide +kernel
theorem dX11_isKeptWith_16 : decode cX11_isKeptWith 16 = .ok (.iaload, 1) := by decide +kernel
theorem dX11_isKeptWith_17 : decode cX11_isKeptWith 17 = .ok (.aload_n 0, 1) := by decide +kernel
theorem dX11_isKeptWith_18 : decode cX11_isKeptWith 18 = .ok (.getfield 20, 3) := by decide +kernel
theorem dX11_isKeptWith_21 : decode cX11_isKeptWith 21 = .ok (.bipush 100, 2) := by decide +kernel
theorem dX11_isKeptWith_23 : decode cX11_isKeptWith 23 = .ok (.iload_n 1, 1) := by decide +kernel
theorem dX11_isKeptWith_24 : decode cX11_isKeptWith 24 = .ok (.iadd, 1) := by decide +kernel
theorem dX11_isKeptWith_25 : decode cX11_isKeptWith 25 = .ok (.iaload, 1) := by decide +kernel
theorem dX11_isKeptWith_26 : decode cX11_isKeptWith 26 = .ok (.aload_n 0, 1) := by decide +kernel
theorem dX11_isKeptWith_27 : decode cX11_isKeptWith 27 = .ok (.getfield 20, 3) := by decide +kernel
theorem dX11_isKeptWith_30 : decode cX11_isKeptWith 30 = .ok (.bipush 104, 2) := by decide +kernel
theorem dX11_isKeptWith_32 : decode cX11_isKeptWith 32 = .ok (.iload_n 1, 1) := by decide +kernel
theorem dX11_isKeptWith_33 : decode cX11_isKeptWith 33 = .ok (.iadd, 1) := by decide +kernel
theorem dX11_isKeptWith_34 : decode cX11_isKeptWith 34 = .ok (.iaload, 1) := by decide +kernel
theorem dX11_isKeptWith_35 : decode cX11_isKeptWith 35 = .ok (.iload_n 2, 1) := by decide +kernel
theorem dX11_isKeptWith_36 : decode cX11_isKeptWith 36 = .ok (.invokevirtual 299, 3) := by decide +kernel
theorem dX11_isKeptWith_39 : decode cX11_isKeptWith 39 = .ok (.ifCond .le 7, 3) := by decide +kernel
theorem dX11_isKeptWith_42 : decode cX11_isKeptWith 42 = .ok (.iconst 1, 1) := by decide +kernel
theorem dX11_isKeptWith_43 : decode cX11_isKeptWith 43 = .ok (.goto 4, 3) := by decide +kernel
theorem dX11_isKeptWith_46 : decode cX11_isKeptWith 46 = .ok (.iconst 0, 1) := by decide +kernel
theorem dX11_isKeptWith_47 : decode cX11_isKeptWith 47 = .ok (.ireturn, 1) := by decide +kernel
theorem dX11_keptWith_0 : decode cX11_keptWith 0 = .ok (.iconst 0, 1) := by decide +kernel
theorem dX11_keptWith_1 : decode cX11_keptWith 1 = .ok (.istore_n 2, 1) := by decide +kernel
theorem dX11_keptWith_2 : decode cX11_keptWith 2 = .ok (.iconst 0, 1) := by decide +kernel
theorem dX11_keptWith_3 : decode cX11_keptWith 3 = .ok (.istore_n 3, 1) := by decide +kernel
theorem dX11_keptWith_4 : decode cX11_keptWith 4 = .ok (.iload_n 3, 1) := by decide +kernel
theorem dX11_keptWith_5 : decode cX11_keptWith 5 = .ok (.aload_n 0, 1) := by decide +kernel
theorem dX11_keptWith_6 : decode cX11_keptWith 6 = .ok (.getfield 20, 3) := by decide +kernel
theorem dX11_keptWith_9 : decode cX11_keptWith 9 = .ok (.bipush 6, 2) := by decide +kernel
theorem dX11_keptWith_11 : decode cX11_keptWith 11 = .ok (.iaload, 1) := by decide +kernel
theorem dX11_keptWith_12 : decode cX11_keptWith 12 = .ok (.if_icmp .ge 28, 3) := by decide +kernel
theorem dX11_keptWith_15 : decode cX11_keptWith 15 = .ok (.iload_n 2, 1) := by decide +kernel
theorem dX11_keptWith_16 : decode cX11_keptWith 16 = .ok (.aload_n 0, 1) := by decide +kernel
theorem dX11_keptWith_17 : decode cX11_keptWith 17 = .ok (.iload_n 3, 1) := by decide +kernel
theorem dX11_keptWith_18 : decode cX11_keptWith 18 = .ok (.iload_n 1, 1) := by decide +kernel
theorem dX11_keptWith_19 : decode cX11_keptWith 19 = .ok (.invokevirtual 316, 3) := by decide +kernel
theorem dX11_keptWith_22 : decode cX11_keptWith 22 = .ok (.ifCond .eq 9, 3) := by decide +kernel
theorem dX11_keptWith_25 : decode cX11_keptWith 25 = .ok (.iconst 1, 1) := by decide +kernel
theorem dX11_keptWith_26 : decode cX11_keptWith 26 = .ok (.iload_n 3, 1) := by decide +kernel
theorem dX11_keptWith_27 : decode cX11_keptWith 27 = .ok (.ishl, 1) := by decide +kernel
theorem dX11_keptWith_28 : decode cX11_keptWith 28 = .ok (.goto 4, 3) := by decide +kernel
theorem dX11_keptWith_31 : decode cX11_keptWith 31 = .ok (.iconst 0, 1) := by decide +kernel
theorem dX11_keptWith_32 : decode cX11_keptWith 32 = .ok (.ior, 1) := by decide +kernel
theorem dX11_keptWith_33 : decode cX11_keptWith 33 = .ok (.istore_n 2, 1) := by decide +kernel
theorem dX11_keptWith_34 : decode cX11_keptWith 34 = .ok (.iinc 3 1, 3) := by decide +kernel
theorem dX11_keptWith_37 : decode cX11_keptWith 37 = .ok (.goto (-33), 3) := by decide +kernel
theorem dX11_keptWith_40 : decode cX11_keptWith 40 = .ok (.iload_n 2, 1) := by decide +kernel
theorem dX11_keptWith_41 : decode cX11_keptWith 41 = .ok (.ireturn, 1) := by decide +kernel
theorem dX11_kept_0 : decode cX11_kept 0 = .ok (.aload_n 0, 1) := by decide +kernel
theorem dX11_kept_1 : decode cX11_kept 1 = .ok (.invokevirtual 156, 3) := by decide +kernel
theorem dX11_kept_4 : decode cX11_kept 4 = .ok (.aload_n 0, 1) := by decide +kernel
theorem dX11_kept_5 : decode cX11_kept 5 = .ok (.iload_n 1, 1) := by decide +kernel
theorem dX11_kept_6 : decode cX11_kept 6 = .ok (.invokevirtual 319, 3) := by decide +kernel
theorem dX11_kept_9 : decode cX11_kept 9 = .ok (.ifCond .eq 26, 3) := by decide +kernel
theorem dX11_kept_12 : decode cX11_kept 12 = .ok (.aload_n 0, 1) := by decide +kernel
theorem dX11_kept_13 : decode cX11_kept 13 = .ok (.iload_n 1, 1) := by decide +kernel
theorem dX11_kept_14 : decode cX11_kept 14 = .ok (.aload_n 0, 1) := by decide +kernel
theorem dX11_kept_15 : decode cX11_kept 15 = .ok (.getfield 26, 3) := by decide +kernel
theorem dX11_kept_18 : decode cX11_kept 18 = .ok (.bipush 60, 2) := by decide +kernel
theorem dX11_kept_20 : decode cX11_kept 20 = .ok (.iaload, 1) := by decide +kernel
theorem dX11_kept_21 : decode cX11_kept 21 = .ok (.invokevirtual 316, 3) := by decide +kernel
theorem dX11_kept_24 : decode cX11_kept 24 = .ok (.ifCond .eq 7, 3) := by decide +kernel
theorem dX11_kept_27 : decode cX11_kept 27 = .ok (.iconst 1, 1) := by decide +kernel
theorem dX11_kept_28 : decode cX11_kept 28 = .ok (.goto 12, 3) := by decide +kernel
theorem dX11_kept_31 : decode cX11_kept 31 = .ok (.iconst 0, 1) := by decide +kernel
theorem dX11_kept_32 : decode cX11_kept 32 = .ok (.goto 8, 3) := by decide +kernel
theorem dX11_kept_35 : decode cX11_kept 35 = .ok (.aload_n 0, 1) := by decide +kernel
theorem dX11_kept_36 : decode cX11_kept 36 = .ok (.iconst 1, 1) := by decide +kernel
theorem dX11_kept_37 : decode cX11_kept 37 = .ok (.invokevirtual 159, 3) := by decide +kernel
theorem dX11_kept_40 : decode cX11_kept 40 = .ok (.ireturn, 1) := by decide +kernel
theorem dX11_allKept_0 : decode cX11_allKept 0 = .ok (.aload_n 0, 1) := by decide +kernel
theorem dX11_allKept_1 : decode cX11_allKept 1 = .ok (.invokevirtual 156, 3) := by decide +kernel
theorem dX11_allKept_4 : decode cX11_allKept 4 = .ok (.aload_n 0, 1) := by decide +kernel
theorem dX11_allKept_5 : decode cX11_allKept 5 = .ok (.getfield 169, 3) := by decide +kernel
theorem dX11_allKept_8 : decode cX11_allKept 8 = .ok (.ifCond .eq 17, 3) := by decide +kernel
theorem dX11_allKept_11 : decode cX11_allKept 11 = .ok (.aload_n 0, 1) := by decide +kernel
theorem dX11_allKept_12 : decode cX11_allKept 12 = .ok (.aload_n 0, 1) := by decide +kernel
theorem dX11_allKept_13 : decode cX11_allKept 13 = .ok (.getfield 26, 3) := by decide +kernel
theorem dX11_allKept_16 : decode cX11_allKept 16 = .ok (.bipush 60, 2) := by decide +kernel
theorem dX11_allKept_18 : decode cX11_allKept 18 = .ok (.iaload, 1) := by decide +kernel
theorem dX11_allKept_19 : decode cX11_allKept 19 = .ok (.invokevirtual 322, 3) := by decide +kernel
theorem dX11_allKept_22 : decode cX11_allKept 22 = .ok (.goto 8, 3) := by decide +kernel
theorem dX11_allKept_25 : decode cX11_allKept 25 = .ok (.aload_n 0, 1) := by decide +kernel
theorem dX11_allKept_26 : decode cX11_allKept 26 = .ok (.iconst 1, 1) := by decide +kernel
theorem dX11_allKept_27 : decode cX11_allKept 27 = .ok (.invokevirtual 159, 3) := by decide +kernel
theorem dX11_allKept_30 : decode cX11_allKept 30 = .ok (.ireturn, 1) := by decide +kernel
theorem dX11_isWished_0 : decode cX11_isWished 0 = .ok (.iconst 0, 1) := by decide +kernel
theorem dX11_isWished_1 : decode cX11_isWished 1 = .ok (.istore 4, 2) := by decide +kernel
theorem dX11_isWished_3 : decode cX11_isWished 3 = .ok (.iload 4, 2) := by decide +kernel
theorem dX11_isWished_5 : decode cX11_isWished 5 = .ok (.aload_n 0, 1) := by decide +kernel
theorem dX11_isWished_6 : decode cX11_isWished 6 = .ok (.getfield 20, 3) := by decide +kernel
theorem dX11_isWished_9 : decode cX11_isWished 9 = .ok (.bipush 6, 2) := by decide +kernel
theorem dX11_isWished_11 : decode cX11_isWished 11 = .ok (.iaload, 1) := by decide +kernel
theorem dX11_isWished_12 : decode cX11_isWished 12 = .ok (.if_icmp .ge 142, 3) := by decide +kernel
theorem dX11_isWished_15 : decode cX11_isWished 15 = .ok (.aload_n 0, 1) := by decide +kernel
theorem dX11_isWished_16 : decode cX11_isWished 16 = .ok (.getfield 20, 3) := by decide +kernel
theorem dX11_isWished_19 : decode cX11_isWished 19 = .ok (.bipush 64, 2) := by decide +kernel
theorem dX11_isWished_21 : decode cX11_isWished 21 = .ok (.iload 4, 2) := by decide +kernel
theorem dX11_isWished_23 : decode cX11_isWished 23 = .ok (.iadd, 1) := by decide +kernel
theorem dX11_isWished_24 : decode cX11_isWished 24 = .ok (.iaload, 1) := by decide +kernel
theorem dX11_isWished_25 : decode cX11_isWished 25 = .ok (.aload_n 0, 1) := by decide +kernel
theorem dX11_isWished_26 : decode cX11_isWished 26 = .ok (.getfield 20, 3) := by decide +kernel
theorem dX11_isWished_29 : decode cX11_isWished 29 = .ok (.bipush 10, 2) := by decide +kernel
theorem dX11_isWished_31 : decode cX11_isWished 31 = .ok (.iload_n 1, 1) := by decide +kernel
theorem dX11_isWished_32 : decode cX11_isWished 32 = .ok (.iadd, 1) := by decide +kernel
theorem dX11_isWished_33 : decode cX11_isWished 33 = .ok (.iaload, 1) := by decide +kernel
theorem dX11_isWished_34 : decode cX11_isWished 34 = .ok (.if_icmp .ne 35, 3) := by decide +kernel
theorem dX11_isWished_37 : decode cX11_isWished 37 = .ok (.aload_n 0, 1) := by decide +kernel
theorem dX11_isWished_38 : decode cX11_isWished 38 = .ok (.getfield 20, 3) := by decide +kernel
theorem dX11_isWished_41 : decode cX11_isWished 41 = .ok (.bipush 100, 2) := by decide +kernel
theorem dX11_isWished_43 : decode cX11_isWished 43 = .ok (.iload 4, 2) := by decide +kernel
theorem dX11_isWished_45 : decode cX11_isWished 45 = .ok (.iadd, 1) := by decide +kernel
theorem dX11_isWished_46 : decode cX11_isWished 46 = .ok (.iaload, 1) := by decide +kernel
theorem dX11_isWished_47 : decode cX11_isWished 47 = .ok (.iload_n 2, 1) := by decide +kernel
theorem dX11_isWished_48 : decode cX11_isWished 48 = .ok (.if_icmp .ne 21, 3) := by decide +kernel
theorem dX11_isWished_51 : decode cX11_isWished 51 = .ok (.aload_n 0, 1) := by decide +kernel
theorem dX11_isWished_52 : decode cX11_isWished 52 = .ok (.getfield 20, 3) := by decide +kernel
theorem dX11_isWished_55 : decode cX11_isWished 55 = .ok (.bipush 104, 2) := by decide +kernel
theorem dX11_isWished_57 : decode cX11_isWished 57 = .ok (.iload 4, 2) := by decide +kernel
theorem dX11_isWished_59 : decode cX11_isWished 59 = .ok (.iadd, 1) := by decide +kernel
theorem dX11_isWished_60 : decode cX11_isWished 60 = .ok (.iaload, 1) := by decide +kernel
theorem dX11_isWished_61 : decode cX11_isWished 61 = .ok (.iload_n 3, 1) := by decide +kernel
theorem dX11_isWished_62 : decode cX11_isWished 62 = .ok (.if_icmp .ne 7, 3) := by decide +kernel
theorem dX11_isWished_65 : decode cX11_isWished 65 = .ok (.iconst 1, 1) := by decide +kernel
theorem dX11_isWished_66 : decode cX11_isWished 66 = .ok (.goto 4, 3) := by decide +kernel
theorem dX11_isWished_69 : decode cX11_isWished 69 = .ok (.iconst 0, 1) := by decide +kernel
theorem dX11_isWished_70 : decode cX11_isWished 70 = .ok (.istore 5, 2) := by decide +kernel
theorem dX11_isWished_72 : decode cX11_isWished 72 = .ok (.iconst 0, 1) := by decide +kernel
theorem dX11_isWished_73 : decode cX11_isWished 73 = .ok (.istore 6, 2) := by decide +kernel
theorem dX11_isWished_75 : decode cX11_isWished 75 = .ok (.iload 6, 2) := by decide +kernel
theorem dX11_isWished_77 : decode cX11_isWished 77 = .ok (.aload_n 0, 1) := by decide +kernel
theorem dX11_isWished_78 : decode cX11_isWished 78 = .ok (.getfield 20, 3) := by decide +kernel
theorem dX11_isWished_81 : decode cX11_isWished 81 = .ok (.bipush 10, 2) := by decide +kernel
theorem dX11_isWished_83 : decode cX11_isWished 83 = .ok (.iload_n 1, 1) := by decide +kernel
theorem dX11_isWished_84 : decode cX11_isWished 84 = .ok (.iadd, 1) := by decide +kernel
theorem dX11_isWished_85 : decode cX11_isWished 85 = .ok (.iaload, 1) := by decide +kernel
theorem dX11_isWished_86 : decode cX11_isWished 86 = .ok (.if_icmp .ge 55, 3) := by decide +kernel
theorem dX11_isWished_89 : decode cX11_isWished 89 = .ok (.iload 5, 2) := by decide +kernel
theorem dX11_isWished_91 : decode cX11_isWished 91 = .ok (.ifCond .eq 50, 3) := by decide +kernel
theorem dX11_isWished_94 : decode cX11_isWished 94 = .ok (.aload_n 0, 1) := by decide +kernel
theorem dX11_isWished_95 : decode cX11_isWished 95 = .ok (.getfield 20, 3) := by decide +kernel
theorem dX11_isWished_98 : decode cX11_isWished 98 = .ok (.bipush 68, 2) := by decide +kernel
theorem dX11_isWished_100 : decode cX11_isWished 100 = .ok (.bipush 8, 2) := by decide +kernel
theorem dX11_isWished_102 : decode cX11_isWished 102 = .ok (.iload 4, 2) := by decide +kernel
theorem dX11_isWished_104 : decode cX11_isWished 104 = .ok (.imul, 1) := by decide +kernel
theorem dX11_isWished_105 : decode cX11_isWished 105 = .ok (.iadd, 1) := by decide +kernel
theorem dX11_isWished_106 : decode cX11_isWished 106 = .ok (.iload 6, 2) := by decide +kernel
theorem dX11_isWished_108 : decode cX11_isWished 108 = .ok (.iadd, 1) := by decide +kernel
theorem dX11_isWished_109 : decode cX11_isWished 109 = .ok (.iaload, 1) := by decide +kernel
theorem dX11_isWished_110 : decode cX11_isWished 110 = .ok (.aload_n 0, 1) := by decide +kernel
theorem dX11_isWished_111 : decode cX11_isWished 111 = .ok (.getfield 20, 3) := by decide +kernel
theorem dX11_isWished_114 : decode cX11_isWished 114 = .ok (.bipush 16, 2) := by decide +kernel
theorem dX11_isWished_116 : decode cX11_isWished 116 = .ok (.bipush 8, 2) := by decide +kernel
theorem dX11_isWished_118 : decode cX11_isWished 118 = .ok (.iload_n 1, 1) := by decide +kernel
theorem dX11_isWished_119 : decode cX11_isWished 119 = .ok (.imul, 1) := by decide +kernel
theorem dX11_isWished_120 : decode cX11_isWished 120 = .ok (.iadd, 1) := by decide +kernel
theorem dX11_isWished_121 : decode cX11_isWished 121 = .ok (.iload 6, 2) := by decide +kernel
theorem dX11_isWished_123 : decode cX11_isWished 123 = .ok (.iadd, 1) := by decide +kernel
theorem dX11_isWished_124 : decode cX11_isWished 124 = .ok (.iaload, 1) := by decide +kernel
theorem dX11_isWished_125 : decode cX11_isWished 125 = .ok (.if_icmp .ne 7, 3) := by decide +kernel
theorem dX11_isWished_128 : decode cX11_isWished 128 = .ok (.iconst 1, 1) := by decide +kernel
theorem dX11_isWished_129 : decode cX11_isWished 129 = .ok (.goto 4, 3) := by decide +kernel
theorem dX11_isWished_132 : decode cX11_isWished 132 = .ok (.iconst 0, 1) := by decide +kernel
theorem dX11_isWished_133 : decode cX11_isWished 133 = .ok (.istore 5, 2) := by decide +kernel
theorem dX11_isWished_135 : decode cX11_isWished 135 = .ok (.iinc 6 1, 3) := by decide +kernel
theorem dX11_isWished_138 : decode cX11_isWished 138 = .ok (.goto (-63), 3) := by decide +kernel
theorem dX11_isWished_141 : decode cX11_isWished 141 = .ok (.iload 5, 2) := by decide +kernel
theorem dX11_isWished_143 : decode cX11_isWished 143 = .ok (.ifCond .eq 5, 3) := by decide +kernel
theorem dX11_isWished_146 : decode cX11_isWished 146 = .ok (.iconst 1, 1) := by decide +kernel
theorem dX11_isWished_147 : decode cX11_isWished 147 = .ok (.ireturn, 1) := by decide +kernel
theorem dX11_isWished_148 : decode cX11_isWished 148 = .ok (.iinc 4 1, 3) := by decide +kernel
theorem dX11_isWished_151 : decode cX11_isWished 151 = .ok (.goto (-148), 3) := by decide +kernel
theorem dX11_isWished_154 : decode cX11_isWished 154 = .ok (.iconst 0, 1) := by decide +kernel
theorem dX11_isWished_155 : decode cX11_isWished 155 = .ok (.ireturn, 1) := by decide +kernel
theorem dX11_mistakeAt_0 : decode cX11_mistakeAt 0 = .ok (.iconst 0, 1) := by decide +kernel
theorem dX11_mistakeAt_1 : decode cX11_mistakeAt 1 = .ok (.istore_n 2, 1) := by decide +kernel
theorem dX11_mistakeAt_2 : decode cX11_mistakeAt 2 = .ok (.iconst 0, 1) := by decide +kernel
theorem dX11_mistakeAt_3 : decode cX11_mistakeAt 3 = .ok (.istore_n 3, 1) := by decide +kernel
theorem dX11_mistakeAt_4 : decode cX11_mistakeAt 4 = .ok (.iload_n 3, 1) := by decide +kernel
theorem dX11_mistakeAt_5 : decode cX11_mistakeAt 5 = .ok (.aload_n 0, 1) := by decide +kernel
theorem dX11_mistakeAt_6 : decode cX11_mistakeAt 6 = .ok (.getfield 20, 3) := by decide +kernel
theorem dX11_mistakeAt_9 : decode cX11_mistakeAt 9 = .ok (.invokestatic 178, 3) := by decide +kernel
theorem dX11_mistakeAt_12 : decode cX11_mistakeAt 12 = .ok (.if_icmp .gt 93, 3) := by decide +kernel
theorem dX11_mistakeAt_15 : decode cX11_mistakeAt 15 = .ok (.iconst 0, 1) := by decide +kernel
theorem dX11_mistakeAt_16 : decode cX11_mistakeAt 16 = .ok (.istore 4, 2) := by decide +kernel
theorem dX11_mistakeAt_18 : decode cX11_mistakeAt 18 = .ok (.iload 4, 2) := by decide +kernel
theorem dX11_mistakeAt_20 : decode cX11_mistakeAt 20 = .ok (.iconst 2, 1) := by decide +kernel
theorem dX11_mistakeAt_21 : decode cX11_mistakeAt 21 = .ok (.if_icmp .ge 78, 3) := by decide +kernel
theorem dX11_mistakeAt_24 : decode cX11_mistakeAt 24 = .ok (.iconst 0, 1) := by decide +kernel
theorem dX11_mistakeAt_25 : decode cX11_mistakeAt 25 = .ok (.istore 5, 2) := by decide +kernel
theorem dX11_mistakeAt_27 : decode cX11_mistakeAt 27 = .ok (.iload 5, 2) := by decide +kernel
theorem dX11_mistakeAt_29 : decode cX11_mistakeAt 29 = .ok (.aload_n 0, 1) := by decide +kernel
theorem dX11_mistakeAt_30 : decode cX11_mistakeAt 30 = .ok (.getfield 20, 3) := by decide +kernel
theorem dX11_mistakeAt_33 : decode cX11_mistakeAt 33 = .ok (.iconst 5, 1) := by decide +kernel
theorem dX11_mistakeAt_34 : decode cX11_mistakeAt 34 = .ok (.iaload, 1) := by decide +kernel
theorem dX11_mistakeAt_35 : decode cX11_mistakeAt 35 = .ok (.if_icmp .ge 58, 3) := by decide +kernel
theorem dX11_mistakeAt_38 : decode cX11_mistakeAt 38 = .ok (.aload_n 0, 1) := by decide +kernel
theorem dX11_mistakeAt_39 : decode cX11_mistakeAt 39 = .ok (.iload 5, 2) := by decide +kernel
theorem dX11_mistakeAt_41 : decode cX11_mistakeAt 41 = .ok (.iload 4, 2) := by decide +kernel
theorem dX11_mistakeAt_43 : decode cX11_mistakeAt 43 = .ok (.iload_n 3, 1) := by decide +kernel
theorem dX11_mistakeAt_44 : decode cX11_mistakeAt 44 = .ok (.invokevirtual 309, 3) := by decide +kernel
theorem dX11_mistakeAt_47 : decode cX11_mistakeAt 47 = .ok (.ifCond .eq 40, 3) := by decide +kernel
theorem dX11_mistakeAt_50 : decode cX11_mistakeAt 50 = .ok (.aload_n 0, 1) := by decide +kernel
theorem dX11_mistakeAt_51 : decode cX11_mistakeAt 51 = .ok (.iload 5, 2) := by decide +kernel
theorem dX11_mistakeAt_53 : decode cX11_mistakeAt 53 = .ok (.iload 4, 2) := by decide +kernel
theorem dX11_mistakeAt_55 : decode cX11_mistakeAt 55 = .ok (.iload_n 3, 1) := by decide +kernel
theorem dX11_mistakeAt_56 : decode cX11_mistakeAt 56 = .ok (.invokevirtual 325, 3) := by decide +kernel
theorem dX11_mistakeAt_59 : decode cX11_mistakeAt 59 = .ok (.ifCond .eq 6, 3) := by decide +kernel
theorem dX11_mistakeAt_62 : decode cX11_mistakeAt 62 = .ok (.goto 25, 3) := by decide +kernel
theorem dX11_mistakeAt_65 : decode cX11_mistakeAt 65 = .ok (.iload_n 2, 1) := by decide +kernel
theorem dX11_mistakeAt_66 : decode cX11_mistakeAt 66 = .ok (.iload_n 1, 1) := by decide +kernel
theorem dX11_mistakeAt_67 : decode cX11_mistakeAt 67 = .ok (.if_icmp .ne 17, 3) := by decide +kernel
theorem dX11_mistakeAt_70 : decode cX11_mistakeAt 70 = .ok (.bipush 100, 2) := by decide +kernel
theorem dX11_mistakeAt_72 : decode cX11_mistakeAt 72 = .ok (.iload 5, 2) := by decide +kernel
theorem dX11_mistakeAt_74 : decode cX11_mistakeAt 74 = .ok (.imul, 1) := by decide +kernel
theorem dX11_mistakeAt_75 : decode cX11_mistakeAt 75 = .ok (.bipush 50, 2) := by decide +kernel
theorem dX11_mistakeAt_77 : decode cX11_mistakeAt 77 = .ok (.iload 4, 2) := by decide +kernel
theorem dX11_mistakeAt_79 : decode cX11_mistakeAt 79 = .ok (.imul, 1) := by decide +kernel
theorem dX11_mistakeAt_80 : decode cX11_mistakeAt 80 = .ok (.iadd, 1) := by decide +kernel
theorem dX11_mistakeAt_81 : decode cX11_mistakeAt 81 = .ok (.iload_n 3, 1) := by decide +kernel
theorem dX11_mistakeAt_82 : decode cX11_mistakeAt 82 = .ok (.iadd, 1) := by decide +kernel
theorem dX11_mistakeAt_83 : decode cX11_mistakeAt 83 = .ok (.ireturn, 1) := by decide +kernel
theorem dX11_mistakeAt_84 : decode cX11_mistakeAt 84 = .ok (.iinc 2 1, 3) := by decide +kernel
theorem dX11_mistakeAt_87 : decode cX11_mistakeAt 87 = .ok (.iinc 5 1, 3) := by decide +kernel
theorem dX11_mistakeAt_90 : decode cX11_mistakeAt 90 = .ok (.goto (-63), 3) := by decide +kernel
theorem dX11_mistakeAt_93 : decode cX11_mistakeAt 93 = .ok (.iinc 4 1, 3) := by decide +kernel
theorem dX11_mistakeAt_96 : decode cX11_mistakeAt 96 = .ok (.goto (-78), 3) := by decide +kernel
theorem dX11_mistakeAt_99 : decode cX11_mistakeAt 99 = .ok (.iinc 3 1, 3) := by decide +kernel
theorem dX11_mistakeAt_102 : decode cX11_mistakeAt 102 = .ok (.goto (-98), 3) := by decide +kernel
theorem dX11_mistakeAt_105 : decode cX11_mistakeAt 105 = .ok (.iload_n 2, 1) := by decide +kernel
theorem dX11_mistakeAt_106 : decode cX11_mistakeAt 106 = .ok (.ldc_w 328, 3) := by decide +kernel
theorem dX11_mistakeAt_109 : decode cX11_mistakeAt 109 = .ok (.isub, 1) := by decide +kernel
theorem dX11_mistakeAt_110 : decode cX11_mistakeAt 110 = .ok (.ireturn, 1) := by decide +kernel
theorem dX11_mistakes_0 : decode cX11_mistakes 0 = .ok (.aload_n 0, 1) := by decide +kernel
theorem dX11_mistakes_1 : decode cX11_mistakes 1 = .ok (.invokevirtual 156, 3) := by decide +kernel
theorem dX11_mistakes_4 : decode cX11_mistakes 4 = .ok (.aload_n 0, 1) := by decide +kernel
theorem dX11_mistakes_5 : decode cX11_mistakes 5 = .ok (.getfield 169, 3) := by decide +kernel
theorem dX11_mistakes_8 : decode cX11_mistakes 8 = .ok (.ifCond .eq 15, 3) := by decide +kernel
theorem dX11_mistakes_11 : decode cX11_mistakes 11 = .ok (.aload_n 0, 1) := by decide +kernel
theorem dX11_mistakes_12 : decode cX11_mistakes 12 = .ok (.iconst (-1), 1) := by decide +kernel
theorem dX11_mistakes_13 : decode cX11_mistakes 13 = .ok (.invokevirtual 329, 3) := by decide +kernel
theorem dX11_mistakes_16 : decode cX11_mistakes 16 = .ok (.ldc_w 328, 3) := by decide +kernel
theorem dX11_mistakes_19 : decode cX11_mistakes 19 = .ok (.iadd, 1) := by decide +kernel
theorem dX11_mistakes_20 : decode cX11_mistakes 20 = .ok (.goto 8, 3) := by decide +kernel
theorem dX11_mistakes_23 : decode cX11_mistakes 23 = .ok (.aload_n 0, 1) := by decide +kernel
theorem dX11_mistakes_24 : decode cX11_mistakes 24 = .ok (.iconst 1, 1) := by decide +kernel
theorem dX11_mistakes_25 : decode cX11_mistakes 25 = .ok (.invokevirtual 159, 3) := by decide +kernel
theorem dX11_mistakes_28 : decode cX11_mistakes 28 = .ok (.ireturn, 1) := by decide +kernel
theorem dX11_mistake_0 : decode cX11_mistake 0 = .ok (.aload_n 0, 1) := by decide +kernel
theorem dX11_mistake_1 : decode cX11_mistake 1 = .ok (.invokevirtual 156, 3) := by decide +kernel
theorem dX11_mistake_4 : decode cX11_mistake 4 = .ok (.aload_n 0, 1) := by decide +kernel
theorem dX11_mistake_5 : decode cX11_mistake 5 = .ok (.getfield 169, 3) := by decide +kernel
theorem dX11_mistake_8 : decode cX11_mistake 8 = .ok (.ifCond .eq 15, 3) := by decide +kernel
theorem dX11_mistake_11 : decode cX11_mistake 11 = .ok (.iload_n 1, 1) := by decide +kernel
theorem dX11_mistake_12 : decode cX11_mistake 12 = .ok (.ifCond .lt 11, 3) := by decide +kernel
theorem dX11_mistake_15 : decode cX11_mistake 15 = .ok (.aload_n 0, 1) := by decide +kernel
theorem dX11_mistake_16 : decode cX11_mistake 16 = .ok (.iload_n 1, 1) := by decide +kernel
theorem dX11_mistake_17 : decode cX11_mistake 17 = .ok (.invokevirtual 329, 3) := by decide +kernel
theorem dX11_mistake_20 : decode cX11_mistake 20 = .ok (.goto 4, 3) := by decide +kernel
theorem dX11_mistake_23 : decode cX11_mistake 23 = .ok (.iconst (-1), 1) := by decide +kernel
theorem dX11_mistake_24 : decode cX11_mistake 24 = .ok (.istore_n 2, 1) := by decide +kernel
theorem dX11_mistake_25 : decode cX11_mistake 25 = .ok (.iload_n 2, 1) := by decide +kernel
theorem dX11_mistake_26 : decode cX11_mistake 26 = .ok (.ifCond .ge 11, 3) := by decide +kernel
theorem dX11_mistake_29 : decode cX11_mistake 29 = .ok (.aload_n 0, 1) := by decide +kernel
theorem dX11_mistake_30 : decode cX11_mistake 30 = .ok (.iconst 1, 1) := by decide +kernel
theorem dX11_mistake_31 : decode cX11_mistake 31 = .ok (.invokevirtual 159, 3) := by decide +kernel
theorem dX11_mistake_34 : decode cX11_mistake 34 = .ok (.goto 4, 3) := by decide +kernel
theorem dX11_mistake_37 : decode cX11_mistake 37 = .ok (.iload_n 2, 1) := by decide +kernel
theorem dX11_mistake_38 : decode cX11_mistake 38 = .ok (.ireturn, 1) := by decide +kernel
theorem dX11_isWhole_0 : decode cX11_isWhole 0 = .ok (.iconst 1, 1) := by decide +kernel
theorem dX11_isWhole_1 : decode cX11_isWhole 1 = .ok (.istore_n 2, 1) := by decide +kernel
theorem dX11_isWhole_2 : decode cX11_isWhole 2 = .ok (.iconst 0, 1) := by decide +kernel
theorem dX11_isWhole_3 : decode cX11_isWhole 3 = .ok (.istore_n 3, 1) := by decide +kernel
theorem dX11_isWhole_4 : decode cX11_isWhole 4 = .ok (.iload_n 3, 1) := by decide +kernel
theorem dX11_isWhole_5 : decode cX11_isWhole 5 = .ok (.aload_n 0, 1) := by decide +kernel
theorem dX11_isWhole_6 : decode cX11_isWhole 6 = .ok (.getfield 20, 3) := by decide +kernel
theorem dX11_isWhole_9 : decode cX11_isWhole 9 = .ok (.bipush 64, 2) := by decide +kernel
theorem dX11_isWhole_11 : decode cX11_isWhole 11 = .ok (.iload_n 1, 1) := by decide +kernel
theorem dX11_isWhole_12 : decode cX11_isWhole 12 = .ok (.iadd, 1) := by decide +kernel
theorem dX11_isWhole_13 : decode cX11_isWhole 13 = .ok (.iaload, 1) := by decide +kernel
theorem dX11_isWhole_14 : decode cX11_isWhole 14 = .ok (.if_icmp .ge 38, 3) := by decide +kernel
theorem dX11_isWhole_17 : decode cX11_isWhole 17 = .ok (.iload_n 2, 1) := by decide +kernel
theorem dX11_isWhole_18 : decode cX11_isWhole 18 = .ok (.ifCond .eq 26, 3) := by decide +kernel
theorem dX11_isWhole_21 : decode cX11_isWhole 21 = .ok (.aload_n 0, 1) := by decide +kernel
theorem dX11_isWhole_22 : decode cX11_isWhole 22 = .ok (.getfield 20, 3) := by decide +kernel
theorem dX11_isWhole_25 : decode cX11_isWhole 25 = .ok (.bipush 68, 2) := by decide +kernel
theorem dX11_isWhole_27 : decode cX11_isWhole 27 = .ok (.bipush 8, 2) := by decide +kernel
theorem dX11_isWhole_29 : decode cX11_isWhole 29 = .ok (.iload_n 1, 1) := by decide +kernel
theorem dX11_isWhole_30 : decode cX11_isWhole 30 = .ok (.imul, 1) := by decide +kernel
theorem dX11_isWhole_31 : decode cX11_isWhole 31 = .ok (.iadd, 1) := by decide +kernel
theorem dX11_isWhole_32 : decode cX11_isWhole 32 = .ok (.iload_n 3, 1) := by decide +kernel
theorem dX11_isWhole_33 : decode cX11_isWhole 33 = .ok (.iadd, 1) := by decide +kernel
theorem dX11_isWhole_34 : decode cX11_isWhole 34 = .ok (.iaload, 1) := by decide +kernel
theorem dX11_isWhole_35 : decode cX11_isWhole 35 = .ok (.bipush 25, 2) := by decide +kernel
theorem dX11_isWhole_37 : decode cX11_isWhole 37 = .ok (.if_icmp .eq 7, 3) := by decide +kernel
theorem dX11_isWhole_40 : decode cX11_isWhole 40 = .ok (.iconst 1, 1) := by decide +kernel
theorem dX11_isWhole_41 : decode cX11_isWhole 41 = .ok (.goto 4, 3) := by decide +kernel
theorem dX11_isWhole_44 : decode cX11_isWhole 44 = .ok (.iconst 0, 1) := by decide +kernel
theorem dX11_isWhole_45 : decode cX11_isWhole 45 = .ok (.istore_n 2, 1) := by decide +kernel
theorem dX11_isWhole_46 : decode cX11_isWhole 46 = .ok (.iinc 3 1, 3) := by decide +kernel
theorem dX11_isWhole_49 : decode cX11_isWhole 49 = .ok (.goto (-45), 3) := by decide +kernel
theorem dX11_isWhole_52 : decode cX11_isWhole 52 = .ok (.iload_n 2, 1) := by decide +kernel
theorem dX11_isWhole_53 : decode cX11_isWhole 53 = .ok (.ireturn, 1) := by decide +kernel
theorem dX11_mendOf_0 : decode cX11_mendOf 0 = .ok (.aload_n 0, 1) := by decide +kernel
theorem dX11_mendOf_1 : decode cX11_mendOf 1 = .ok (.aload_n 0, 1) := by decide +kernel
theorem dX11_mendOf_2 : decode cX11_mendOf 2 = .ok (.getfield 20, 3) := by decide +kernel
theorem dX11_mendOf_5 : decode cX11_mendOf 5 = .ok (.bipush 100, 2) := by decide +kernel
theorem dX11_mendOf_7 : decode cX11_mendOf 7 = .ok (.iload_n 1, 1) := by decide +kernel
theorem dX11_mendOf_8 : decode cX11_mendOf 8 = .ok (.iadd, 1) := by decide +kernel
theorem dX11_mendOf_9 : decode cX11_mendOf 9 = .ok (.iaload, 1) := by decide +kernel
theorem dX11_mendOf_10 : decode cX11_mendOf 10 = .ok (.aload_n 0, 1) := by decide +kernel
theorem dX11_mendOf_11 : decode cX11_mendOf 11 = .ok (.getfield 20, 3) := by decide +kernel
theorem dX11_mendOf_14 : decode cX11_mendOf 14 = .ok (.bipush 104, 2) := by decide +kernel
theorem dX11_mendOf_16 : decode cX11_mendOf 16 = .ok (.iload_n 1, 1) := by decide +kernel
theorem dX11_mendOf_17 : decode cX11_mendOf 17 = .ok (.iadd, 1) := by decide +kernel
theorem dX11_mendOf_18 : decode cX11_mendOf 18 = .ok (.iaload, 1) := by decide +kernel
theorem dX11_mendOf_19 : decode cX11_mendOf 19 = .ok (.invokevirtual 279, 3) := by decide +kernel
theorem dX11_mendOf_22 : decode cX11_mendOf 22 = .ok (.istore_n 2, 1) := by decide +kernel
theorem dX11_mendOf_23 : decode cX11_mendOf 23 = .ok (.bipush (-2), 2) := by decide +kernel
theorem dX11_mendOf_25 : decode cX11_mendOf 25 = .ok (.istore_n 3, 1) := by decide +kernel
theorem dX11_mendOf_26 : decode cX11_mendOf 26 = .ok (.aload_n 0, 1) := by decide +kernel
theorem dX11_mendOf_27 : decode cX11_mendOf 27 = .ok (.bipush (-2), 2) := by decide +kernel
theorem dX11_mendOf_29 : decode cX11_mendOf 29 = .ok (.putfield 332, 3) := by decide +kernel
theorem dX11_mendOf_32 : decode cX11_mendOf 32 = .ok (.iconst 0, 1) := by decide +kernel
theorem dX11_mendOf_33 : decode cX11_mendOf 33 = .ok (.istore 4, 2) := by decide +kernel
theorem dX11_mendOf_35 : decode cX11_mendOf 35 = .ok (.iload 4, 2) := by decide +kernel
theorem dX11_mendOf_37 : decode cX11_mendOf 37 = .ok (.aload_n 0, 1) := by decide +kernel
theorem dX11_mendOf_38 : decode cX11_mendOf 38 = .ok (.getfield 20, 3) := by decide +kernel
theorem dX11_mendOf_41 : decode cX11_mendOf 41 = .ok (.bipush 64, 2) := by decide +kernel
theorem dX11_mendOf_43 : decode cX11_mendOf 43 = .ok (.iload_n 1, 1) := by decide +kernel
theorem dX11_mendOf_44 : decode cX11_mendOf 44 = .ok (.iadd, 1) := by decide +kernel
theorem dX11_mendOf_45 : decode cX11_mendOf 45 = .ok (.iaload, 1) := by decide +kernel
theorem dX11_mendOf_46 : decode cX11_mendOf 46 = .ok (.iadd, 1) := by decide +kernel
theorem dX11_mendOf_47 : decode cX11_mendOf 47 = .ok (.iload_n 2, 1) := by decide +kernel
theorem dX11_mendOf_48 : decode cX11_mendOf 48 = .ok (.if_icmp .gt 113, 3) := by decide +kernel
theorem dX11_mendOf_51 : decode cX11_mendOf 51 = .ok (.aload_n 0, 1) := by decide +kernel
theorem dX11_mendOf_52 : decode cX11_mendOf 52 = .ok (.iload_n 1, 1) := by decide +kernel
theorem dX11_mendOf_53 : decode cX11_mendOf 53 = .ok (.invokevirtual 335, 3) := by decide +kernel
theorem dX11_mendOf_56 : decode cX11_mendOf 56 = .ok (.ifCond .eq 105, 3) := by decide +kernel
theorem dX11_mendOf_59 : decode cX11_mendOf 59 = .ok (.iconst 0, 1) := by decide +kernel
theorem dX11_mendOf_60 : decode cX11_mendOf 60 = .ok (.istore 5, 2) := by decide +kernel
theorem dX11_mendOf_62 : decode cX11_mendOf 62 = .ok (.iconst 0, 1) := by decide +kernel
theorem dX11_mendOf_63 : decode cX11_mendOf 63 = .ok (.istore 6, 2) := by decide +kernel
theorem dX11_mendOf_65 : decode cX11_mendOf 65 = .ok (.iload 6, 2) := by decide +kernel
theorem dX11_mendOf_67 : decode cX11_mendOf 67 = .ok (.aload_n 0, 1) := by decide +kernel
theorem dX11_mendOf_68 : decode cX11_mendOf 68 = .ok (.getfield 20, 3) := by decide +kernel
theorem dX11_mendOf_71 : decode cX11_mendOf 71 = .ok (.bipush 64, 2) := by decide +kernel
theorem dX11_mendOf_73 : decode cX11_mendOf 73 = .ok (.iload_n 1, 1) := by decide +kernel
theorem dX11_mendOf_74 : decode cX11_mendOf 74 = .ok (.iadd, 1) := by decide +kernel
theorem dX11_mendOf_75 : decode cX11_mendOf 75 = .ok (.iaload, 1) := by decide +kernel
theorem dX11_mendOf_76 : decode cX11_mendOf 76 = .ok (.if_icmp .ge 55, 3) := by decide +kernel
theorem dX11_mendOf_79 : decode cX11_mendOf 79 = .ok (.iload 5, 2) := by decide +kernel
theorem dX11_mendOf_81 : decode cX11_mendOf 81 = .ok (.aload_n 0, 1) := by decide +kernel
theorem dX11_mendOf_82 : decode cX11_mendOf 82 = .ok (.aload_n 0, 1) := by decide +kernel
theorem dX11_mendOf_83 : decode cX11_mendOf 83 = .ok (.getfield 20, 3) := by decide +kernel
theorem dX11_mendOf_86 : decode cX11_mendOf 86 = .ok (.bipush 100, 2) := by decide +kernel
theorem dX11_mendOf_88 : decode cX11_mendOf 88 = .ok (.iload_n 1, 1) := by decide +kernel
theorem dX11_mendOf_89 : decode cX11_mendOf 89 = .ok (.iadd, 1) := by decide +kernel
theorem dX11_mendOf_90 : decode cX11_mendOf 90 = .ok (.iaload, 1) := by decide +kernel
theorem dX11_mendOf_91 : decode cX11_mendOf 91 = .ok (.iload 4, 2) := by decide +kernel
theorem dX11_mendOf_93 : decode cX11_mendOf 93 = .ok (.iload 6, 2) := by decide +kernel
theorem dX11_mendOf_95 : decode cX11_mendOf 95 = .ok (.iadd, 1) := by decide +kernel
theorem dX11_mendOf_96 : decode cX11_mendOf 96 = .ok (.invokevirtual 286, 3) := by decide +kernel
theorem dX11_mendOf_99 : decode cX11_mendOf 99 = .ok (.aload_n 0, 1) := by decide +kernel
theorem dX11_mendOf_100 : decode cX11_mendOf 100 = .ok (.getfield 20, 3) := by decide +kernel
theorem dX11_mendOf_103 : decode cX11_mendOf 103 = .ok (.bipush 68, 2) := by decide +kernel
theorem dX11_mendOf_105 : decode cX11_mendOf 105 = .ok (.bipush 8, 2) := by decide +kernel
theorem dX11_mendOf_107 : decode cX11_mendOf 107 = .ok (.iload_n 1, 1) := by decide +kernel
theorem dX11_mendOf_108 : decode cX11_mendOf 108 = .ok (.imul, 1) := by decide +kernel
theorem dX11_mendOf_109 : decode cX11_mendOf 109 = .ok (.iadd, 1) := by decide +kernel
theorem dX11_mendOf_110 : decode cX11_mendOf 110 = .ok (.iload 6, 2) := by decide +kernel
theorem dX11_mendOf_112 : decode cX11_mendOf 112 = .ok (.iadd, 1) := by decide +kernel
theorem dX11_mendOf_113 : decode cX11_mendOf 113 = .ok (.iaload, 1) := by decide +kernel
theorem dX11_mendOf_114 : decode cX11_mendOf 114 = .ok (.if_icmp .eq 7, 3) := by decide +kernel
theorem dX11_mendOf_117 : decode cX11_mendOf 117 = .ok (.iconst 1, 1) := by decide +kernel
theorem dX11_mendOf_118 : decode cX11_mendOf 118 = .ok (.goto 4, 3) := by decide +kernel
theorem dX11_mendOf_121 : decode cX11_mendOf 121 = .ok (.iconst 0, 1) := by decide +kernel
theorem dX11_mendOf_122 : decode cX11_mendOf 122 = .ok (.iadd, 1) := by decide +kernel
theorem dX11_mendOf_123 : decode cX11_mendOf 123 = .ok (.istore 5, 2) := by decide +kernel
theorem dX11_mendOf_125 : decode cX11_mendOf 125 = .ok (.iinc 6 1, 3) := by decide +kernel
theorem dX11_mendOf_128 : decode cX11_mendOf 128 = .ok (.goto (-63), 3) := by decide +kernel
theorem dX11_mendOf_131 : decode cX11_mendOf 131 = .ok (.iload_n 3, 1) := by decide +kernel
theorem dX11_mendOf_132 : decode cX11_mendOf 132 = .ok (.bipush (-2), 2) := by decide +kernel
theorem dX11_mendOf_134 : decode cX11_mendOf 134 = .ok (.if_icmp .eq 12, 3) := by decide +kernel
theorem dX11_mendOf_137 : decode cX11_mendOf 137 = .ok (.iload 5, 2) := by decide +kernel
theorem dX11_mendOf_139 : decode cX11_mendOf 139 = .ok (.iload_n 3, 1) := by decide +kernel
theorem dX11_mendOf_140 : decode cX11_mendOf 140 = .ok (.if_icmp .lt 6, 3) := by decide +kernel
theorem dX11_mendOf_143 : decode cX11_mendOf 143 = .ok (.goto 12, 3) := by decide +kernel
theorem dX11_mendOf_146 : decode cX11_mendOf 146 = .ok (.iload 5, 2) := by decide +kernel
theorem dX11_mendOf_148 : decode cX11_mendOf 148 = .ok (.istore_n 3, 1) := by decide +kernel
theorem dX11_mendOf_149 : decode cX11_mendOf 149 = .ok (.aload_n 0, 1) := by decide +kernel
theorem dX11_mendOf_150 : decode cX11_mendOf 150 = .ok (.iload 4, 2) := by decide +kernel
theorem dX11_mendOf_152 : decode cX11_mendOf 152 = .ok (.putfield 332, 3) := by decide +kernel
theorem dX11_mendOf_155 : decode cX11_mendOf 155 = .ok (.iinc 4 1, 3) := by decide +kernel
theorem dX11_mendOf_158 : decode cX11_mendOf 158 = .ok (.goto (-123), 3) := by decide +kernel
theorem dX11_mendOf_161 : decode cX11_mendOf 161 = .ok (.iload_n 3, 1) := by decide +kernel
theorem dX11_mendOf_162 : decode cX11_mendOf 162 = .ok (.ireturn, 1) := by decide +kernel
theorem dX11_mend_0 : decode cX11_mend 0 = .ok (.aload_n 0, 1) := by decide +kernel
theorem dX11_mend_1 : decode cX11_mend 1 = .ok (.invokevirtual 156, 3) := by decide +kernel
theorem dX11_mend_4 : decode cX11_mend 4 = .ok (.aload_n 0, 1) := by decide +kernel
theorem dX11_mend_5 : decode cX11_mend 5 = .ok (.iload_n 1, 1) := by decide +kernel
theorem dX11_mend_6 : decode cX11_mend 6 = .ok (.invokevirtual 319, 3) := by decide +kernel
theorem dX11_mend_9 : decode cX11_mend 9 = .ok (.ifCond .eq 11, 3) := by decide +kernel
theorem dX11_mend_12 : decode cX11_mend 12 = .ok (.aload_n 0, 1) := by decide +kernel
theorem dX11_mend_13 : decode cX11_mend 13 = .ok (.iload_n 1, 1) := by decide +kernel
theorem dX11_mend_14 : decode cX11_mend 14 = .ok (.invokevirtual 338, 3) := by decide +kernel
theorem dX11_mend_17 : decode cX11_mend 17 = .ok (.goto 8, 3) := by decide +kernel
theorem dX11_mend_20 : decode cX11_mend 20 = .ok (.aload_n 0, 1) := by decide +kernel
theorem dX11_mend_21 : decode cX11_mend 21 = .ok (.iconst 1, 1) := by decide +kernel
theorem dX11_mend_22 : decode cX11_mend 22 = .ok (.invokevirtual 159, 3) := by decide +kernel
theorem dX11_mend_25 : decode cX11_mend 25 = .ok (.ireturn, 1) := by decide +kernel
theorem dX11_mendAt_0 : decode cX11_mendAt 0 = .ok (.aload_n 0, 1) := by decide +kernel
theorem dX11_mendAt_1 : decode cX11_mendAt 1 = .ok (.invokevirtual 156, 3) := by decide +kernel
theorem dX11_mendAt_4 : decode cX11_mendAt 4 = .ok (.aload_n 0, 1) := by decide +kernel
theorem dX11_mendAt_5 : decode cX11_mendAt 5 = .ok (.iload_n 1, 1) := by decide +kernel
theorem dX11_mendAt_6 : decode cX11_mendAt 6 = .ok (.invokevirtual 319, 3) := by decide +kernel
theorem dX11_mendAt_9 : decode cX11_mendAt 9 = .ok (.ifCond .ne 9, 3) := by decide +kernel
theorem dX11_mendAt_12 : decode cX11_mendAt 12 = .ok (.aload_n 0, 1) := by decide +kernel
theorem dX11_mendAt_13 : decode cX11_mendAt 13 = .ok (.iconst 1, 1) := by decide +kernel
theorem dX11_mendAt_14 : decode cX11_mendAt 14 = .ok (.invokevirtual 159, 3) := by decide +kernel
theorem dX11_mendAt_17 : decode cX11_mendAt 17 = .ok (.ireturn, 1) := by decide +kernel
theorem dX11_mendAt_18 : decode cX11_mendAt 18 = .ok (.aload_n 0, 1) := by decide +kernel
theorem dX11_mendAt_19 : decode cX11_mendAt 19 = .ok (.iload_n 1, 1) := by decide +kernel
theorem dX11_mendAt_20 : decode cX11_mendAt 20 = .ok (.invokevirtual 338, 3) := by decide +kernel
theorem dX11_mendAt_23 : decode cX11_mendAt 23 = .ok (.pop, 1) := by decide +kernel
theorem dX11_mendAt_24 : decode cX11_mendAt 24 = .ok (.aload_n 0, 1) := by decide +kernel
theorem dX11_mendAt_25 : decode cX11_mendAt 25 = .ok (.getfield 332, 3) := by decide +kernel
theorem dX11_mendAt_28 : decode cX11_mendAt 28 = .ok (.ireturn, 1) := by decide +kernel
theorem dX11_mendFrom_0 : decode cX11_mendFrom 0 = .ok (.iload_n 2, 1) := by decide +kernel
theorem dX11_mendFrom_1 : decode cX11_mendFrom 1 = .ok (.aload_n 0, 1) := by decide +kernel
theorem dX11_mendFrom_2 : decode cX11_mendFrom 2 = .ok (.getfield 341, 3) := by decide +kernel
theorem dX11_mendFrom_5 : decode cX11_mendFrom 5 = .ok (.if_icmp .lt 4, 3) := by decide +kernel
theorem dX11_mendFrom_8 : decode cX11_mendFrom 8 = .ok (.return_, 1) := by decide +kernel
theorem dX11_mendFrom_9 : decode cX11_mendFrom 9 = .ok (.iload_n 1, 1) := by decide +kernel
theorem dX11_mendFrom_10 : decode cX11_mendFrom 10 = .ok (.aload_n 0, 1) := by decide +kernel
theorem dX11_mendFrom_11 : decode cX11_mendFrom 11 = .ok (.getfield 20, 3) := by decide +kernel
theorem dX11_mendFrom_14 : decode cX11_mendFrom 14 = .ok (.bipush 6, 2) := by decide +kernel
theorem dX11_mendFrom_16 : decode cX11_mendFrom 16 = .ok (.iaload, 1) := by decide +kernel
theorem dX11_mendFrom_17 : decode cX11_mendFrom 17 = .ok (.if_icmp .ne 9, 3) := by decide +kernel
theorem dX11_mendFrom_20 : decode cX11_mendFrom 20 = .ok (.aload_n 0, 1) := by decide +kernel
theorem dX11_mendFrom_21 : decode cX11_mendFrom 21 = .ok (.iload_n 2, 1) := by decide +kernel
theorem dX11_mendFrom_22 : decode cX11_mendFrom 22 = .ok (.putfield 341, 3) := by decide +kernel
theorem dX11_mendFrom_25 : decode cX11_mendFrom 25 = .ok (.return_, 1) := by decide +kernel
theorem dX11_mendFrom_26 : decode cX11_mendFrom 26 = .ok (.iconst 0, 1) := by decide +kernel
theorem dX11_mendFrom_27 : decode cX11_mendFrom 27 = .ok (.istore_n 3, 1) := by decide +kernel
theorem dX11_mendFrom_28 : decode cX11_mendFrom 28 = .ok (.iload_n 3, 1) := by decide +kernel
theorem dX11_mendFrom_29 : decode cX11_mendFrom 29 = .ok (.aload_n 0, 1) := by decide +kernel
theorem dX11_mendFrom_30 : decode cX11_mendFrom 30 = .ok (.getfield 20, 3) := by decide +kernel
theorem dX11_mendFrom_33 : decode cX11_mendFrom 33 = .ok (.bipush 64, 2) := by decide +kernel
theorem dX11_mendFrom_35 : decode cX11_mendFrom 35 = .ok (.iload_n 1, 1) := by decide +kernel
theorem dX11_mendFrom_36 : decode cX11_mendFrom 36 = .ok (.iadd, 1) := by decide +kernel
theorem dX11_mendFrom_37 : decode cX11_mendFrom 37 = .ok (.iaload, 1) := by decide +kernel
theorem dX11_mendFrom_38 : decode cX11_mendFrom 38 = .ok (.iadd, 1) := by decide +kernel
theorem dX11_mendFrom_39 : decode cX11_mendFrom 39 = .ok (.aload_n 0, 1) := by decide +kernel
theorem dX11_mendFrom_40 : decode cX11_mendFrom 40 = .ok (.getfield 53, 3) := by decide +kernel
theorem dX11_mendFrom_43 : decode cX11_mendFrom 43 = .ok (.iload_n 1, 1) := by decide +kernel
theorem dX11_mendFrom_44 : decode cX11_mendFrom 44 = .ok (.iaload, 1) := by decide +kernel
theorem dX11_mendFrom_45 : decode cX11_mendFrom 45 = .ok (.if_icmp .gt 246, 3) := by decide +kernel
theorem dX11_mendFrom_48 : decode cX11_mendFrom 48 = .ok (.iconst 0, 1) := by decide +kernel
theorem dX11_mendFrom_49 : decode cX11_mendFrom 49 = .ok (.istore 4, 2) := by decide +kernel
theorem dX11_mendFrom_51 : decode cX11_mendFrom 51 = .ok (.iconst 0, 1) := by decide +kernel
theorem dX11_mendFrom_52 : decode cX11_mendFrom 52 = .ok (.istore 5, 2) := by decide +kernel
theorem dX11_mendFrom_54 : decode cX11_mendFrom 54 = .ok (.iconst 1, 1) := by decide +kernel
theorem dX11_mendFrom_55 : decode cX11_mendFrom 55 = .ok (.istore 6, 2) := by decide +kernel
theorem dX11_mendFrom_57 : decode cX11_mendFrom 57 = .ok (.iload 5, 2) := by decide +kernel
theorem dX11_mendFrom_59 : decode cX11_mendFrom 59 = .ok (.aload_n 0, 1) := by decide +kernel
theorem dX11_mendFrom_60 : decode cX11_mendFrom 60 = .ok (.getfield 20, 3) := by decide +kernel
theorem dX11_mendFrom_63 : decode cX11_mendFrom 63 = .ok (.bipush 64, 2) := by decide +kernel
theorem dX11_mendFrom_65 : decode cX11_mendFrom 65 = .ok (.iload_n 1, 1) := by decide +kernel
theorem dX11_mendFrom_66 : decode cX11_mendFrom 66 = .ok (.iadd, 1) := by decide +kernel
theorem dX11_mendFrom_67 : decode cX11_mendFrom 67 = .ok (.iaload, 1) := by decide +kernel
theorem dX11_mendFrom_68 : decode cX11_mendFrom 68 = .ok (.if_icmp .ge 149, 3) := by decide +kernel
theorem dX11_mendFrom_71 : decode cX11_mendFrom 71 = .ok (.iload 6, 2) := by decide +kernel
theorem dX11_mendFrom_73 : decode cX11_mendFrom 73 = .ok (.ifCond .eq 144, 3) := by decide +kernel
theorem dX11_mendFrom_76 : decode cX11_mendFrom 76 = .ok (.bipush 30, 2) := by decide +kernel
theorem dX11_mendFrom_78 : decode cX11_mendFrom 78 = .ok (.aload_n 0, 1) := by decide +kernel
theorem dX11_mendFrom_79 : decode cX11_mendFrom 79 = .ok (.getfield 20, 3) := by decide +kernel
theorem dX11_mendFrom_82 : decode cX11_mendFrom 82 = .ok (.bipush 100, 2) := by decide +kernel
theorem dX11_mendFrom_84 : decode cX11_mendFrom 84 = .ok (.iload_n 1, 1) := by decide +kernel
theorem dX11_mendFrom_85 : decode cX11_mendFrom 85 = .ok (.iadd, 1) := by decide +kernel
theorem dX11_mendFrom_86 : decode cX11_mendFrom 86 = .ok (.iaload, 1) := by decide +kernel
theorem dX11_mendFrom_87 : decode cX11_mendFrom 87 = .ok (.imul, 1) := by decide +kernel
theorem dX11_mendFrom_88 : decode cX11_mendFrom 88 = .ok (.aload_n 0, 1) := by decide +kernel
theorem dX11_mendFrom_89 : decode cX11_mendFrom 89 = .ok (.getfield 50, 3) := by decide +kernel
theorem dX11_mendFrom_92 : decode cX11_mendFrom 92 = .ok (.bipush 30, 2) := by decide +kernel
theorem dX11_mendFrom_94 : decode cX11_mendFrom 94 = .ok (.iload_n 1, 1) := by decide +kernel
theorem dX11_mendFrom_95 : decode cX11_mendFrom 95 = .ok (.imul, 1) := by decide +kernel
theorem dX11_mendFrom_96 : decode cX11_mendFrom 96 = .ok (.iload_n 3, 1) := by decide +kernel
theorem dX11_mendFrom_97 : decode cX11_mendFrom 97 = .ok (.iadd, 1) := by decide +kernel
theorem dX11_mendFrom_98 : decode cX11_mendFrom 98 = .ok (.iload 5, 2) := by decide +kernel
theorem dX11_mendFrom_100 : decode cX11_mendFrom 100 = .ok (.iadd, 1) := by decide +kernel
theorem dX11_mendFrom_101 : decode cX11_mendFrom 101 = .ok (.iaload, 1) := by decide +kernel
theorem dX11_mendFrom_102 : decode cX11_mendFrom 102 = .ok (.iadd, 1) := by decide +kernel
theorem dX11_mendFrom_103 : decode cX11_mendFrom 103 = .ok (.istore 7, 2) := by decide +kernel
theorem dX11_mendFrom_105 : decode cX11_mendFrom 105 = .ok (.aload_n 0, 1) := by decide +kernel
theorem dX11_mendFrom_106 : decode cX11_mendFrom 106 = .ok (.getfield 20, 3) := by decide +kernel
theorem dX11_mendFrom_109 : decode cX11_mendFrom 109 = .ok (.bipush 68, 2) := by decide +kernel
theorem dX11_mendFrom_111 : decode cX11_mendFrom 111 = .ok (.bipush 8, 2) := by decide +kernel
theorem dX11_mendFrom_113 : decode cX11_mendFrom 113 = .ok (.iload_n 1, 1) := by decide +kernel
theorem dX11_mendFrom_114 : decode cX11_mendFrom 114 = .ok (.imul, 1) := by decide +kernel
theorem dX11_mendFrom_115 : decode cX11_mendFrom 115 = .ok (.iadd, 1) := by decide +kernel
theorem dX11_mendFrom_116 : decode cX11_mendFrom 116 = .ok (.iload 5, 2) := by decide +kernel
theorem dX11_mendFrom_118 : decode cX11_mendFrom 118 = .ok (.iadd, 1) := by decide +kernel
theorem dX11_mendFrom_119 : decode cX11_mendFrom 119 = .ok (.iaload, 1) := by decide +kernel
theorem dX11_mendFrom_120 : decode cX11_mendFrom 120 = .ok (.istore 8, 2) := by decide +kernel
theorem dX11_mendFrom_122 : decode cX11_mendFrom 122 = .ok (.aload_n 0, 1) := by decide +kernel
theorem dX11_mendFrom_123 : decode cX11_mendFrom 123 = .ok (.getfield 47, 3) := by decide +kernel
theorem dX11_mendFrom_126 : decode cX11_mendFrom 126 = .ok (.iload 7, 2) := by decide +kernel
theorem dX11_mendFrom_128 : decode cX11_mendFrom 128 = .ok (.iaload, 1) := by decide +kernel
theorem dX11_mendFrom_129 : decode cX11_mendFrom 129 = .ok (.ifCond .eq 15, 3) := by decide +kernel
theorem dX11_mendFrom_132 : decode cX11_mendFrom 132 = .ok (.aload_n 0, 1) := by decide +kernel
theorem dX11_mendFrom_133 : decode cX11_mendFrom 133 = .ok (.getfield 44, 3) := by decide +kernel
theorem dX11_mendFrom_136 : decode cX11_mendFrom 136 = .ok (.iload 7, 2) := by decide +kernel
theorem dX11_mendFrom_138 : decode cX11_mendFrom 138 = .ok (.iaload, 1) := by decide +kernel
theorem dX11_mendFrom_139 : decode cX11_mendFrom 139 = .ok (.iload 8, 2) := by decide +kernel
theorem dX11_mendFrom_141 : decode cX11_mendFrom 141 = .ok (.if_icmp .ne 7, 3) := by decide +kernel
theorem dX11_mendFrom_144 : decode cX11_mendFrom 144 = .ok (.iconst 1, 1) := by decide +kernel
theorem dX11_mendFrom_145 : decode cX11_mendFrom 145 = .ok (.goto 4, 3) := by decide +kernel
theorem dX11_mendFrom_148 : decode cX11_mendFrom 148 = .ok (.iconst 0, 1) := by decide +kernel
theorem dX11_mendFrom_149 : decode cX11_mendFrom 149 = .ok (.istore 6, 2) := by decide +kernel
theorem dX11_mendFrom_151 : decode cX11_mendFrom 151 = .ok (.iload 6, 2) := by decide +kernel
theorem dX11_mendFrom_153 : decode cX11_mendFrom 153 = .ok (.ifCond .ne 6, 3) := by decide +kernel
theorem dX11_mendFrom_156 : decode cX11_mendFrom 156 = .ok (.goto (-99), 3) := by decide +kernel
theorem dX11_mendFrom_159 : decode cX11_mendFrom 159 = .ok (.iload 4, 2) := by decide +kernel
theorem dX11_mendFrom_161 : decode cX11_mendFrom 161 = .ok (.aload_n 0, 1) := by decide +kernel
theorem dX11_mendFrom_162 : decode cX11_mendFrom 162 = .ok (.getfield 47, 3) := by decide +kernel
theorem dX11_mendFrom_165 : decode cX11_mendFrom 165 = .ok (.iload 7, 2) := by decide +kernel
theorem dX11_mendFrom_167 : decode cX11_mendFrom 167 = .ok (.iaload, 1) := by decide +kernel
theorem dX11_mendFrom_168 : decode cX11_mendFrom 168 = .ok (.ifCond .ne 19, 3) := by decide +kernel
theorem dX11_mendFrom_171 : decode cX11_mendFrom 171 = .ok (.aload_n 0, 1) := by decide +kernel
theorem dX11_mendFrom_172 : decode cX11_mendFrom 172 = .ok (.getfield 26, 3) := by decide +kernel
theorem dX11_mendFrom_175 : decode cX11_mendFrom 175 = .ok (.iload 7, 2) := by decide +kernel
theorem dX11_mendFrom_177 : decode cX11_mendFrom 177 = .ok (.iaload, 1) := by decide +kernel
theorem dX11_mendFrom_178 : decode cX11_mendFrom 178 = .ok (.iload 8, 2) := by decide +kernel
theorem dX11_mendFrom_180 : decode cX11_mendFrom 180 = .ok (.if_icmp .eq 7, 3) := by decide +kernel
theorem dX11_mendFrom_183 : decode cX11_mendFrom 183 = .ok (.iconst 1, 1) := by decide +kernel
theorem dX11_mendFrom_184 : decode cX11_mendFrom 184 = .ok (.goto 4, 3) := by decide +kernel
theorem dX11_mendFrom_187 : decode cX11_mendFrom 187 = .ok (.iconst 0, 1) := by decide +kernel
theorem dX11_mendFrom_188 : decode cX11_mendFrom 188 = .ok (.iadd, 1) := by decide +kernel
theorem dX11_mendFrom_189 : decode cX11_mendFrom 189 = .ok (.istore 4, 2) := by decide +kernel
theorem dX11_mendFrom_191 : decode cX11_mendFrom 191 = .ok (.aload_n 0, 1) := by decide +kernel
theorem dX11_mendFrom_192 : decode cX11_mendFrom 192 = .ok (.getfield 44, 3) := by decide +kernel
theorem dX11_mendFrom_195 : decode cX11_mendFrom 195 = .ok (.iload 7, 2) := by decide +kernel
theorem dX11_mendFrom_197 : decode cX11_mendFrom 197 = .ok (.iload 8, 2) := by decide +kernel
theorem dX11_mendFrom_199 : decode cX11_mendFrom 199 = .ok (.iastore, 1) := by decide +kernel
theorem dX11_mendFrom_200 : decode cX11_mendFrom 200 = .ok (.aload_n 0, 1) := by decide +kernel
theorem dX11_mendFrom_201 : decode cX11_mendFrom 201 = .ok (.getfield 47, 3) := by decide +kernel
theorem dX11_mendFrom_204 : decode cX11_mendFrom 204 = .ok (.iload 7, 2) := by decide +kernel
theorem dX11_mendFrom_206 : decode cX11_mendFrom 206 = .ok (.dup2, 1) := by decide +kernel
theorem dX11_mendFrom_207 : decode cX11_mendFrom 207 = .ok (.iaload, 1) := by decide +kernel
theorem dX11_mendFrom_208 : decode cX11_mendFrom 208 = .ok (.iconst 1, 1) := by decide +kernel
theorem dX11_mendFrom_209 : decode cX11_mendFrom 209 = .ok (.iadd, 1) := by decide +kernel
theorem dX11_mendFrom_210 : decode cX11_mendFrom 210 = .ok (.iastore, 1) := by decide +kernel
theorem dX11_mendFrom_211 : decode cX11_mendFrom 211 = .ok (.iinc 5 1, 3) := by decide +kernel
theorem dX11_mendFrom_214 : decode cX11_mendFrom 214 = .ok (.goto (-157), 3) := by decide +kernel
theorem dX11_mendFrom_217 : decode cX11_mendFrom 217 = .ok (.iload 6, 2) := by decide +kernel
theorem dX11_mendFrom_219 : decode cX11_mendFrom 219 = .ok (.ifCond .eq 14, 3) := by decide +kernel
theorem dX11_mendFrom_222 : decode cX11_mendFrom 222 = .ok (.aload_n 0, 1) := by decide +kernel
theorem dX11_mendFrom_223 : decode cX11_mendFrom 223 = .ok (.iload_n 1, 1) := by decide +kernel
theorem dX11_mendFrom_224 : decode cX11_mendFrom 224 = .ok (.iconst 1, 1) := by decide +kernel
theorem dX11_mendFrom_225 : decode cX11_mendFrom 225 = .ok (.iadd, 1) := by decide +kernel
theorem dX11_mendFrom_226 : decode cX11_mendFrom 226 = .ok (.iload_n 2, 1) := by decide +kernel
theorem dX11_mendFrom_227 : decode cX11_mendFrom 227 = .ok (.iload 4, 2) := by decide +kernel
theorem dX11_mendFrom_229 : decode cX11_mendFrom 229 = .ok (.iadd, 1) := by decide +kernel
theorem dX11_mendFrom_230 : decode cX11_mendFrom 230 = .ok (.invokevirtual 344, 3) := by decide +kernel
theorem dX11_mendFrom_233 : decode cX11_mendFrom 233 = .ok (.iconst 0, 1) := by decide +kernel
theorem dX11_mendFrom_234 : decode cX11_mendFrom 234 = .ok (.istore 7, 2) := by decide +kernel
theorem dX11_mendFrom_236 : decode cX11_mendFrom 236 = .ok (.iload 7, 2) := by decide +kernel
theorem dX11_mendFrom_238 : decode cX11_mendFrom 238 = .ok (.iload 5, 2) := by decide +kernel
theorem dX11_mendFrom_240 : decode cX11_mendFrom 240 = .ok (.if_icmp .ge 45, 3) := by decide +kernel
theorem dX11_mendFrom_243 : decode cX11_mendFrom 243 = .ok (.aload_n 0, 1) := by decide +kernel
theorem dX11_mendFrom_244 : decode cX11_mendFrom 244 = .ok (.getfield 47, 3) := by decide +kernel
theorem dX11_mendFrom_247 : decode cX11_mendFrom 247 = .ok (.bipush 30, 2) := by decide +kernel
theorem dX11_mendFrom_249 : decode cX11_mendFrom 249 = .ok (.aload_n 0, 1) := by decide +kernel
theorem dX11_mendFrom_250 : decode cX11_mendFrom 250 = .ok (.getfield 20, 3) := by decide +kernel
theorem dX11_mendFrom_253 : decode cX11_mendFrom 253 = .ok (.bipush 100, 2) := by decide +kernel
theorem dX11_mendFrom_255 : decode cX11_mendFrom 255 = .ok (.iload_n 1, 1) := by decide +kernel
theorem dX11_mendFrom_256 : decode cX11_mendFrom 256 = .ok (.iadd, 1) := by decide +kernel
theorem dX11_mendFrom_257 : decode cX11_mendFrom 257 = .ok (.iaload, 1) := by decide +kernel
theorem dX11_mendFrom_258 : decode cX11_mendFrom 258 = .ok (.imul, 1) := by decide +kernel
theorem dX11_mendFrom_259 : decode cX11_mendFrom 259 = .ok (.aload_n 0, 1) := by decide +kernel
theorem dX11_mendFrom_260 : decode cX11_mendFrom 260 = .ok (.getfield 50, 3) := by decide +kernel
theorem dX11_mendFrom_263 : decode cX11_mendFrom 263 = .ok (.bipush 30, 2) := by decide +kernel
theorem dX11_mendFrom_265 : decode cX11_mendFrom 265 = .ok (.iload_n 1, 1) := by decide +kernel
theorem dX11_mendFrom_266 : decode cX11_mendFrom 266 = .ok (.imul, 1) := by decide +kernel
theorem dX11_mendFrom_267 : decode cX11_mendFrom 267 = .ok (.iload_n 3, 1) := by decide +kernel
theorem dX11_mendFrom_268 : decode cX11_mendFrom 268 = .ok (.iadd, 1) := by decide +kernel
theorem dX11_mendFrom_269 : decode cX11_mendFrom 269 = .ok (.iload 7, 2) := by decide +kernel
theorem dX11_mendFrom_271 : decode cX11_mendFrom 271 = .ok (.iadd, 1) := by decide +kernel
theorem dX11_mendFrom_272 : decode cX11_mendFrom 272 = .ok (.iaload, 1) := by decide +kernel
theorem dX11_mendFrom_273 : decode cX11_mendFrom 273 = .ok (.iadd, 1) := by decide +kernel
theorem dX11_mendFrom_274 : decode cX11_mendFrom 274 = .ok (.dup2, 1) := by decide +kernel
theorem dX11_mendFrom_275 : decode cX11_mendFrom 275 = .ok (.iaload, 1) := by decide +kernel
theorem dX11_mendFrom_276 : decode cX11_mendFrom 276 = .ok (.iconst 1, 1) := by decide +kernel
theorem dX11_mendFrom_277 : decode cX11_mendFrom 277 = .ok (.isub, 1) := by decide +kernel
theorem dX11_mendFrom_278 : decode cX11_mendFrom 278 = .ok (.iastore, 1) := by decide +kernel
theorem dX11_mendFrom_279 : decode cX11_mendFrom 279 = .ok (.iinc 7 1, 3) := by decide +kernel
theorem dX11_mendFrom_282 : decode cX11_mendFrom 282 = .ok (.goto (-46), 3) := by decide +kernel
theorem dX11_mendFrom_285 : decode cX11_mendFrom 285 = .ok (.iinc 3 1, 3) := by decide +kernel
theorem dX11_mendFrom_288 : decode cX11_mendFrom 288 = .ok (.goto (-260), 3) := by decide +kernel
theorem dX11_mendFrom_291 : decode cX11_mendFrom 291 = .ok (.return_, 1) := by decide +kernel
theorem dX11_mendAll_0 : decode cX11_mendAll 0 = .ok (.aload_n 0, 1) := by decide +kernel
theorem dX11_mendAll_1 : decode cX11_mendAll 1 = .ok (.invokevirtual 156, 3) := by decide +kernel
theorem dX11_mendAll_4 : decode cX11_mendAll 4 = .ok (.aload_n 0, 1) := by decide +kernel
theorem dX11_mendAll_5 : decode cX11_mendAll 5 = .ok (.getfield 169, 3) := by decide +kernel
theorem dX11_mendAll_8 : decode cX11_mendAll 8 = .ok (.ifCond .ne 9, 3) := by decide +kernel
theorem dX11_mendAll_11 : decode cX11_mendAll 11 = .ok (.aload_n 0, 1) := by decide +kernel
theorem dX11_mendAll_12 : decode cX11_mendAll 12 = .ok (.iconst 1, 1) := by decide +kernel
theorem dX11_mendAll_13 : decode cX11_mendAll 13 = .ok (.invokevirtual 159, 3) := by decide +kernel
theorem dX11_mendAll_16 : decode cX11_mendAll 16 = .ok (.ireturn, 1) := by decide +kernel
theorem dX11_mendAll_17 : decode cX11_mendAll 17 = .ok (.iconst 1, 1) := by decide +kernel
theorem dX11_mendAll_18 : decode cX11_mendAll 18 = .ok (.istore_n 1, 1) := by decide +kernel
theorem dX11_mendAll_19 : decode cX11_mendAll 19 = .ok (.iconst 0, 1) := by decide +kernel
theorem dX11_mendAll_20 : decode cX11_mendAll 20 = .ok (.istore_n 2, 1) := by decide +kernel
theorem dX11_mendAll_21 : decode cX11_mendAll 21 = .ok (.iload_n 2, 1) := by decide +kernel
theorem dX11_mendAll_22 : decode cX11_mendAll 22 = .ok (.aload_n 0, 1) := by decide +kernel
theorem dX11_mendAll_23 : decode cX11_mendAll 23 = .ok (.getfield 20, 3) := by decide +kernel
theorem dX11_mendAll_26 : decode cX11_mendAll 26 = .ok (.bipush 6, 2) := by decide +kernel
theorem dX11_mendAll_28 : decode cX11_mendAll 28 = .ok (.iaload, 1) := by decide +kernel
theorem dX11_mendAll_29 : decode cX11_mendAll 29 = .ok (.if_icmp .ge 77, 3) := by decide +kernel
theorem dX11_mendAll_32 : decode cX11_mendAll 32 = .ok (.aload_n 0, 1) := by decide +kernel
theorem dX11_mendAll_33 : decode cX11_mendAll 33 = .ok (.getfield 53, 3) := by decide +kernel
theorem dX11_mendAll_36 : decode cX11_mendAll 36 = .ok (.iload_n 2, 1) := by decide +kernel
theorem dX11_mendAll_37 : decode cX11_mendAll 37 = .ok (.aload_n 0, 1) := by decide +kernel
theorem dX11_mendAll_38 : decode cX11_mendAll 38 = .ok (.aload_n 0, 1) := by decide +kernel
theorem dX11_mendAll_39 : decode cX11_mendAll 39 = .ok (.getfield 20, 3) := by decide +kernel
theorem dX11_mendAll_42 : decode cX11_mendAll 42 = .ok (.bipush 100, 2) := by decide +kernel
theorem dX11_mendAll_44 : decode cX11_mendAll 44 = .ok (.iload_n 2, 1) := by decide +kernel
theorem dX11_mendAll_45 : decode cX11_mendAll 45 = .ok (.iadd, 1) := by decide +kernel
theorem dX11_mendAll_46 : decode cX11_mendAll 46 = .ok (.iaload, 1) := by decide +kernel
theorem dX11_mendAll_47 : decode cX11_mendAll 47 = .ok (.aload_n 0, 1) := by decide +kernel
theorem dX11_mendAll_48 : decode cX11_mendAll 48 = .ok (.getfield 20, 3) := by decide +kernel
theorem dX11_mendAll_51 : decode cX11_mendAll 51 = .ok (.bipush 104, 2) := by decide +kernel
theorem dX11_mendAll_53 : decode cX11_mendAll 53 = .ok (.iload_n 2, 1) := by decide +kernel
theorem dX11_mendAll_54 : decode cX11_mendAll 54 = .ok (.iadd, 1) := by decide +kernel
theorem dX11_mendAll_55 : decode cX11_mendAll 55 = .ok (.iaload, 1) := by decide +kernel
theorem dX11_mendAll_56 : decode cX11_mendAll 56 = .ok (.invokevirtual 279, 3) := by decide +kernel
theorem dX11_mendAll_59 : decode cX11_mendAll 59 = .ok (.iastore, 1) := by decide +kernel
theorem dX11_mendAll_60 : decode cX11_mendAll 60 = .ok (.aload_n 0, 1) := by decide +kernel
theorem dX11_mendAll_61 : decode cX11_mendAll 61 = .ok (.getfield 38, 3) := by decide +kernel
theorem dX11_mendAll_64 : decode cX11_mendAll 64 = .ok (.iconst 0, 1) := by decide +kernel
theorem dX11_mendAll_65 : decode cX11_mendAll 65 = .ok (.aload_n 0, 1) := by decide +kernel
theorem dX11_mendAll_66 : decode cX11_mendAll 66 = .ok (.getfield 50, 3) := by decide +kernel
theorem dX11_mendAll_69 : decode cX11_mendAll 69 = .ok (.bipush 30, 2) := by decide +kernel
theorem dX11_mendAll_71 : decode cX11_mendAll 71 = .ok (.iload_n 2, 1) := by decide +kernel
theorem dX11_mendAll_72 : decode cX11_mendAll 72 = .ok (.imul, 1) := by decide +kernel
theorem dX11_mendAll_73 : decode cX11_mendAll 73 = .ok (.aload_n 0, 1) := by decide +kernel
theorem dX11_mendAll_74 : decode cX11_mendAll 74 = .ok (.getfield 53, 3) := by decide +kernel
theorem dX11_mendAll_77 : decode cX11_mendAll 77 = .ok (.iload_n 2, 1) := by decide +kernel
theorem dX11_mendAll_78 : decode cX11_mendAll 78 = .ok (.iaload, 1) := by decide +kernel
theorem dX11_mendAll_79 : decode cX11_mendAll 79 = .ok (.invokestatic 165, 3) := by decide +kernel
theorem dX11_mendAll_82 : decode cX11_mendAll 82 = .ok (.iload_n 1, 1) := by decide +kernel
theorem dX11_mendAll_83 : decode cX11_mendAll 83 = .ok (.ifCond .eq 15, 3) := by decide +kernel
theorem dX11_mendAll_86 : decode cX11_mendAll 86 = .ok (.aload_n 0, 1) := by decide +kernel
theorem dX11_mendAll_87 : decode cX11_mendAll 87 = .ok (.iload_n 2, 1) := by decide +kernel
theorem dX11_mendAll_88 : decode cX11_mendAll 88 = .ok (.invokevirtual 335, 3) := by decide +kernel
theorem dX11_mendAll_91 : decode cX11_mendAll 91 = .ok (.ifCond .eq 7, 3) := by decide +kernel
theorem dX11_mendAll_94 : decode cX11_mendAll 94 = .ok (.iconst 1, 1) := by decide +kernel
theorem dX11_mendAll_95 : decode cX11_mendAll 95 = .ok (.goto 4, 3) := by decide +kernel
theorem dX11_mendAll_98 : decode cX11_mendAll 98 = .ok (.iconst 0, 1) := by decide +kernel
theorem dX11_mendAll_99 : decode cX11_mendAll 99 = .ok (.istore_n 1, 1) := by decide +kernel
theorem dX11_mendAll_100 : decode cX11_mendAll 100 = .ok (.iinc 2 1, 3) := by decide +kernel
theorem dX11_mendAll_103 : decode cX11_mendAll 103 = .ok (.goto (-82), 3) := by decide +kernel
theorem dX11_mendAll_106 : decode cX11_mendAll 106 = .ok (.iconst 0, 1) := by decide +kernel
theorem dX11_mendAll_107 : decode cX11_mendAll 107 = .ok (.istore_n 2, 1) := by decide +kernel
theorem dX11_mendAll_108 : decode cX11_mendAll 108 = .ok (.iload_n 2, 1) := by decide +kernel
theorem dX11_mendAll_109 : decode cX11_mendAll 109 = .ok (.bipush 60, 2) := by decide +kernel
theorem dX11_mendAll_111 : decode cX11_mendAll 111 = .ok (.if_icmp .ge 16, 3) := by decide +kernel
theorem dX11_mendAll_114 : decode cX11_mendAll 114 = .ok (.aload_n 0, 1) := by decide +kernel
theorem dX11_mendAll_115 : decode cX11_mendAll 115 = .ok (.getfield 47, 3) := by decide +kernel
theorem dX11_mendAll_118 : decode cX11_mendAll 118 = .ok (.iload_n 2, 1) := by decide +kernel
theorem dX11_mendAll_119 : decode cX11_mendAll 119 = .ok (.iconst 0, 1) := by decide +kernel
theorem dX11_mendAll_120 : decode cX11_mendAll 120 = .ok (.iastore, 1) := by decide +kernel
theorem dX11_mendAll_121 : decode cX11_mendAll 121 = .ok (.iinc 2 1, 3) := by decide +kernel
theorem dX11_mendAll_124 : decode cX11_mendAll 124 = .ok (.goto (-16), 3) := by decide +kernel
theorem dX11_mendAll_127 : decode cX11_mendAll 127 = .ok (.aload_n 0, 1) := by decide +kernel
theorem dX11_mendAll_128 : decode cX11_mendAll 128 = .ok (.ldc_w 328, 3) := by decide +kernel
theorem dX11_mendAll_131 : decode cX11_mendAll 131 = .ok (.putfield 341, 3) := by decide +kernel
theorem dX11_mendAll_134 : decode cX11_mendAll 134 = .ok (.iload_n 1, 1) := by decide +kernel
theorem dX11_mendAll_135 : decode cX11_mendAll 135 = .ok (.ifCond .eq 9, 3) := by decide +kernel
theorem dX11_mendAll_138 : decode cX11_mendAll 138 = .ok (.aload_n 0, 1) := by decide +kernel
theorem dX11_mendAll_139 : decode cX11_mendAll 139 = .ok (.iconst 0, 1) := by decide +kernel
theorem dX11_mendAll_140 : decode cX11_mendAll 140 = .ok (.iconst 0, 1) := by decide +kernel
theorem dX11_mendAll_141 : decode cX11_mendAll 141 = .ok (.invokevirtual 344, 3) := by decide +kernel
theorem dX11_mendAll_144 : decode cX11_mendAll 144 = .ok (.aload_n 0, 1) := by decide +kernel
theorem dX11_mendAll_145 : decode cX11_mendAll 145 = .ok (.getfield 341, 3) := by decide +kernel
theorem dX11_mendAll_148 : decode cX11_mendAll 148 = .ok (.ldc_w 328, 3) := by decide +kernel
theorem dX11_mendAll_151 : decode cX11_mendAll 151 = .ok (.if_icmp .ne 8, 3) := by decide +kernel
theorem dX11_mendAll_154 : decode cX11_mendAll 154 = .ok (.bipush (-2), 2) := by decide +kernel
theorem dX11_mendAll_156 : decode cX11_mendAll 156 = .ok (.goto 7, 3) := by decide +kernel
theorem dX11_mendAll_159 : decode cX11_mendAll 159 = .ok (.aload_n 0, 1) := by decide +kernel
theorem dX11_mendAll_160 : decode cX11_mendAll 160 = .ok (.getfield 341, 3) := by decide +kernel
theorem dX11_mendAll_163 : decode cX11_mendAll 163 = .ok (.ireturn, 1) := by decide +kernel
theorem dX11_loses_0 : decode cX11_loses 0 = .ok (.aload_n 0, 1) := by decide +kernel
theorem dX11_loses_1 : decode cX11_loses 1 = .ok (.invokevirtual 156, 3) := by decide +kernel
theorem dX11_loses_4 : decode cX11_loses 4 = .ok (.aload_n 0, 1) := by decide +kernel
theorem dX11_loses_5 : decode cX11_loses 5 = .ok (.iload_n 1, 1) := by decide +kernel
theorem dX11_loses_6 : decode cX11_loses 6 = .ok (.invokevirtual 256, 3) := by decide +kernel
theorem dX11_loses_9 : decode cX11_loses 9 = .ok (.ifCond .ne 9, 3) := by decide +kernel
theorem dX11_loses_12 : decode cX11_loses 12 = .ok (.aload_n 0, 1) := by decide +kernel
theorem dX11_loses_13 : decode cX11_loses 13 = .ok (.iconst 1, 1) := by decide +kernel
theorem dX11_loses_14 : decode cX11_loses 14 = .ok (.invokevirtual 159, 3) := by decide +kernel
theorem dX11_loses_17 : decode cX11_loses 17 = .ok (.ireturn, 1) := by decide +kernel
theorem dX11_loses_18 : decode cX11_loses 18 = .ok (.aload_n 0, 1) := by decide +kernel
theorem dX11_loses_19 : decode cX11_loses 19 = .ok (.getfield 26, 3) := by decide +kernel
theorem dX11_loses_22 : decode cX11_loses 22 = .ok (.bipush 60, 2) := by decide +kernel
theorem dX11_loses_24 : decode cX11_loses 24 = .ok (.iaload, 1) := by decide +kernel
theorem dX11_loses_25 : decode cX11_loses 25 = .ok (.iload_n 1, 1) := by decide +kernel
theorem dX11_loses_26 : decode cX11_loses 26 = .ok (.invokestatic 259, 3) := by decide +kernel
theorem dX11_loses_29 : decode cX11_loses 29 = .ok (.ifCond .eq 9, 3) := by decide +kernel
theorem dX11_loses_32 : decode cX11_loses 32 = .ok (.aload_n 0, 1) := by decide +kernel
theorem dX11_loses_33 : decode cX11_loses 33 = .ok (.iconst 5, 1) := by decide +kernel
theorem dX11_loses_34 : decode cX11_loses 34 = .ok (.invokevirtual 159, 3) := by decide +kernel
theorem dX11_loses_37 : decode cX11_loses 37 = .ok (.ireturn, 1) := by decide +kernel
theorem dX11_loses_38 : decode cX11_loses 38 = .ok (.aload_n 0, 1) := by decide +kernel
theorem dX11_loses_39 : decode cX11_loses 39 = .ok (.aload_n 0, 1) := by decide +kernel
theorem dX11_loses_40 : decode cX11_loses 40 = .ok (.getfield 26, 3) := by decide +kernel
theorem dX11_loses_43 : decode cX11_loses 43 = .ok (.bipush 60, 2) := by decide +kernel
theorem dX11_loses_45 : decode cX11_loses 45 = .ok (.iaload, 1) := by decide +kernel
theorem dX11_loses_46 : decode cX11_loses 46 = .ok (.invokevirtual 322, 3) := by decide +kernel
theorem dX11_loses_49 : decode cX11_loses 49 = .ok (.aload_n 0, 1) := by decide +kernel
theorem dX11_loses_50 : decode cX11_loses 50 = .ok (.aload_n 0, 1) := by decide +kernel
theorem dX11_loses_51 : decode cX11_loses 51 = .ok (.getfield 26, 3) := by decide +kernel
theorem dX11_loses_54 : decode cX11_loses 54 = .ok (.bipush 60, 2) := by decide +kernel
theorem dX11_loses_56 : decode cX11_loses 56 = .ok (.iaload, 1) := by decide +kernel
theorem dX11_loses_57 : decode cX11_loses 57 = .ok (.iconst 1, 1) := by decide +kernel
theorem dX11_loses_58 : decode cX11_loses 58 = .ok (.iload_n 1, 1) := by decide +kernel
theorem dX11_loses_59 : decode cX11_loses 59 = .ok (.ishl, 1) := by decide +kernel
theorem dX11_loses_60 : decode cX11_loses 60 = .ok (.ior, 1) := by decide +kernel
theorem dX11_loses_61 : decode cX11_loses 61 = .ok (.invokevirtual 322, 3) := by decide +kernel
theorem dX11_loses_64 : decode cX11_loses 64 = .ok (.iconst (-1), 1) := by decide +kernel
theorem dX11_loses_65 : decode cX11_loses 65 = .ok (.ixor, 1) := by decide +kernel
theorem dX11_loses_66 : decode cX11_loses 66 = .ok (.iand, 1) := by decide +kernel
theorem dX11_loses_67 : decode cX11_loses 67 = .ok (.ireturn, 1) := by decide +kernel
theorem dX11_treaty_0 : decode cX11_treaty 0 = .ok (.aload_n 0, 1) := by decide +kernel
theorem dX11_treaty_1 : decode cX11_treaty 1 = .ok (.invokevirtual 156, 3) := by decide +kernel
theorem dX11_treaty_4 : decode cX11_treaty 4 = .ok (.aload_n 0, 1) := by decide +kernel
theorem dX11_treaty_5 : decode cX11_treaty 5 = .ok (.iload_n 1, 1) := by decide +kernel
theorem dX11_treaty_6 : decode cX11_treaty 6 = .ok (.invokevirtual 303, 3) := by decide +kernel
theorem dX11_treaty_9 : decode cX11_treaty 9 = .ok (.ifCond .ne 9, 3) := by decide +kernel
theorem dX11_treaty_12 : decode cX11_treaty 12 = .ok (.aload_n 0, 1) := by decide +kernel
theorem dX11_treaty_13 : decode cX11_treaty 13 = .ok (.iconst 1, 1) := by decide +kernel
theorem dX11_treaty_14 : decode cX11_treaty 14 = .ok (.invokevirtual 159, 3) := by decide +kernel
theorem dX11_treaty_17 : decode cX11_treaty 17 = .ok (.ireturn, 1) := by decide +kernel
theorem dX11_treaty_18 : decode cX11_treaty 18 = .ok (.iconst 0, 1) := by decide +kernel
theorem dX11_treaty_19 : decode cX11_treaty 19 = .ok (.istore_n 3, 1) := by decide +kernel
theorem dX11_treaty_20 : decode cX11_treaty 20 = .ok (.iload_n 3, 1) := by decide +kernel
theorem dX11_treaty_21 : decode cX11_treaty 21 = .ok (.aload_n 0, 1) := by decide +kernel
theorem dX11_treaty_22 : decode cX11_treaty 22 = .ok (.getfield 20, 3) := by decide +kernel
theorem dX11_treaty_25 : decode cX11_treaty 25 = .ok (.iconst 0, 1) := by decide +kernel
theorem dX11_treaty_26 : decode cX11_treaty 26 = .ok (.iaload, 1) := by decide +kernel
theorem dX11_treaty_27 : decode cX11_treaty 27 = .ok (.if_icmp .ge 132, 3) := by decide +kernel
theorem dX11_treaty_30 : decode cX11_treaty 30 = .ok (.aload_n 0, 1) := by decide +kernel
theorem dX11_treaty_31 : decode cX11_treaty 31 = .ok (.getfield 26, 3) := by decide +kernel
theorem dX11_treaty_34 : decode cX11_treaty 34 = .ok (.bipush 60, 2) := by decide +kernel
theorem dX11_treaty_36 : decode cX11_treaty 36 = .ok (.iaload, 1) := by decide +kernel
theorem dX11_treaty_37 : decode cX11_treaty 37 = .ok (.iload_n 3, 1) := by decide +kernel
theorem dX11_treaty_38 : decode cX11_treaty 38 = .ok (.invokestatic 259, 3) := by decide +kernel
theorem dX11_treaty_41 : decode cX11_treaty 41 = .ok (.ifCond .eq 6, 3) := by decide +kernel
theorem dX11_treaty_44 : decode cX11_treaty 44 = .ok (.goto 109, 3) := by decide +kernel
theorem dX11_treaty_47 : decode cX11_treaty 47 = .ok (.iconst 0, 1) := by decide +kernel
theorem dX11_treaty_48 : decode cX11_treaty 48 = .ok (.istore 4, 2) := by decide +kernel
theorem dX11_treaty_50 : decode cX11_treaty 50 = .ok (.iload 4, 2) := by decide +kernel
theorem dX11_treaty_52 : decode cX11_treaty 52 = .ok (.aload_n 0, 1) := by decide +kernel
theorem dX11_treaty_53 : decode cX11_treaty 53 = .ok (.getfield 20, 3) := by decide +kernel
theorem dX11_treaty_56 : decode cX11_treaty 56 = .ok (.invokestatic 178, 3) := by decide +kernel
theorem dX11_treaty_59 : decode cX11_treaty 59 = .ok (.if_icmp .gt 94, 3) := by decide +kernel
theorem dX11_treaty_62 : decode cX11_treaty 62 = .ok (.iconst 0, 1) := by decide +kernel
theorem dX11_treaty_63 : decode cX11_treaty 63 = .ok (.istore 5, 2) := by decide +kernel
theorem dX11_treaty_65 : decode cX11_treaty 65 = .ok (.iload 5, 2) := by decide +kernel
theorem dX11_treaty_67 : decode cX11_treaty 67 = .ok (.iconst 2, 1) := by decide +kernel
theorem dX11_treaty_68 : decode cX11_treaty 68 = .ok (.if_icmp .ge 79, 3) := by decide +kernel
theorem dX11_treaty_71 : decode cX11_treaty 71 = .ok (.aload_n 0, 1) := by decide +kernel
theorem dX11_treaty_72 : decode cX11_treaty 72 = .ok (.iload_n 1, 1) := by decide +kernel
theorem dX11_treaty_73 : decode cX11_treaty 73 = .ok (.iload 5, 2) := by decide +kernel
theorem dX11_treaty_75 : decode cX11_treaty 75 = .ok (.iload 4, 2) := by decide +kernel
theorem dX11_treaty_77 : decode cX11_treaty 77 = .ok (.invokevirtual 309, 3) := by decide +kernel
theorem dX11_treaty_80 : decode cX11_treaty 80 = .ok (.ifCond .gt 61, 3) := by decide +kernel
theorem dX11_treaty_83 : decode cX11_treaty 83 = .ok (.aload_n 0, 1) := by decide +kernel
theorem dX11_treaty_84 : decode cX11_treaty 84 = .ok (.bipush 16, 2) := by decide +kernel
theorem dX11_treaty_86 : decode cX11_treaty 86 = .ok (.bipush 8, 2) := by decide +kernel
theorem dX11_treaty_88 : decode cX11_treaty 88 = .ok (.iload_n 1, 1) := by decide +kernel
theorem dX11_treaty_89 : decode cX11_treaty 89 = .ok (.imul, 1) := by decide +kernel
theorem dX11_treaty_90 : decode cX11_treaty 90 = .ok (.iadd, 1) := by decide +kernel
theorem dX11_treaty_91 : decode cX11_treaty 91 = .ok (.aload_n 0, 1) := by decide +kernel
theorem dX11_treaty_92 : decode cX11_treaty 92 = .ok (.getfield 20, 3) := by decide +kernel
theorem dX11_treaty_95 : decode cX11_treaty 95 = .ok (.bipush 10, 2) := by decide +kernel
theorem dX11_treaty_97 : decode cX11_treaty 97 = .ok (.iload_n 1, 1) := by decide +kernel
theorem dX11_treaty_98 : decode cX11_treaty 98 = .ok (.iadd, 1) := by decide +kernel
theorem dX11_treaty_99 : decode cX11_treaty 99 = .ok (.iaload, 1) := by decide +kernel
theorem dX11_treaty_100 : decode cX11_treaty 100 = .ok (.iload 5, 2) := by decide +kernel
theorem dX11_treaty_102 : decode cX11_treaty 102 = .ok (.iload 4, 2) := by decide +kernel
theorem dX11_treaty_104 : decode cX11_treaty 104 = .ok (.aload_n 0, 1) := by decide +kernel
theorem dX11_treaty_105 : decode cX11_treaty 105 = .ok (.getfield 26, 3) := by decide +kernel
theorem dX11_treaty_108 : decode cX11_treaty 108 = .ok (.bipush 60, 2) := by decide +kernel
theorem dX11_treaty_110 : decode cX11_treaty 110 = .ok (.iaload, 1) := by decide +kernel
theorem dX11_treaty_111 : decode cX11_treaty 111 = .ok (.iconst 1, 1) := by decide +kernel
theorem dX11_treaty_112 : decode cX11_treaty 112 = .ok (.iload_n 3, 1) := by decide +kernel
theorem dX11_treaty_113 : decode cX11_treaty 113 = .ok (.ishl, 1) := by decide +kernel
theorem dX11_treaty_114 : decode cX11_treaty 114 = .ok (.ior, 1) := by decide +kernel
theorem dX11_treaty_115 : decode cX11_treaty 115 = .ok (.invokevirtual 299, 3) := by decide +kernel
theorem dX11_treaty_118 : decode cX11_treaty 118 = .ok (.ifCond .ne 6, 3) := by decide +kernel
theorem dX11_treaty_121 : decode cX11_treaty 121 = .ok (.goto 20, 3) := by decide +kernel
theorem dX11_treaty_124 : decode cX11_treaty 124 = .ok (.iload_n 2, 1) := by decide +kernel
theorem dX11_treaty_125 : decode cX11_treaty 125 = .ok (.ifCond .eq 14, 3) := by decide +kernel
theorem dX11_treaty_128 : decode cX11_treaty 128 = .ok (.bipush 50, 2) := by decide +kernel
theorem dX11_treaty_130 : decode cX11_treaty 130 = .ok (.iload 5, 2) := by decide +kernel
theorem dX11_treaty_132 : decode cX11_treaty 132 = .ok (.imul, 1) := by decide +kernel
theorem dX11_treaty_133 : decode cX11_treaty 133 = .ok (.iload 4, 2) := by decide +kernel
theorem dX11_treaty_135 : decode cX11_treaty 135 = .ok (.iadd, 1) := by decide +kernel
theorem dX11_treaty_136 : decode cX11_treaty 136 = .ok (.goto 4, 3) := by decide +kernel
theorem dX11_treaty_139 : decode cX11_treaty 139 = .ok (.iload_n 3, 1) := by decide +kernel
theorem dX11_treaty_140 : decode cX11_treaty 140 = .ok (.ireturn, 1) := by decide +kernel
theorem dX11_treaty_141 : decode cX11_treaty 141 = .ok (.iinc 5 1, 3) := by decide +kernel
theorem dX11_treaty_144 : decode cX11_treaty 144 = .ok (.goto (-79), 3) := by decide +kernel
theorem dX11_treaty_147 : decode cX11_treaty 147 = .ok (.iinc 4 1, 3) := by decide +kernel
theorem dX11_treaty_150 : decode cX11_treaty 150 = .ok (.goto (-100), 3) := by decide +kernel
theorem dX11_treaty_153 : decode cX11_treaty 153 = .ok (.iinc 3 1, 3) := by decide +kernel
theorem dX11_treaty_156 : decode cX11_treaty 156 = .ok (.goto (-136), 3) := by decide +kernel
theorem dX11_treaty_159 : decode cX11_treaty 159 = .ok (.bipush (-2), 2) := by decide +kernel
theorem dX11_treaty_161 : decode cX11_treaty 161 = .ok (.ireturn, 1) := by decide +kernel
theorem dX11_bits_0 : decode cX11_bits 0 = .ok (.iconst 0, 1) := by decide +kernel
theorem dX11_bits_1 : decode cX11_bits 1 = .ok (.istore_n 1, 1) := by decide +kernel
theorem dX11_bits_2 : decode cX11_bits 2 = .ok (.iconst 0, 1) := by decide +kernel
theorem dX11_bits_3 : decode cX11_bits 3 = .ok (.istore_n 2, 1) := by decide +kernel
theorem dX11_bits_4 : decode cX11_bits 4 = .ok (.iload_n 2, 1) := by decide +kernel
theorem dX11_bits_5 : decode cX11_bits 5 = .ok (.bipush 10, 2) := by decide +kernel
theorem dX11_bits_7 : decode cX11_bits 7 = .ok (.if_icmp .ge 17, 3) := by decide +kernel
theorem dX11_bits_10 : decode cX11_bits 10 = .ok (.iload_n 1, 1) := by decide +kernel
theorem dX11_bits_11 : decode cX11_bits 11 = .ok (.iload_n 0, 1) := by decide +kernel
theorem dX11_bits_12 : decode cX11_bits 12 = .ok (.iload_n 2, 1) := by decide +kernel
theorem dX11_bits_13 : decode cX11_bits 13 = .ok (.ishr, 1) := by decide +kernel
theorem dX11_bits_14 : decode cX11_bits 14 = .ok (.iconst 1, 1) := by decide +kernel
theorem dX11_bits_15 : decode cX11_bits 15 = .ok (.iand, 1) := by decide +kernel
theorem dX11_bits_16 : decode cX11_bits 16 = .ok (.iadd, 1) := by decide +kernel
theorem dX11_bits_17 : decode cX11_bits 17 = .ok (.istore_n 1, 1) := by decide +kernel
theorem dX11_bits_18 : decode cX11_bits 18 = .ok (.iinc 2 1, 3) := by decide +kernel
theorem dX11_bits_21 : decode cX11_bits 21 = .ok (.goto (-17), 3) := by decide +kernel
theorem dX11_bits_24 : decode cX11_bits 24 = .ok (.iload_n 1, 1) := by decide +kernel
theorem dX11_bits_25 : decode cX11_bits 25 = .ok (.ireturn, 1) := by decide +kernel
theorem dX11_sever_0 : decode cX11_sever 0 = .ok (.aload_n 0, 1) := by decide +kernel
theorem dX11_sever_1 : decode cX11_sever 1 = .ok (.invokevirtual 156, 3) := by decide +kernel
theorem dX11_sever_4 : decode cX11_sever 4 = .ok (.aload_n 0, 1) := by decide +kernel
theorem dX11_sever_5 : decode cX11_sever 5 = .ok (.iload_n 1, 1) := by decide +kernel
theorem dX11_sever_6 : decode cX11_sever 6 = .ok (.iload_n 2, 1) := by decide +kernel
theorem dX11_sever_7 : decode cX11_sever 7 = .ok (.iload_n 3, 1) := by decide +kernel
theorem dX11_sever_8 : decode cX11_sever 8 = .ok (.invokevirtual 306, 3) := by decide +kernel
theorem dX11_sever_11 : decode cX11_sever 11 = .ok (.istore 5, 2) := by decide +kernel
theorem dX11_sever_13 : decode cX11_sever 13 = .ok (.iload 5, 2) := by decide +kernel
theorem dX11_sever_15 : decode cX11_sever 15 = .ok (.ifCond .eq 10, 3) := by decide +kernel
theorem dX11_sever_18 : decode cX11_sever 18 = .ok (.aload_n 0, 1) := by decide +kernel
theorem dX11_sever_19 : decode cX11_sever 19 = .ok (.iload 5, 2) := by decide +kernel
theorem dX11_sever_21 : decode cX11_sever 21 = .ok (.invokevirtual 159, 3) := by decide +kernel
theorem dX11_sever_24 : decode cX11_sever 24 = .ok (.ireturn, 1) := by decide +kernel
theorem dX11_sever_25 : decode cX11_sever 25 = .ok (.bipush (-2), 2) := by decide +kernel
theorem dX11_sever_27 : decode cX11_sever 27 = .ok (.istore 6, 2) := by decide +kernel
theorem dX11_sever_29 : decode cX11_sever 29 = .ok (.iconst 0, 1) := by decide +kernel
theorem dX11_sever_30 : decode cX11_sever 30 = .ok (.istore 7, 2) := by decide +kernel
theorem dX11_sever_32 : decode cX11_sever 32 = .ok (.iload 7, 2) := by decide +kernel
theorem dX11_sever_34 : decode cX11_sever 34 = .ok (.iconst 1, 1) := by decide +kernel
theorem dX11_sever_35 : decode cX11_sever 35 = .ok (.aload_n 0, 1) := by decide +kernel
theorem dX11_sever_36 : decode cX11_sever 36 = .ok (.getfield 20, 3) := by decide +kernel
theorem dX11_sever_39 : decode cX11_sever 39 = .ok (.iconst 0, 1) := by decide +kernel
theorem dX11_sever_40 : decode cX11_sever 40 = .ok (.iaload, 1) := by decide +kernel
theorem dX11_sever_41 : decode cX11_sever 41 = .ok (.ishl, 1) := by decide +kernel
theorem dX11_sever_42 : decode cX11_sever 42 = .ok (.if_icmp .ge 84, 3) := by decide +kernel
theorem dX11_sever_45 : decode cX11_sever 45 = .ok (.iload 7, 2) := by decide +kernel
theorem dX11_sever_47 : decode cX11_sever 47 = .ok (.aload_n 0, 1) := by decide +kernel
theorem dX11_sever_48 : decode cX11_sever 48 = .ok (.getfield 26, 3) := by decide +kernel
theorem dX11_sever_51 : decode cX11_sever 51 = .ok (.bipush 60, 2) := by decide +kernel
theorem dX11_sever_53 : decode cX11_sever 53 = .ok (.iaload, 1) := by decide +kernel
theorem dX11_sever_54 : decode cX11_sever 54 = .ok (.iand, 1) := by decide +kernel
theorem dX11_sever_55 : decode cX11_sever 55 = .ok (.ifCond .ne 65, 3) := by decide +kernel
theorem dX11_sever_58 : decode cX11_sever 58 = .ok (.iload 6, 2) := by decide +kernel
theorem dX11_sever_60 : decode cX11_sever 60 = .ok (.bipush (-2), 2) := by decide +kernel
theorem dX11_sever_62 : decode cX11_sever 62 = .ok (.if_icmp .eq 19, 3) := by decide +kernel
theorem dX11_sever_65 : decode cX11_sever 65 = .ok (.iload 7, 2) := by decide +kernel
theorem dX11_sever_67 : decode cX11_sever 67 = .ok (.invokestatic 347, 3) := by decide +kernel
theorem dX11_sever_70 : decode cX11_sever 70 = .ok (.iload 6, 2) := by decide +kernel
theorem dX11_sever_72 : decode cX11_sever 72 = .ok (.invokestatic 347, 3) := by decide +kernel
theorem dX11_sever_75 : decode cX11_sever 75 = .ok (.if_icmp .lt 6, 3) := by decide +kernel
theorem dX11_sever_78 : decode cX11_sever 78 = .ok (.goto 42, 3) := by decide +kernel
theorem dX11_sever_81 : decode cX11_sever 81 = .ok (.aload_n 0, 1) := by decide +kernel
theorem dX11_sever_82 : decode cX11_sever 82 = .ok (.bipush 16, 2) := by decide +kernel
theorem dX11_sever_84 : decode cX11_sever 84 = .ok (.bipush 8, 2) := by decide +kernel
theorem dX11_sever_86 : decode cX11_sever 86 = .ok (.iload_n 1, 1) := by decide +kernel
theorem dX11_sever_87 : decode cX11_sever 87 = .ok (.imul, 1) := by decide +kernel
theorem dX11_sever_88 : decode cX11_sever 88 = .ok (.iadd, 1) := by decide +kernel
theorem dX11_sever_89 : decode cX11_sever 89 = .ok (.aload_n 0, 1) := by decide +kernel
theorem dX11_sever_90 : decode cX11_sever 90 = .ok (.getfield 20, 3) := by decide +kernel
theorem dX11_sever_93 : decode cX11_sever 93 = .ok (.bipush 10, 2) := by decide +kernel
theorem dX11_sever_95 : decode cX11_sever 95 = .ok (.iload_n 1, 1) := by decide +kernel
theorem dX11_sever_96 : decode cX11_sever 96 = .ok (.iadd, 1) := by decide +kernel
theorem dX11_sever_97 : decode cX11_sever 97 = .ok (.iaload, 1) := by decide +kernel
theorem dX11_sever_98 : decode cX11_sever 98 = .ok (.iload_n 2, 1) := by decide +kernel
theorem dX11_sever_99 : decode cX11_sever 99 = .ok (.iload_n 3, 1) := by decide +kernel
theorem dX11_sever_100 : decode cX11_sever 100 = .ok (.aload_n 0, 1) := by decide +kernel
theorem dX11_sever_101 : decode cX11_sever 101 = .ok (.getfield 26, 3) := by decide +kernel
theorem dX11_sever_104 : decode cX11_sever 104 = .ok (.bipush 60, 2) := by decide +kernel
theorem dX11_sever_106 : decode cX11_sever 106 = .ok (.iaload, 1) := by decide +kernel
theorem dX11_sever_107 : decode cX11_sever 107 = .ok (.iload 7, 2) := by decide +kernel
theorem dX11_sever_109 : decode cX11_sever 109 = .ok (.ior, 1) := by decide +kernel
theorem dX11_sever_110 : decode cX11_sever 110 = .ok (.invokevirtual 299, 3) := by decide +kernel
theorem dX11_sever_113 : decode cX11_sever 113 = .ok (.ifCond .le 7, 3) := by decide +kernel
theorem dX11_sever_116 : decode cX11_sever 116 = .ok (.iload 7, 2) := by decide +kernel
theorem dX11_sever_118 : decode cX11_sever 118 = .ok (.istore 6, 2) := by decide +kernel
theorem dX11_sever_120 : decode cX11_sever 120 = .ok (.iinc 7 1, 3) := by decide +kernel
theorem dX11_sever_123 : decode cX11_sever 123 = .ok (.goto (-91), 3) := by decide +kernel
theorem dX11_sever_126 : decode cX11_sever 126 = .ok (.iload 6, 2) := by decide +kernel
theorem dX11_sever_128 : decode cX11_sever 128 = .ok (.bipush (-2), 2) := by decide +kernel
theorem dX11_sever_130 : decode cX11_sever 130 = .ok (.if_icmp .ne 8, 3) := by decide +kernel
theorem dX11_sever_133 : decode cX11_sever 133 = .ok (.bipush (-2), 2) := by decide +kernel
theorem dX11_sever_135 : decode cX11_sever 135 = .ok (.goto 18, 3) := by decide +kernel
theorem dX11_sever_138 : decode cX11_sever 138 = .ok (.iload 4, 2) := by decide +kernel
theorem dX11_sever_140 : decode cX11_sever 140 = .ok (.ifCond .eq 8, 3) := by decide +kernel
theorem dX11_sever_143 : decode cX11_sever 143 = .ok (.iload 6, 2) := by decide +kernel
theorem dX11_sever_145 : decode cX11_sever 145 = .ok (.goto 8, 3) := by decide +kernel
theorem dX11_sever_148 : decode cX11_sever 148 = .ok (.iload 6, 2) := by decide +kernel
theorem dX11_sever_150 : decode cX11_sever 150 = .ok (.invokestatic 347, 3) := by decide +kernel
theorem dX11_sever_153 : decode cX11_sever 153 = .ok (.ireturn, 1) := by decide +kernel
theorem dX11_letterOf_0 : decode cX11_letterOf 0 = .ok (.aload_n 0, 1) := by decide +kernel
theorem dX11_letterOf_1 : decode cX11_letterOf 1 = .ok (.getfield 20, 3) := by decide +kernel
theorem dX11_letterOf_4 : decode cX11_letterOf 4 = .ok (.bipush 16, 2) := by decide +kernel
theorem dX11_letterOf_6 : decode cX11_letterOf 6 = .ok (.bipush 8, 2) := by decide +kernel
theorem dX11_letterOf_8 : decode cX11_letterOf 8 = .ok (.iload_n 1, 1) := by decide +kernel
theorem dX11_letterOf_9 : decode cX11_letterOf 9 = .ok (.imul, 1) := by decide +kernel
theorem dX11_letterOf_10 : decode cX11_letterOf 10 = .ok (.iadd, 1) := by decide +kernel
theorem dX11_letterOf_11 : decode cX11_letterOf 11 = .ok (.iload_n 2, 1) := by decide +kernel
theorem dX11_letterOf_12 : decode cX11_letterOf 12 = .ok (.iadd, 1) := by decide +kernel
theorem dX11_letterOf_13 : decode cX11_letterOf 13 = .ok (.iaload, 1) := by decide +kernel
theorem dX11_letterOf_14 : decode cX11_letterOf 14 = .ok (.ireturn, 1) := by decide +kernel
theorem dX11_isIn_0 : decode cX11_isIn 0 = .ok (.iconst 0, 1) := by decide +kernel
theorem dX11_isIn_1 : decode cX11_isIn 1 = .ok (.istore_n 3, 1) := by decide +kernel
theorem dX11_isIn_2 : decode cX11_isIn 2 = .ok (.iload_n 3, 1) := by decide +kernel
theorem dX11_isIn_3 : decode cX11_isIn 3 = .ok (.aload_n 0, 1) := by decide +kernel
theorem dX11_isIn_4 : decode cX11_isIn 4 = .ok (.getfield 20, 3) := by decide +kernel
theorem dX11_isIn_7 : decode cX11_isIn 7 = .ok (.bipush 10, 2) := by decide +kernel
theorem dX11_isIn_9 : decode cX11_isIn 9 = .ok (.iload_n 1, 1) := by decide +kernel
theorem dX11_isIn_10 : decode cX11_isIn 10 = .ok (.iadd, 1) := by decide +kernel
theorem dX11_isIn_11 : decode cX11_isIn 11 = .ok (.iaload, 1) := by decide +kernel
theorem dX11_isIn_12 : decode cX11_isIn 12 = .ok (.iadd, 1) := by decide +kernel
theorem dX11_isIn_13 : decode cX11_isIn 13 = .ok (.aload_n 0, 1) := by decide +kernel
theorem dX11_isIn_14 : decode cX11_isIn 14 = .ok (.getfield 20, 3) := by decide +kernel
theorem dX11_isIn_17 : decode cX11_isIn 17 = .ok (.bipush 10, 2) := by decide +kernel
theorem dX11_isIn_19 : decode cX11_isIn 19 = .ok (.iload_n 2, 1) := by decide +kernel
theorem dX11_isIn_20 : decode cX11_isIn 20 = .ok (.iadd, 1) := by decide +kernel
theorem dX11_isIn_21 : decode cX11_isIn 21 = .ok (.iaload, 1) := by decide +kernel
theorem dX11_isIn_22 : decode cX11_isIn 22 = .ok (.if_icmp .gt 73, 3) := by decide +kernel
theorem dX11_isIn_25 : decode cX11_isIn 25 = .ok (.iconst 1, 1) := by decide +kernel
theorem dX11_isIn_26 : decode cX11_isIn 26 = .ok (.istore 4, 2) := by decide +kernel
theorem dX11_isIn_28 : decode cX11_isIn 28 = .ok (.iconst 0, 1) := by decide +kernel
theorem dX11_isIn_29 : decode cX11_isIn 29 = .ok (.istore 5, 2) := by decide +kernel
theorem dX11_isIn_31 : decode cX11_isIn 31 = .ok (.iload 5, 2) := by decide +kernel
theorem dX11_isIn_33 : decode cX11_isIn 33 = .ok (.aload_n 0, 1) := by decide +kernel
theorem dX11_isIn_34 : decode cX11_isIn 34 = .ok (.getfield 20, 3) := by decide +kernel
theorem dX11_isIn_37 : decode cX11_isIn 37 = .ok (.bipush 10, 2) := by decide +kernel
theorem dX11_isIn_39 : decode cX11_isIn 39 = .ok (.iload_n 1, 1) := by decide +kernel
theorem dX11_isIn_40 : decode cX11_isIn 40 = .ok (.iadd, 1) := by decide +kernel
theorem dX11_isIn_41 : decode cX11_isIn 41 = .ok (.iaload, 1) := by decide +kernel
theorem dX11_isIn_42 : decode cX11_isIn 42 = .ok (.if_icmp .ge 40, 3) := by decide +kernel
theorem dX11_isIn_45 : decode cX11_isIn 45 = .ok (.iload 4, 2) := by decide +kernel
theorem dX11_isIn_47 : decode cX11_isIn 47 = .ok (.ifCond .eq 35, 3) := by decide +kernel
theorem dX11_isIn_50 : decode cX11_isIn 50 = .ok (.aload_n 0, 1) := by decide +kernel
theorem dX11_isIn_51 : decode cX11_isIn 51 = .ok (.iload_n 1, 1) := by decide +kernel
theorem dX11_isIn_52 : decode cX11_isIn 52 = .ok (.iload 5, 2) := by decide +kernel
theorem dX11_isIn_54 : decode cX11_isIn 54 = .ok (.invokevirtual 350, 3) := by decide +kernel
theorem dX11_isIn_57 : decode cX11_isIn 57 = .ok (.aload_n 0, 1) := by decide +kernel
theorem dX11_isIn_58 : decode cX11_isIn 58 = .ok (.iload_n 2, 1) := by decide +kernel
theorem dX11_isIn_59 : decode cX11_isIn 59 = .ok (.iload_n 3, 1) := by decide +kernel
theorem dX11_isIn_60 : decode cX11_isIn 60 = .ok (.iload 5, 2) := by decide +kernel
theorem dX11_isIn_62 : decode cX11_isIn 62 = .ok (.iadd, 1) := by decide +kernel
theorem dX11_isIn_63 : decode cX11_isIn 63 = .ok (.invokevirtual 350, 3) := by decide +kernel
theorem dX11_isIn_66 : decode cX11_isIn 66 = .ok (.if_icmp .ne 7, 3) := by decide +kernel
theorem dX11_isIn_69 : decode cX11_isIn 69 = .ok (.iconst 1, 1) := by decide +kernel
theorem dX11_isIn_70 : decode cX11_isIn 70 = .ok (.goto 4, 3) := by decide +kernel
theorem dX11_isIn_73 : decode cX11_isIn 73 = .ok (.iconst 0, 1) := by decide +kernel
theorem dX11_isIn_74 : decode cX11_isIn 74 = .ok (.istore 4, 2) := by decide +kernel
theorem dX11_isIn_76 : decode cX11_isIn 76 = .ok (.iinc 5 1, 3) := by decide +kernel
theorem dX11_isIn_79 : decode cX11_isIn 79 = .ok (.goto (-48), 3) := by decide +kernel
theorem dX11_isIn_82 : decode cX11_isIn 82 = .ok (.iload 4, 2) := by decide +kernel
theorem dX11_isIn_84 : decode cX11_isIn 84 = .ok (.ifCond .eq 5, 3) := by decide +kernel
theorem dX11_isIn_87 : decode cX11_isIn 87 = .ok (.iconst 1, 1) := by decide +kernel
theorem dX11_isIn_88 : decode cX11_isIn 88 = .ok (.ireturn, 1) := by decide +kernel
theorem dX11_isIn_89 : decode cX11_isIn 89 = .ok (.iinc 3 1, 3) := by decide +kernel
theorem dX11_isIn_92 : decode cX11_isIn 92 = .ok (.goto (-90), 3) := by decide +kernel
theorem dX11_isIn_95 : decode cX11_isIn 95 = .ok (.iconst 0, 1) := by decide +kernel
theorem dX11_isIn_96 : decode cX11_isIn 96 = .ok (.ireturn, 1) := by decide +kernel
theorem dX11_overlap_0 : decode cX11_overlap 0 = .ok (.aload_n 0, 1) := by decide +kernel
theorem dX11_overlap_1 : decode cX11_overlap 1 = .ok (.getfield 20, 3) := by decide +kernel
theorem dX11_overlap_4 : decode cX11_overlap 4 = .ok (.bipush 10, 2) := by decide +kernel
theorem dX11_overlap_6 : decode cX11_overlap 6 = .ok (.iload_n 1, 1) := by decide +kernel
theorem dX11_overlap_7 : decode cX11_overlap 7 = .ok (.iadd, 1) := by decide +kernel
theorem dX11_overlap_8 : decode cX11_overlap 8 = .ok (.iaload, 1) := by decide +kernel
theorem dX11_overlap_9 : decode cX11_overlap 9 = .ok (.aload_n 0, 1) := by decide +kernel
theorem dX11_overlap_10 : decode cX11_overlap 10 = .ok (.getfield 20, 3) := by decide +kernel
theorem dX11_overlap_13 : decode cX11_overlap 13 = .ok (.bipush 10, 2) := by decide +kernel
theorem dX11_overlap_15 : decode cX11_overlap 15 = .ok (.iload_n 2, 1) := by decide +kernel
theorem dX11_overlap_16 : decode cX11_overlap 16 = .ok (.iadd, 1) := by decide +kernel
theorem dX11_overlap_17 : decode cX11_overlap 17 = .ok (.iaload, 1) := by decide +kernel
theorem dX11_overlap_18 : decode cX11_overlap 18 = .ok (.if_icmp .ge 15, 3) := by decide +kernel
theorem dX11_overlap_21 : decode cX11_overlap 21 = .ok (.aload_n 0, 1) := by decide +kernel
theorem dX11_overlap_22 : decode cX11_overlap 22 = .ok (.getfield 20, 3) := by decide +kernel
theorem dX11_overlap_25 : decode cX11_overlap 25 = .ok (.bipush 10, 2) := by decide +kernel
theorem dX11_overlap_27 : decode cX11_overlap 27 = .ok (.iload_n 1, 1) := by decide +kernel
theorem dX11_overlap_28 : decode cX11_overlap 28 = .ok (.iadd, 1) := by decide +kernel
theorem dX11_overlap_29 : decode cX11_overlap 29 = .ok (.iaload, 1) := by decide +kernel
theorem dX11_overlap_30 : decode cX11_overlap 30 = .ok (.goto 12, 3) := by decide +kernel
theorem dX11_overlap_33 : decode cX11_overlap 33 = .ok (.aload_n 0, 1) := by decide +kernel
theorem dX11_overlap_34 : decode cX11_overlap 34 = .ok (.getfield 20, 3) := by decide +kernel
theorem dX11_overlap_37 : decode cX11_overlap 37 = .ok (.bipush 10, 2) := by decide +kernel
theorem dX11_overlap_39 : decode cX11_overlap 39 = .ok (.iload_n 2, 1) := by decide +kernel
theorem dX11_overlap_40 : decode cX11_overlap 40 = .ok (.iadd, 1) := by decide +kernel
theorem dX11_overlap_41 : decode cX11_overlap 41 = .ok (.iaload, 1) := by decide +kernel
theorem dX11_overlap_42 : decode cX11_overlap 42 = .ok (.istore_n 3, 1) := by decide +kernel
theorem dX11_overlap_43 : decode cX11_overlap 43 = .ok (.iload_n 3, 1) := by decide +kernel
theorem dX11_overlap_44 : decode cX11_overlap 44 = .ok (.istore 4, 2) := by decide +kernel
theorem dX11_overlap_46 : decode cX11_overlap 46 = .ok (.iload 4, 2) := by decide +kernel
theorem dX11_overlap_48 : decode cX11_overlap 48 = .ok (.ifCond .le 78, 3) := by decide +kernel
theorem dX11_overlap_51 : decode cX11_overlap 51 = .ok (.iconst 1, 1) := by decide +kernel
theorem dX11_overlap_52 : decode cX11_overlap 52 = .ok (.istore 5, 2) := by decide +kernel
theorem dX11_overlap_54 : decode cX11_overlap 54 = .ok (.iconst 0, 1) := by decide +kernel
theorem dX11_overlap_55 : decode cX11_overlap 55 = .ok (.istore 6, 2) := by decide +kernel
theorem dX11_overlap_57 : decode cX11_overlap 57 = .ok (.iload 6, 2) := by decide +kernel
theorem dX11_overlap_59 : decode cX11_overlap 59 = .ok (.iload 4, 2) := by decide +kernel
theorem dX11_overlap_61 : decode cX11_overlap 61 = .ok (.if_icmp .ge 51, 3) := by decide +kernel
theorem dX11_overlap_64 : decode cX11_overlap 64 = .ok (.iload 5, 2) := by decide +kernel
theorem dX11_overlap_66 : decode cX11_overlap 66 = .ok (.ifCond .eq 46, 3) := by decide +kernel
theorem dX11_overlap_69 : decode cX11_overlap 69 = .ok (.aload_n 0, 1) := by decide +kernel
theorem dX11_overlap_70 : decode cX11_overlap 70 = .ok (.iload_n 1, 1) := by decide +kernel
theorem dX11_overlap_71 : decode cX11_overlap 71 = .ok (.aload_n 0, 1) := by decide +kernel
theorem dX11_overlap_72 : decode cX11_overlap 72 = .ok (.getfield 20, 3) := by decide +kernel
theorem dX11_overlap_75 : decode cX11_overlap 75 = .ok (.bipush 10, 2) := by decide +kernel
theorem dX11_overlap_77 : decode cX11_overlap 77 = .ok (.iload_n 1, 1) := by decide +kernel
theorem dX11_overlap_78 : decode cX11_overlap 78 = .ok (.iadd, 1) := by decide +kernel
theorem dX11_overlap_79 : decode cX11_overlap 79 = .ok (.iaload, 1) := by decide +kernel
theorem dX11_overlap_80 : decode cX11_overlap 80 = .ok (.iload 4, 2) := by decide +kernel
theorem dX11_overlap_82 : decode cX11_overlap 82 = .ok (.isub, 1) := by decide +kernel
theorem dX11_overlap_83 : decode cX11_overlap 83 = .ok (.iload 6, 2) := by decide +kernel
theorem dX11_overlap_85 : decode cX11_overlap 85 = .ok (.iadd, 1) := by decide +kernel
theorem dX11_overlap_86 : decode cX11_overlap 86 = .ok (.invokevirtual 350, 3) := by decide +kernel
theorem dX11_overlap_89 : decode cX11_overlap 89 = .ok (.aload_n 0, 1) := by decide +kernel
theorem dX11_overlap_90 : decode cX11_overlap 90 = .ok (.iload_n 2, 1) := by decide +kernel
theorem dX11_overlap_91 : decode cX11_overlap 91 = .ok (.iload 6, 2) := by decide +kernel
theorem dX11_overlap_93 : decode cX11_overlap 93 = .ok (.invokevirtual 350, 3) := by decide +kernel
theorem dX11_overlap_96 : decode cX11_overlap 96 = .ok (.if_icmp .ne 7, 3) := by decide +kernel
theorem dX11_overlap_99 : decode cX11_overlap 99 = .ok (.iconst 1, 1) := by decide +kernel
theorem dX11_overlap_100 : decode cX11_overlap 100 = .ok (.goto 4, 3) := by decide +kernel
theorem dX11_overlap_103 : decode cX11_overlap 103 = .ok (.iconst 0, 1) := by decide +kernel
theorem dX11_overlap_104 : decode cX11_overlap 104 = .ok (.istore 5, 2) := by decide +kernel
theorem dX11_overlap_106 : decode cX11_overlap 106 = .ok (.iinc 6 1, 3) := by decide +kernel
theorem dX11_overlap_109 : decode cX11_overlap 109 = .ok (.goto (-52), 3) := by decide +kernel
theorem dX11_overlap_112 : decode cX11_overlap 112 = .ok (.iload 5, 2) := by decide +kernel
theorem dX11_overlap_114 : decode cX11_overlap 114 = .ok (.ifCond .eq 6, 3) := by decide +kernel
theorem dX11_overlap_117 : decode cX11_overlap 117 = .ok (.iload 4, 2) := by decide +kernel
theorem dX11_overlap_119 : decode cX11_overlap 119 = .ok (.ireturn, 1) := by decide +kernel
theorem dX11_overlap_120 : decode cX11_overlap 120 = .ok (.iinc 4 (-1), 3) := by decide +kernel
theorem dX11_overlap_123 : decode cX11_overlap 123 = .ok (.goto (-77), 3) := by decide +kernel
theorem dX11_overlap_126 : decode cX11_overlap 126 = .ok (.iconst 0, 1) := by decide +kernel
theorem dX11_overlap_127 : decode cX11_overlap 127 = .ok (.ireturn, 1) := by decide +kernel
theorem dX11_rowOf_0 : decode cX11_rowOf 0 = .ok (.iconst 0, 1) := by decide +kernel
theorem dX11_rowOf_1 : decode cX11_rowOf 1 = .ok (.istore_n 2, 1) := by decide +kernel
theorem dX11_rowOf_2 : decode cX11_rowOf 2 = .ok (.iconst 0, 1) := by decide +kernel
theorem dX11_rowOf_3 : decode cX11_rowOf 3 = .ok (.istore_n 3, 1) := by decide +kernel
theorem dX11_rowOf_4 : decode cX11_rowOf 4 = .ok (.iload_n 3, 1) := by decide +kernel
theorem dX11_rowOf_5 : decode cX11_rowOf 5 = .ok (.aload_n 0, 1) := by decide +kernel
theorem dX11_rowOf_6 : decode cX11_rowOf 6 = .ok (.getfield 20, 3) := by decide +kernel
theorem dX11_rowOf_9 : decode cX11_rowOf 9 = .ok (.iconst 5, 1) := by decide +kernel
theorem dX11_rowOf_10 : decode cX11_rowOf 10 = .ok (.iaload, 1) := by decide +kernel
theorem dX11_rowOf_11 : decode cX11_rowOf 11 = .ok (.if_icmp .ge 88, 3) := by decide +kernel
theorem dX11_rowOf_14 : decode cX11_rowOf 14 = .ok (.iload_n 1, 1) := by decide +kernel
theorem dX11_rowOf_15 : decode cX11_rowOf 15 = .ok (.iload_n 3, 1) := by decide +kernel
theorem dX11_rowOf_16 : decode cX11_rowOf 16 = .ok (.invokestatic 259, 3) := by decide +kernel
theorem dX11_rowOf_19 : decode cX11_rowOf 19 = .ok (.istore 4, 2) := by decide +kernel
theorem dX11_rowOf_21 : decode cX11_rowOf 21 = .ok (.iconst 0, 1) := by decide +kernel
theorem dX11_rowOf_22 : decode cX11_rowOf 22 = .ok (.istore 5, 2) := by decide +kernel
theorem dX11_rowOf_24 : decode cX11_rowOf 24 = .ok (.iload 5, 2) := by decide +kernel
theorem dX11_rowOf_26 : decode cX11_rowOf 26 = .ok (.aload_n 0, 1) := by decide +kernel
theorem dX11_rowOf_27 : decode cX11_rowOf 27 = .ok (.getfield 20, 3) := by decide +kernel
theorem dX11_rowOf_30 : decode cX11_rowOf 30 = .ok (.iconst 5, 1) := by decide +kernel
theorem dX11_rowOf_31 : decode cX11_rowOf 31 = .ok (.iaload, 1) := by decide +kernel
theorem dX11_rowOf_32 : decode cX11_rowOf 32 = .ok (.if_icmp .ge 46, 3) := by decide +kernel
theorem dX11_rowOf_35 : decode cX11_rowOf 35 = .ok (.iload 4, 2) := by decide +kernel
theorem dX11_rowOf_37 : decode cX11_rowOf 37 = .ok (.ifCond .eq 32, 3) := by decide +kernel
theorem dX11_rowOf_40 : decode cX11_rowOf 40 = .ok (.iload 5, 2) := by decide +kernel
theorem dX11_rowOf_42 : decode cX11_rowOf 42 = .ok (.iload_n 3, 1) := by decide +kernel
theorem dX11_rowOf_43 : decode cX11_rowOf 43 = .ok (.if_icmp .eq 22, 3) := by decide +kernel
theorem dX11_rowOf_46 : decode cX11_rowOf 46 = .ok (.iload_n 1, 1) := by decide +kernel
theorem dX11_rowOf_47 : decode cX11_rowOf 47 = .ok (.iload 5, 2) := by decide +kernel
theorem dX11_rowOf_49 : decode cX11_rowOf 49 = .ok (.invokestatic 259, 3) := by decide +kernel
theorem dX11_rowOf_52 : decode cX11_rowOf 52 = .ok (.ifCond .eq 13, 3) := by decide +kernel
theorem dX11_rowOf_55 : decode cX11_rowOf 55 = .ok (.aload_n 0, 1) := by decide +kernel
theorem dX11_rowOf_56 : decode cX11_rowOf 56 = .ok (.iload_n 3, 1) := by decide +kernel
theorem dX11_rowOf_57 : decode cX11_rowOf 57 = .ok (.iload 5, 2) := by decide +kernel
theorem dX11_rowOf_59 : decode cX11_rowOf 59 = .ok (.invokevirtual 353, 3) := by decide +kernel
theorem dX11_rowOf_62 : decode cX11_rowOf 62 = .ok (.ifCond .ne 7, 3) := by decide +kernel
theorem dX11_rowOf_65 : decode cX11_rowOf 65 = .ok (.iconst 1, 1) := by decide +kernel
theorem dX11_rowOf_66 : decode cX11_rowOf 66 = .ok (.goto 4, 3) := by decide +kernel
theorem dX11_rowOf_69 : decode cX11_rowOf 69 = .ok (.iconst 0, 1) := by decide +kernel
theorem dX11_rowOf_70 : decode cX11_rowOf 70 = .ok (.istore 4, 2) := by decide +kernel
theorem dX11_rowOf_72 : decode cX11_rowOf 72 = .ok (.iinc 5 1, 3) := by decide +kernel
theorem dX11_rowOf_75 : decode cX11_rowOf 75 = .ok (.goto (-51), 3) := by decide +kernel
theorem dX11_rowOf_78 : decode cX11_rowOf 78 = .ok (.iload_n 2, 1) := by decide +kernel
theorem dX11_rowOf_79 : decode cX11_rowOf 79 = .ok (.iload 4, 2) := by decide +kernel
theorem dX11_rowOf_81 : decode cX11_rowOf 81 = .ok (.ifCond .eq 9, 3) := by decide +kernel
theorem dX11_rowOf_84 : decode cX11_rowOf 84 = .ok (.iconst 1, 1) := by decide +kernel
theorem dX11_rowOf_85 : decode cX11_rowOf 85 = .ok (.iload_n 3, 1) := by decide +kernel
theorem dX11_rowOf_86 : decode cX11_rowOf 86 = .ok (.ishl, 1) := by decide +kernel
theorem dX11_rowOf_87 : decode cX11_rowOf 87 = .ok (.goto 4, 3) := by decide +kernel
theorem dX11_rowOf_90 : decode cX11_rowOf 90 = .ok (.iconst 0, 1) := by decide +kernel
theorem dX11_rowOf_91 : decode cX11_rowOf 91 = .ok (.ior, 1) := by decide +kernel
theorem dX11_rowOf_92 : decode cX11_rowOf 92 = .ok (.istore_n 2, 1) := by decide +kernel
theorem dX11_rowOf_93 : decode cX11_rowOf 93 = .ok (.iinc 3 1, 3) := by decide +kernel
theorem dX11_rowOf_96 : decode cX11_rowOf 96 = .ok (.goto (-92), 3) := by decide +kernel
theorem dX11_rowOf_99 : decode cX11_rowOf 99 = .ok (.iload_n 2, 1) := by decide +kernel
theorem dX11_rowOf_100 : decode cX11_rowOf 100 = .ok (.ifCond .ne 7, 3) := by decide +kernel
theorem dX11_rowOf_103 : decode cX11_rowOf 103 = .ok (.iconst 0, 1) := by decide +kernel
theorem dX11_rowOf_104 : decode cX11_rowOf 104 = .ok (.goto 6, 3) := by decide +kernel
theorem dX11_rowOf_107 : decode cX11_rowOf 107 = .ok (.ldc_w 328, 3) := by decide +kernel
theorem dX11_rowOf_110 : decode cX11_rowOf 110 = .ok (.istore_n 3, 1) := by decide +kernel
theorem dX11_rowOf_111 : decode cX11_rowOf 111 = .ok (.iconst 1, 1) := by decide +kernel
theorem dX11_rowOf_112 : decode cX11_rowOf 112 = .ok (.istore 4, 2) := by decide +kernel
theorem dX11_rowOf_114 : decode cX11_rowOf 114 = .ok (.iload 4, 2) := by decide +kernel
theorem dX11_rowOf_116 : decode cX11_rowOf 116 = .ok (.iload_n 2, 1) := by decide +kernel
theorem dX11_rowOf_117 : decode cX11_rowOf 117 = .ok (.if_icmp .gt 267, 3) := by decide +kernel
theorem dX11_rowOf_120 : decode cX11_rowOf 120 = .ok (.iconst 0, 1) := by decide +kernel
theorem dX11_rowOf_121 : decode cX11_rowOf 121 = .ok (.istore 5, 2) := by decide +kernel
theorem dX11_rowOf_123 : decode cX11_rowOf 123 = .ok (.iload 5, 2) := by decide +kernel
theorem dX11_rowOf_125 : decode cX11_rowOf 125 = .ok (.aload_n 0, 1) := by decide +kernel
theorem dX11_rowOf_126 : decode cX11_rowOf 126 = .ok (.getfield 20, 3) := by decide +kernel
theorem dX11_rowOf_129 : decode cX11_rowOf 129 = .ok (.iconst 5, 1) := by decide +kernel
theorem dX11_rowOf_130 : decode cX11_rowOf 130 = .ok (.iaload, 1) := by decide +kernel
theorem dX11_rowOf_131 : decode cX11_rowOf 131 = .ok (.if_icmp .ge 247, 3) := by decide +kernel
theorem dX11_rowOf_134 : decode cX11_rowOf 134 = .ok (.iload 4, 2) := by decide +kernel
theorem dX11_rowOf_136 : decode cX11_rowOf 136 = .ok (.iload_n 2, 1) := by decide +kernel
theorem dX11_rowOf_137 : decode cX11_rowOf 137 = .ok (.iconst (-1), 1) := by decide +kernel
theorem dX11_rowOf_138 : decode cX11_rowOf 138 = .ok (.ixor, 1) := by decide +kernel
theorem dX11_rowOf_139 : decode cX11_rowOf 139 = .ok (.iand, 1) := by decide +kernel
theorem dX11_rowOf_140 : decode cX11_rowOf 140 = .ok (.ifCond .ne 238, 3) := by decide +kernel
theorem dX11_rowOf_143 : decode cX11_rowOf 143 = .ok (.iload 4, 2) := by decide +kernel
theorem dX11_rowOf_145 : decode cX11_rowOf 145 = .ok (.iconst 1, 1) := by decide +kernel
theorem dX11_rowOf_146 : decode cX11_rowOf 146 = .ok (.iload 5, 2) := by decide +kernel
theorem dX11_rowOf_148 : decode cX11_rowOf 148 = .ok (.ishl, 1) := by decide +kernel
theorem dX11_rowOf_149 : decode cX11_rowOf 149 = .ok (.iconst (-1), 1) := by decide +kernel
theorem dX11_rowOf_150 : decode cX11_rowOf 150 = .ok (.ixor, 1) := by decide +kernel
theorem dX11_rowOf_151 : decode cX11_rowOf 151 = .ok (.iand, 1) := by decide +kernel
theorem dX11_rowOf_152 : decode cX11_rowOf 152 = .ok (.istore 6, 2) := by decide +kernel
theorem dX11_rowOf_154 : decode cX11_rowOf 154 = .ok (.aload_n 0, 1) := by decide +kernel
theorem dX11_rowOf_155 : decode cX11_rowOf 155 = .ok (.getfield 56, 3) := by decide +kernel
theorem dX11_rowOf_158 : decode cX11_rowOf 158 = .ok (.bipush 6, 2) := by decide +kernel
theorem dX11_rowOf_160 : decode cX11_rowOf 160 = .ok (.iload 4, 2) := by decide +kernel
theorem dX11_rowOf_162 : decode cX11_rowOf 162 = .ok (.imul, 1) := by decide +kernel
theorem dX11_rowOf_163 : decode cX11_rowOf 163 = .ok (.iload 5, 2) := by decide +kernel
theorem dX11_rowOf_165 : decode cX11_rowOf 165 = .ok (.iadd, 1) := by decide +kernel
theorem dX11_rowOf_166 : decode cX11_rowOf 166 = .ok (.iload 4, 2) := by decide +kernel
theorem dX11_rowOf_168 : decode cX11_rowOf 168 = .ok (.iload 5, 2) := by decide +kernel
theorem dX11_rowOf_170 : decode cX11_rowOf 170 = .ok (.invokestatic 259, 3) := by decide +kernel
theorem dX11_rowOf_173 : decode cX11_rowOf 173 = .ok (.ifCond .eq 21, 3) := by decide +kernel
theorem dX11_rowOf_176 : decode cX11_rowOf 176 = .ok (.iload 6, 2) := by decide +kernel
theorem dX11_rowOf_178 : decode cX11_rowOf 178 = .ok (.ifCond .ne 16, 3) := by decide +kernel
theorem dX11_rowOf_181 : decode cX11_rowOf 181 = .ok (.aload_n 0, 1) := by decide +kernel
theorem dX11_rowOf_182 : decode cX11_rowOf 182 = .ok (.getfield 20, 3) := by decide +kernel
theorem dX11_rowOf_185 : decode cX11_rowOf 185 = .ok (.bipush 10, 2) := by decide +kernel
theorem dX11_rowOf_187 : decode cX11_rowOf 187 = .ok (.iload 5, 2) := by decide +kernel
theorem dX11_rowOf_189 : decode cX11_rowOf 189 = .ok (.iadd, 1) := by decide +kernel
theorem dX11_rowOf_190 : decode cX11_rowOf 190 = .ok (.iaload, 1) := by decide +kernel
theorem dX11_rowOf_191 : decode cX11_rowOf 191 = .ok (.goto 6, 3) := by decide +kernel
theorem dX11_rowOf_194 : decode cX11_rowOf 194 = .ok (.ldc_w 328, 3) := by decide +kernel
theorem dX11_rowOf_197 : decode cX11_rowOf 197 = .ok (.iastore, 1) := by decide +kernel
theorem dX11_rowOf_198 : decode cX11_rowOf 198 = .ok (.iconst 0, 1) := by decide +kernel
theorem dX11_rowOf_199 : decode cX11_rowOf 199 = .ok (.istore 7, 2) := by decide +kernel
theorem dX11_rowOf_201 : decode cX11_rowOf 201 = .ok (.iload 7, 2) := by decide +kernel
theorem dX11_rowOf_203 : decode cX11_rowOf 203 = .ok (.aload_n 0, 1) := by decide +kernel
theorem dX11_rowOf_204 : decode cX11_rowOf 204 = .ok (.getfield 20, 3) := by decide +kernel
theorem dX11_rowOf_207 : decode cX11_rowOf 207 = .ok (.iconst 5, 1) := by decide +kernel
theorem dX11_rowOf_208 : decode cX11_rowOf 208 = .ok (.iaload, 1) := by decide +kernel
theorem dX11_rowOf_209 : decode cX11_rowOf 209 = .ok (.if_icmp .ge 116, 3) := by decide +kernel
theorem dX11_rowOf_212 : decode cX11_rowOf 212 = .ok (.iload 4, 2) := by decide +kernel
theorem dX11_rowOf_214 : decode cX11_rowOf 214 = .ok (.iload 5, 2) := by decide +kernel
theorem dX11_rowOf_216 : decode cX11_rowOf 216 = .ok (.invokestatic 259, 3) := by decide +kernel
theorem dX11_rowOf_219 : decode cX11_rowOf 219 = .ok (.ifCond .eq 106, 3) := by decide +kernel
theorem dX11_rowOf_222 : decode cX11_rowOf 222 = .ok (.iload 6, 2) := by decide +kernel
theorem dX11_rowOf_224 : decode cX11_rowOf 224 = .ok (.iload 7, 2) := by decide +kernel
theorem dX11_rowOf_226 : decode cX11_rowOf 226 = .ok (.invokestatic 259, 3) := by decide +kernel
theorem dX11_rowOf_229 : decode cX11_rowOf 229 = .ok (.ifCond .ne 6, 3) := by decide +kernel
theorem dX11_rowOf_232 : decode cX11_rowOf 232 = .ok (.goto 87, 3) := by decide +kernel
theorem dX11_rowOf_235 : decode cX11_rowOf 235 = .ok (.aload_n 0, 1) := by decide +kernel
theorem dX11_rowOf_236 : decode cX11_rowOf 236 = .ok (.getfield 56, 3) := by decide +kernel
theorem dX11_rowOf_239 : decode cX11_rowOf 239 = .ok (.bipush 6, 2) := by decide +kernel
theorem dX11_rowOf_241 : decode cX11_rowOf 241 = .ok (.iload 6, 2) := by decide +kernel
theorem dX11_rowOf_243 : decode cX11_rowOf 243 = .ok (.imul, 1) := by decide +kernel
theorem dX11_rowOf_244 : decode cX11_rowOf 244 = .ok (.iload 7, 2) := by decide +kernel
theorem dX11_rowOf_246 : decode cX11_rowOf 246 = .ok (.iadd, 1) := by decide +kernel
theorem dX11_rowOf_247 : decode cX11_rowOf 247 = .ok (.iaload, 1) := by decide +kernel
theorem dX11_rowOf_248 : decode cX11_rowOf 248 = .ok (.aload_n 0, 1) := by decide +kernel
theorem dX11_rowOf_249 : decode cX11_rowOf 249 = .ok (.getfield 20, 3) := by decide +kernel
theorem dX11_rowOf_252 : decode cX11_rowOf 252 = .ok (.bipush 10, 2) := by decide +kernel
theorem dX11_rowOf_254 : decode cX11_rowOf 254 = .ok (.iload 5, 2) := by decide +kernel
theorem dX11_rowOf_256 : decode cX11_rowOf 256 = .ok (.iadd, 1) := by decide +kernel
theorem dX11_rowOf_257 : decode cX11_rowOf 257 = .ok (.iaload, 1) := by decide +kernel
theorem dX11_rowOf_258 : decode cX11_rowOf 258 = .ok (.iadd, 1) := by decide +kernel
theorem dX11_rowOf_259 : decode cX11_rowOf 259 = .ok (.aload_n 0, 1) := by decide +kernel
theorem dX11_rowOf_260 : decode cX11_rowOf 260 = .ok (.iload 7, 2) := by decide +kernel
theorem dX11_rowOf_262 : decode cX11_rowOf 262 = .ok (.iload 5, 2) := by decide +kernel
theorem dX11_rowOf_264 : decode cX11_rowOf 264 = .ok (.invokevirtual 356, 3) := by decide +kernel
theorem dX11_rowOf_267 : decode cX11_rowOf 267 = .ok (.isub, 1) := by decide +kernel
theorem dX11_rowOf_268 : decode cX11_rowOf 268 = .ok (.istore 8, 2) := by decide +kernel
theorem dX11_rowOf_270 : decode cX11_rowOf 270 = .ok (.aload_n 0, 1) := by decide +kernel
theorem dX11_rowOf_271 : decode cX11_rowOf 271 = .ok (.getfield 56, 3) := by decide +kernel
theorem dX11_rowOf_274 : decode cX11_rowOf 274 = .ok (.bipush 6, 2) := by decide +kernel
theorem dX11_rowOf_276 : decode cX11_rowOf 276 = .ok (.iload 4, 2) := by decide +kernel
theorem dX11_rowOf_278 : decode cX11_rowOf 278 = .ok (.imul, 1) := by decide +kernel
theorem dX11_rowOf_279 : decode cX11_rowOf 279 = .ok (.iload 5, 2) := by decide +kernel
theorem dX11_rowOf_281 : decode cX11_rowOf 281 = .ok (.iadd, 1) := by decide +kernel
theorem dX11_rowOf_282 : decode cX11_rowOf 282 = .ok (.iload 8, 2) := by decide +kernel
theorem dX11_rowOf_284 : decode cX11_rowOf 284 = .ok (.aload_n 0, 1) := by decide +kernel
theorem dX11_rowOf_285 : decode cX11_rowOf 285 = .ok (.getfield 56, 3) := by decide +kernel
theorem dX11_rowOf_288 : decode cX11_rowOf 288 = .ok (.bipush 6, 2) := by decide +kernel
theorem dX11_rowOf_290 : decode cX11_rowOf 290 = .ok (.iload 4, 2) := by decide +kernel
theorem dX11_rowOf_292 : decode cX11_rowOf 292 = .ok (.imul, 1) := by decide +kernel
theorem dX11_rowOf_293 : decode cX11_rowOf 293 = .ok (.iload 5, 2) := by decide +kernel
theorem dX11_rowOf_295 : decode cX11_rowOf 295 = .ok (.iadd, 1) := by decide +kernel
theorem dX11_rowOf_296 : decode cX11_rowOf 296 = .ok (.iaload, 1) := by decide +kernel
theorem dX11_rowOf_297 : decode cX11_rowOf 297 = .ok (.if_icmp .ge 8, 3) := by decide +kernel
theorem dX11_rowOf_300 : decode cX11_rowOf 300 = .ok (.iload 8, 2) := by decide +kernel
theorem dX11_rowOf_302 : decode cX11_rowOf 302 = .ok (.goto 16, 3) := by decide +kernel
theorem dX11_rowOf_305 : decode cX11_rowOf 305 = .ok (.aload_n 0, 1) := by decide +kernel
theorem dX11_rowOf_306 : decode cX11_rowOf 306 = .ok (.getfield 56, 3) := by decide +kernel
theorem dX11_rowOf_309 : decode cX11_rowOf 309 = .ok (.bipush 6, 2) := by decide +kernel
theorem dX11_rowOf_311 : decode cX11_rowOf 311 = .ok (.iload 4, 2) := by decide +kernel
theorem dX11_rowOf_313 : decode cX11_rowOf 313 = .ok (.imul, 1) := by decide +kernel
theorem dX11_rowOf_314 : decode cX11_rowOf 314 = .ok (.iload 5, 2) := by decide +kernel
theorem dX11_rowOf_316 : decode cX11_rowOf 316 = .ok (.iadd, 1) := by decide +kernel
theorem dX11_rowOf_317 : decode cX11_rowOf 317 = .ok (.iaload, 1) := by decide +kernel
theorem dX11_rowOf_318 : decode cX11_rowOf 318 = .ok (.iastore, 1) := by decide +kernel
theorem dX11_rowOf_319 : decode cX11_rowOf 319 = .ok (.iinc 7 1, 3) := by decide +kernel
theorem dX11_rowOf_322 : decode cX11_rowOf 322 = .ok (.goto (-121), 3) := by decide +kernel
theorem dX11_rowOf_325 : decode cX11_rowOf 325 = .ok (.iload 4, 2) := by decide +kernel
theorem dX11_rowOf_327 : decode cX11_rowOf 327 = .ok (.iload_n 2, 1) := by decide +kernel
theorem dX11_rowOf_328 : decode cX11_rowOf 328 = .ok (.if_icmp .ne 44, 3) := by decide +kernel
theorem dX11_rowOf_331 : decode cX11_rowOf 331 = .ok (.iload 4, 2) := by decide +kernel
theorem dX11_rowOf_333 : decode cX11_rowOf 333 = .ok (.iload 5, 2) := by decide +kernel
theorem dX11_rowOf_335 : decode cX11_rowOf 335 = .ok (.invokestatic 259, 3) := by decide +kernel
theorem dX11_rowOf_338 : decode cX11_rowOf 338 = .ok (.ifCond .eq 34, 3) := by decide +kernel
theorem dX11_rowOf_341 : decode cX11_rowOf 341 = .ok (.aload_n 0, 1) := by decide +kernel
theorem dX11_rowOf_342 : decode cX11_rowOf 342 = .ok (.getfield 56, 3) := by decide +kernel
theorem dX11_rowOf_345 : decode cX11_rowOf 345 = .ok (.bipush 6, 2) := by decide +kernel
theorem dX11_rowOf_347 : decode cX11_rowOf 347 = .ok (.iload 4, 2) := by decide +kernel
theorem dX11_rowOf_349 : decode cX11_rowOf 349 = .ok (.imul, 1) := by decide +kernel
theorem dX11_rowOf_350 : decode cX11_rowOf 350 = .ok (.iload 5, 2) := by decide +kernel
theorem dX11_rowOf_352 : decode cX11_rowOf 352 = .ok (.iadd, 1) := by decide +kernel
theorem dX11_rowOf_353 : decode cX11_rowOf 353 = .ok (.iaload, 1) := by decide +kernel
theorem dX11_rowOf_354 : decode cX11_rowOf 354 = .ok (.iload_n 3, 1) := by decide +kernel
theorem dX11_rowOf_355 : decode cX11_rowOf 355 = .ok (.if_icmp .ge 17, 3) := by decide +kernel
theorem dX11_rowOf_358 : decode cX11_rowOf 358 = .ok (.aload_n 0, 1) := by decide +kernel
theorem dX11_rowOf_359 : decode cX11_rowOf 359 = .ok (.getfield 56, 3) := by decide +kernel
theorem dX11_rowOf_362 : decode cX11_rowOf 362 = .ok (.bipush 6, 2) := by decide +kernel
theorem dX11_rowOf_364 : decode cX11_rowOf 364 = .ok (.iload 4, 2) := by decide +kernel
theorem dX11_rowOf_366 : decode cX11_rowOf 366 = .ok (.imul, 1) := by decide +kernel
theorem dX11_rowOf_367 : decode cX11_rowOf 367 = .ok (.iload 5, 2) := by decide +kernel
theorem dX11_rowOf_369 : decode cX11_rowOf 369 = .ok (.iadd, 1) := by decide +kernel
theorem dX11_rowOf_370 : decode cX11_rowOf 370 = .ok (.iaload, 1) := by decide +kernel
theorem dX11_rowOf_371 : decode cX11_rowOf 371 = .ok (.istore_n 3, 1) := by decide +kernel
theorem dX11_rowOf_372 : decode cX11_rowOf 372 = .ok (.iinc 5 1, 3) := by decide +kernel
theorem dX11_rowOf_375 : decode cX11_rowOf 375 = .ok (.goto (-252), 3) := by decide +kernel
theorem dX11_rowOf_378 : decode cX11_rowOf 378 = .ok (.iinc 4 1, 3) := by decide +kernel
theorem dX11_rowOf_381 : decode cX11_rowOf 381 = .ok (.goto (-267), 3) := by decide +kernel
theorem dX11_rowOf_384 : decode cX11_rowOf 384 = .ok (.iload_n 3, 1) := by decide +kernel
theorem dX11_rowOf_385 : decode cX11_rowOf 385 = .ok (.ireturn, 1) := by decide +kernel
theorem dX11_pack_0 : decode cX11_pack 0 = .ok (.aload_n 0, 1) := by decide +kernel
theorem dX11_pack_1 : decode cX11_pack 1 = .ok (.invokevirtual 156, 3) := by decide +kernel
theorem dX11_pack_4 : decode cX11_pack 4 = .ok (.aload_n 0, 1) := by decide +kernel
theorem dX11_pack_5 : decode cX11_pack 5 = .ok (.getfield 169, 3) := by decide +kernel
theorem dX11_pack_8 : decode cX11_pack 8 = .ok (.ifCond .eq 12, 3) := by decide +kernel
theorem dX11_pack_11 : decode cX11_pack 11 = .ok (.iload_n 1, 1) := by decide +kernel
theorem dX11_pack_12 : decode cX11_pack 12 = .ok (.iconst 0, 1) := by decide +kernel
theorem dX11_pack_13 : decode cX11_pack 13 = .ok (.iconst 2, 1) := by decide +kernel
theorem dX11_pack_14 : decode cX11_pack 14 = .ok (.invokestatic 140, 3) := by decide +kernel
theorem dX11_pack_17 : decode cX11_pack 17 = .ok (.ifCond .ne 9, 3) := by decide +kernel
theorem dX11_pack_20 : decode cX11_pack 20 = .ok (.aload_n 0, 1) := by decide +kernel
theorem dX11_pack_21 : decode cX11_pack 21 = .ok (.iconst 1, 1) := by decide +kernel
theorem dX11_pack_22 : decode cX11_pack 22 = .ok (.invokevirtual 159, 3) := by decide +kernel
theorem dX11_pack_25 : decode cX11_pack 25 = .ok (.ireturn, 1) := by decide +kernel
theorem dX11_pack_26 : decode cX11_pack 26 = .ok (.iconst 0, 1) := by decide +kernel
theorem dX11_pack_27 : decode cX11_pack 27 = .ok (.istore_n 2, 1) := by decide +kernel
theorem dX11_pack_28 : decode cX11_pack 28 = .ok (.iconst 0, 1) := by decide +kernel
theorem dX11_pack_29 : decode cX11_pack 29 = .ok (.istore_n 3, 1) := by decide +kernel
theorem dX11_pack_30 : decode cX11_pack 30 = .ok (.iconst 1, 1) := by decide +kernel
theorem dX11_pack_31 : decode cX11_pack 31 = .ok (.istore 4, 2) := by decide +kernel
theorem dX11_pack_33 : decode cX11_pack 33 = .ok (.iload 4, 2) := by decide +kernel
theorem dX11_pack_35 : decode cX11_pack 35 = .ok (.iconst 1, 1) := by decide +kernel
theorem dX11_pack_36 : decode cX11_pack 36 = .ok (.aload_n 0, 1) := by decide +kernel
theorem dX11_pack_37 : decode cX11_pack 37 = .ok (.getfield 20, 3) := by decide +kernel
theorem dX11_pack_40 : decode cX11_pack 40 = .ok (.iconst 5, 1) := by decide +kernel
theorem dX11_pack_41 : decode cX11_pack 41 = .ok (.iaload, 1) := by decide +kernel
theorem dX11_pack_42 : decode cX11_pack 42 = .ok (.ishl, 1) := by decide +kernel
theorem dX11_pack_43 : decode cX11_pack 43 = .ok (.if_icmp .ge 164, 3) := by decide +kernel
theorem dX11_pack_46 : decode cX11_pack 46 = .ok (.iconst 1, 1) := by decide +kernel
theorem dX11_pack_47 : decode cX11_pack 47 = .ok (.istore 5, 2) := by decide +kernel
theorem dX11_pack_49 : decode cX11_pack 49 = .ok (.iconst 0, 1) := by decide +kernel
theorem dX11_pack_50 : decode cX11_pack 50 = .ok (.istore 6, 2) := by decide +kernel
theorem dX11_pack_52 : decode cX11_pack 52 = .ok (.iload 6, 2) := by decide +kernel
theorem dX11_pack_54 : decode cX11_pack 54 = .ok (.aload_n 0, 1) := by decide +kernel
theorem dX11_pack_55 : decode cX11_pack 55 = .ok (.getfield 20, 3) := by decide +kernel
theorem dX11_pack_58 : decode cX11_pack 58 = .ok (.iconst 5, 1) := by decide +kernel
theorem dX11_pack_59 : decode cX11_pack 59 = .ok (.iaload, 1) := by decide +kernel
theorem dX11_pack_60 : decode cX11_pack 60 = .ok (.if_icmp .ge 68, 3) := by decide +kernel
theorem dX11_pack_63 : decode cX11_pack 63 = .ok (.iconst 0, 1) := by decide +kernel
theorem dX11_pack_64 : decode cX11_pack 64 = .ok (.istore 7, 2) := by decide +kernel
theorem dX11_pack_66 : decode cX11_pack 66 = .ok (.iload 7, 2) := by decide +kernel
theorem dX11_pack_68 : decode cX11_pack 68 = .ok (.aload_n 0, 1) := by decide +kernel
theorem dX11_pack_69 : decode cX11_pack 69 = .ok (.getfield 20, 3) := by decide +kernel
theorem dX11_pack_72 : decode cX11_pack 72 = .ok (.bipush 10, 2) := by decide +kernel
theorem dX11_pack_74 : decode cX11_pack 74 = .ok (.iload 6, 2) := by decide +kernel
theorem dX11_pack_76 : decode cX11_pack 76 = .ok (.iadd, 1) := by decide +kernel
theorem dX11_pack_77 : decode cX11_pack 77 = .ok (.iaload, 1) := by decide +kernel
theorem dX11_pack_78 : decode cX11_pack 78 = .ok (.if_icmp .ge 44, 3) := by decide +kernel
theorem dX11_pack_81 : decode cX11_pack 81 = .ok (.iload 4, 2) := by decide +kernel
theorem dX11_pack_83 : decode cX11_pack 83 = .ok (.iload 6, 2) := by decide +kernel
theorem dX11_pack_85 : decode cX11_pack 85 = .ok (.invokestatic 259, 3) := by decide +kernel
theorem dX11_pack_88 : decode cX11_pack 88 = .ok (.ifCond .eq 34, 3) := by decide +kernel
theorem dX11_pack_91 : decode cX11_pack 91 = .ok (.iload 5, 2) := by decide +kernel
theorem dX11_pack_93 : decode cX11_pack 93 = .ok (.ifCond .eq 20, 3) := by decide +kernel
theorem dX11_pack_96 : decode cX11_pack 96 = .ok (.aload_n 0, 1) := by decide +kernel
theorem dX11_pack_97 : decode cX11_pack 97 = .ok (.iload 6, 2) := by decide +kernel
theorem dX11_pack_99 : decode cX11_pack 99 = .ok (.iload 7, 2) := by decide +kernel
theorem dX11_pack_101 : decode cX11_pack 101 = .ok (.invokevirtual 350, 3) := by decide +kernel
theorem dX11_pack_104 : decode cX11_pack 104 = .ok (.bipush 25, 2) := by decide +kernel
theorem dX11_pack_106 : decode cX11_pack 106 = .ok (.if_icmp .eq 7, 3) := by decide +kernel
theorem dX11_pack_109 : decode cX11_pack 109 = .ok (.iconst 1, 1) := by decide +kernel
theorem dX11_pack_110 : decode cX11_pack 110 = .ok (.goto 4, 3) := by decide +kernel
theorem dX11_pack_113 : decode cX11_pack 113 = .ok (.iconst 0, 1) := by decide +kernel
theorem dX11_pack_114 : decode cX11_pack 114 = .ok (.istore 5, 2) := by decide +kernel
theorem dX11_pack_116 : decode cX11_pack 116 = .ok (.iinc 7 1, 3) := by decide +kernel
theorem dX11_pack_119 : decode cX11_pack 119 = .ok (.goto (-53), 3) := by decide +kernel
theorem dX11_pack_122 : decode cX11_pack 122 = .ok (.iinc 6 1, 3) := by decide +kernel
theorem dX11_pack_125 : decode cX11_pack 125 = .ok (.goto (-73), 3) := by decide +kernel
theorem dX11_pack_128 : decode cX11_pack 128 = .ok (.iload 5, 2) := by decide +kernel
theorem dX11_pack_130 : decode cX11_pack 130 = .ok (.ifCond .eq 71, 3) := by decide +kernel
theorem dX11_pack_133 : decode cX11_pack 133 = .ok (.iload 4, 2) := by decide +kernel
theorem dX11_pack_135 : decode cX11_pack 135 = .ok (.invokestatic 347, 3) := by decide +kernel
theorem dX11_pack_138 : decode cX11_pack 138 = .ok (.iload_n 2, 1) := by decide +kernel
theorem dX11_pack_139 : decode cX11_pack 139 = .ok (.invokestatic 347, 3) := by decide +kernel
theorem dX11_pack_142 : decode cX11_pack 142 = .ok (.if_icmp .ge 6, 3) := by decide +kernel
theorem dX11_pack_145 : decode cX11_pack 145 = .ok (.goto 56, 3) := by decide +kernel
theorem dX11_pack_148 : decode cX11_pack 148 = .ok (.aload_n 0, 1) := by decide +kernel
theorem dX11_pack_149 : decode cX11_pack 149 = .ok (.iload 4, 2) := by decide +kernel
theorem dX11_pack_151 : decode cX11_pack 151 = .ok (.invokevirtual 359, 3) := by decide +kernel
theorem dX11_pack_154 : decode cX11_pack 154 = .ok (.istore 6, 2) := by decide +kernel
theorem dX11_pack_156 : decode cX11_pack 156 = .ok (.iload 6, 2) := by decide +kernel
theorem dX11_pack_158 : decode cX11_pack 158 = .ok (.aload_n 0, 1) := by decide +kernel
theorem dX11_pack_159 : decode cX11_pack 159 = .ok (.getfield 20, 3) := by decide +kernel
theorem dX11_pack_162 : decode cX11_pack 162 = .ok (.iconst 0, 1) := by decide +kernel
theorem dX11_pack_163 : decode cX11_pack 163 = .ok (.iaload, 1) := by decide +kernel
theorem dX11_pack_164 : decode cX11_pack 164 = .ok (.aload_n 0, 1) := by decide +kernel
theorem dX11_pack_165 : decode cX11_pack 165 = .ok (.getfield 20, 3) := by decide +kernel
theorem dX11_pack_168 : decode cX11_pack 168 = .ok (.iconst 1, 1) := by decide +kernel
theorem dX11_pack_169 : decode cX11_pack 169 = .ok (.iaload, 1) := by decide +kernel
theorem dX11_pack_170 : decode cX11_pack 170 = .ok (.imul, 1) := by decide +kernel
theorem dX11_pack_171 : decode cX11_pack 171 = .ok (.if_icmp .gt 30, 3) := by decide +kernel
theorem dX11_pack_174 : decode cX11_pack 174 = .ok (.iload 4, 2) := by decide +kernel
theorem dX11_pack_176 : decode cX11_pack 176 = .ok (.invokestatic 347, 3) := by decide +kernel
theorem dX11_pack_179 : decode cX11_pack 179 = .ok (.iload_n 2, 1) := by decide +kernel
theorem dX11_pack_180 : decode cX11_pack 180 = .ok (.invokestatic 347, 3) := by decide +kernel
theorem dX11_pack_183 : decode cX11_pack 183 = .ok (.if_icmp .ne 12, 3) := by decide +kernel
theorem dX11_pack_186 : decode cX11_pack 186 = .ok (.iload 6, 2) := by decide +kernel
theorem dX11_pack_188 : decode cX11_pack 188 = .ok (.iload_n 3, 1) := by decide +kernel
theorem dX11_pack_189 : decode cX11_pack 189 = .ok (.if_icmp .lt 6, 3) := by decide +kernel
theorem dX11_pack_192 : decode cX11_pack 192 = .ok (.goto 9, 3) := by decide +kernel
theorem dX11_pack_195 : decode cX11_pack 195 = .ok (.iload 4, 2) := by decide +kernel
theorem dX11_pack_197 : decode cX11_pack 197 = .ok (.istore_n 2, 1) := by decide +kernel
theorem dX11_pack_198 : decode cX11_pack 198 = .ok (.iload 6, 2) := by decide +kernel
theorem dX11_pack_200 : decode cX11_pack 200 = .ok (.istore_n 3, 1) := by decide +kernel
theorem dX11_pack_201 : decode cX11_pack 201 = .ok (.iinc 4 1, 3) := by decide +kernel
theorem dX11_pack_204 : decode cX11_pack 204 = .ok (.goto (-171), 3) := by decide +kernel
theorem dX11_pack_207 : decode cX11_pack 207 = .ok (.iload_n 1, 1) := by decide +kernel
theorem dX11_pack_208 : decode cX11_pack 208 = .ok (.ifCond .ne 10, 3) := by decide +kernel
theorem dX11_pack_211 : decode cX11_pack 211 = .ok (.iload_n 2, 1) := by decide +kernel
theorem dX11_pack_212 : decode cX11_pack 212 = .ok (.invokestatic 347, 3) := by decide +kernel
theorem dX11_pack_215 : decode cX11_pack 215 = .ok (.goto 13, 3) := by decide +kernel
theorem dX11_pack_218 : decode cX11_pack 218 = .ok (.iload_n 1, 1) := by decide +kernel
theorem dX11_pack_219 : decode cX11_pack 219 = .ok (.iconst 1, 1) := by decide +kernel
theorem dX11_pack_220 : decode cX11_pack 220 = .ok (.if_icmp .ne 7, 3) := by decide +kernel
theorem dX11_pack_223 : decode cX11_pack 223 = .ok (.iload_n 2, 1) := by decide +kernel
theorem dX11_pack_224 : decode cX11_pack 224 = .ok (.goto 4, 3) := by decide +kernel
theorem dX11_pack_227 : decode cX11_pack 227 = .ok (.iload_n 3, 1) := by decide +kernel
theorem dX11_pack_228 : decode cX11_pack 228 = .ok (.ireturn, 1) := by decide +kernel
theorem dX11_laySure_0 : decode cX11_laySure 0 = .ok (.iconst 0, 1) := by decide +kernel
theorem dX11_laySure_1 : decode cX11_laySure 1 = .ok (.istore_n 1, 1) := by decide +kernel
theorem dX11_laySure_2 : decode cX11_laySure 2 = .ok (.iload_n 1, 1) := by decide +kernel
theorem dX11_laySure_3 : decode cX11_laySure 3 = .ok (.bipush 60, 2) := by decide +kernel
theorem dX11_laySure_5 : decode cX11_laySure 5 = .ok (.if_icmp .ge 17, 3) := by decide +kernel
theorem dX11_laySure_8 : decode cX11_laySure 8 = .ok (.aload_n 0, 1) := by decide +kernel
theorem dX11_laySure_9 : decode cX11_laySure 9 = .ok (.getfield 59, 3) := by decide +kernel
theorem dX11_laySure_12 : decode cX11_laySure 12 = .ok (.iload_n 1, 1) := by decide +kernel
theorem dX11_laySure_13 : decode cX11_laySure 13 = .ok (.bipush (-3), 2) := by decide +kernel
theorem dX11_laySure_15 : decode cX11_laySure 15 = .ok (.iastore, 1) := by decide +kernel
theorem dX11_laySure_16 : decode cX11_laySure 16 = .ok (.iinc 1 1, 3) := by decide +kernel
theorem dX11_laySure_19 : decode cX11_laySure 19 = .ok (.goto (-17), 3) := by decide +kernel
theorem dX11_laySure_22 : decode cX11_laySure 22 = .ok (.iconst 0, 1) := by decide +kernel
theorem dX11_laySure_23 : decode cX11_laySure 23 = .ok (.istore_n 1, 1) := by decide +kernel
theorem dX11_laySure_24 : decode cX11_laySure 24 = .ok (.iload_n 1, 1) := by decide +kernel
theorem dX11_laySure_25 : decode cX11_laySure 25 = .ok (.aload_n 0, 1) := by decide +kernel
theorem dX11_laySure_26 : decode cX11_laySure 26 = .ok (.getfield 20, 3) := by decide +kernel
theorem dX11_laySure_29 : decode cX11_laySure 29 = .ok (.bipush 7, 2) := by decide +kernel
theorem dX11_laySure_31 : decode cX11_laySure 31 = .ok (.iaload, 1) := by decide +kernel
theorem dX11_laySure_32 : decode cX11_laySure 32 = .ok (.if_icmp .ge 201, 3) := by decide +kernel
theorem dX11_laySure_35 : decode cX11_laySure 35 = .ok (.aload_n 0, 1) := by decide +kernel
theorem dX11_laySure_36 : decode cX11_laySure 36 = .ok (.aload_n 0, 1) := by decide +kernel
theorem dX11_laySure_37 : decode cX11_laySure 37 = .ok (.getfield 20, 3) := by decide +kernel
theorem dX11_laySure_40 : decode cX11_laySure 40 = .ok (.aload_n 0, 1) := by decide +kernel
theorem dX11_laySure_41 : decode cX11_laySure 41 = .ok (.getfield 20, 3) := by decide +kernel
theorem dX11_laySure_44 : decode cX11_laySure 44 = .ok (.bipush 108, 2) := by decide +kernel
theorem dX11_laySure_46 : decode cX11_laySure 46 = .ok (.iload_n 1, 1) := by decide +kernel
theorem dX11_laySure_47 : decode cX11_laySure 47 = .ok (.iadd, 1) := by decide +kernel
theorem dX11_laySure_48 : decode cX11_laySure 48 = .ok (.iaload, 1) := by decide +kernel
theorem dX11_laySure_49 : decode cX11_laySure 49 = .ok (.aload_n 0, 1) := by decide +kernel
theorem dX11_laySure_50 : decode cX11_laySure 50 = .ok (.getfield 20, 3) := by decide +kernel
theorem dX11_laySure_53 : decode cX11_laySure 53 = .ok (.bipush 114, 2) := by decide +kernel
theorem dX11_laySure_55 : decode cX11_laySure 55 = .ok (.iload_n 1, 1) := by decide +kernel
theorem dX11_laySure_56 : decode cX11_laySure 56 = .ok (.iadd, 1) := by decide +kernel
theorem dX11_laySure_57 : decode cX11_laySure 57 = .ok (.iaload, 1) := by decide +kernel
theorem dX11_laySure_58 : decode cX11_laySure 58 = .ok (.iconst 0, 1) := by decide +kernel
theorem dX11_laySure_59 : decode cX11_laySure 59 = .ok (.invokevirtual 245, 3) := by decide +kernel
theorem dX11_laySure_62 : decode cX11_laySure 62 = .ok (.pop, 1) := by decide +kernel
theorem dX11_laySure_63 : decode cX11_laySure 63 = .ok (.iconst 0, 1) := by decide +kernel
theorem dX11_laySure_64 : decode cX11_laySure 64 = .ok (.istore_n 2, 1) := by decide +kernel
theorem dX11_laySure_65 : decode cX11_laySure 65 = .ok (.iload_n 2, 1) := by decide +kernel
theorem dX11_laySure_66 : decode cX11_laySure 66 = .ok (.aload_n 0, 1) := by decide +kernel
theorem dX11_laySure_67 : decode cX11_laySure 67 = .ok (.getfield 20, 3) := by decide +kernel
theorem dX11_laySure_70 : decode cX11_laySure 70 = .ok (.bipush 126, 2) := by decide +kernel
theorem dX11_laySure_72 : decode cX11_laySure 72 = .ok (.iload_n 1, 1) := by decide +kernel
theorem dX11_laySure_73 : decode cX11_laySure 73 = .ok (.iadd, 1) := by decide +kernel
theorem dX11_laySure_74 : decode cX11_laySure 74 = .ok (.iaload, 1) := by decide +kernel
theorem dX11_laySure_75 : decode cX11_laySure 75 = .ok (.if_icmp .ge 79, 3) := by decide +kernel
theorem dX11_laySure_78 : decode cX11_laySure 78 = .ok (.bipush 30, 2) := by decide +kernel
theorem dX11_laySure_80 : decode cX11_laySure 80 = .ok (.aload_n 0, 1) := by decide +kernel
theorem dX11_laySure_81 : decode cX11_laySure 81 = .ok (.getfield 20, 3) := by decide +kernel
theorem dX11_laySure_84 : decode cX11_laySure 84 = .ok (.bipush 108, 2) := by decide +kernel
theorem dX11_laySure_86 : decode cX11_laySure 86 = .ok (.iload_n 1, 1) := by decide +kernel
theorem dX11_laySure_87 : decode cX11_laySure 87 = .ok (.iadd, 1) := by decide +kernel
theorem dX11_laySure_88 : decode cX11_laySure 88 = .ok (.iaload, 1) := by decide +kernel
theorem dX11_laySure_89 : decode cX11_laySure 89 = .ok (.imul, 1) := by decide +kernel
theorem dX11_laySure_90 : decode cX11_laySure 90 = .ok (.aload_n 0, 1) := by decide +kernel
theorem dX11_laySure_91 : decode cX11_laySure 91 = .ok (.getfield 38, 3) := by decide +kernel
theorem dX11_laySure_94 : decode cX11_laySure 94 = .ok (.aload_n 0, 1) := by decide +kernel
theorem dX11_laySure_95 : decode cX11_laySure 95 = .ok (.getfield 20, 3) := by decide +kernel
theorem dX11_laySure_98 : decode cX11_laySure 98 = .ok (.bipush 120, 2) := by decide +kernel
theorem dX11_laySure_100 : decode cX11_laySure 100 = .ok (.iload_n 1, 1) := by decide +kernel
theorem dX11_laySure_101 : decode cX11_laySure 101 = .ok (.iadd, 1) := by decide +kernel
theorem dX11_laySure_102 : decode cX11_laySure 102 = .ok (.iaload, 1) := by decide +kernel
theorem dX11_laySure_103 : decode cX11_laySure 103 = .ok (.iload_n 2, 1) := by decide +kernel
theorem dX11_laySure_104 : decode cX11_laySure 104 = .ok (.iadd, 1) := by decide +kernel
theorem dX11_laySure_105 : decode cX11_laySure 105 = .ok (.iaload, 1) := by decide +kernel
theorem dX11_laySure_106 : decode cX11_laySure 106 = .ok (.iadd, 1) := by decide +kernel
theorem dX11_laySure_107 : decode cX11_laySure 107 = .ok (.istore_n 3, 1) := by decide +kernel
theorem dX11_laySure_108 : decode cX11_laySure 108 = .ok (.aload_n 0, 1) := by decide +kernel
theorem dX11_laySure_109 : decode cX11_laySure 109 = .ok (.getfield 59, 3) := by decide +kernel
theorem dX11_laySure_112 : decode cX11_laySure 112 = .ok (.iload_n 3, 1) := by decide +kernel
theorem dX11_laySure_113 : decode cX11_laySure 113 = .ok (.iaload, 1) := by decide +kernel
theorem dX11_laySure_114 : decode cX11_laySure 114 = .ok (.bipush (-3), 2) := by decide +kernel
theorem dX11_laySure_116 : decode cX11_laySure 116 = .ok (.if_icmp .eq 32, 3) := by decide +kernel
theorem dX11_laySure_119 : decode cX11_laySure 119 = .ok (.aload_n 0, 1) := by decide +kernel
theorem dX11_laySure_120 : decode cX11_laySure 120 = .ok (.getfield 59, 3) := by decide +kernel
theorem dX11_laySure_123 : decode cX11_laySure 123 = .ok (.iload_n 3, 1) := by decide +kernel
theorem dX11_laySure_124 : decode cX11_laySure 124 = .ok (.iaload, 1) := by decide +kernel
theorem dX11_laySure_125 : decode cX11_laySure 125 = .ok (.aload_n 0, 1) := by decide +kernel
theorem dX11_laySure_126 : decode cX11_laySure 126 = .ok (.getfield 20, 3) := by decide +kernel
theorem dX11_laySure_129 : decode cX11_laySure 129 = .ok (.sipush 132, 3) := by decide +kernel
theorem dX11_laySure_132 : decode cX11_laySure 132 = .ok (.bipush 8, 2) := by decide +kernel
theorem dX11_laySure_134 : decode cX11_laySure 134 = .ok (.iload_n 1, 1) := by decide +kernel
theorem dX11_laySure_135 : decode cX11_laySure 135 = .ok (.imul, 1) := by decide +kernel
theorem dX11_laySure_136 : decode cX11_laySure 136 = .ok (.iadd, 1) := by decide +kernel
theorem dX11_laySure_137 : decode cX11_laySure 137 = .ok (.iload_n 2, 1) := by decide +kernel
theorem dX11_laySure_138 : decode cX11_laySure 138 = .ok (.iadd, 1) := by decide +kernel
theorem dX11_laySure_139 : decode cX11_laySure 139 = .ok (.iaload, 1) := by decide +kernel
theorem dX11_laySure_140 : decode cX11_laySure 140 = .ok (.invokestatic 270, 3) := by decide +kernel
theorem dX11_laySure_143 : decode cX11_laySure 143 = .ok (.if_icmp .eq 5, 3) := by decide +kernel
theorem dX11_laySure_146 : decode cX11_laySure 146 = .ok (.iload_n 1, 1) := by decide +kernel
theorem dX11_laySure_147 : decode cX11_laySure 147 = .ok (.ireturn, 1) := by decide +kernel
theorem dX11_laySure_148 : decode cX11_laySure 148 = .ok (.iinc 2 1, 3) := by decide +kernel
theorem dX11_laySure_151 : decode cX11_laySure 151 = .ok (.goto (-86), 3) := by decide +kernel
theorem dX11_laySure_154 : decode cX11_laySure 154 = .ok (.iconst 0, 1) := by decide +kernel
theorem dX11_laySure_155 : decode cX11_laySure 155 = .ok (.istore_n 2, 1) := by decide +kernel
theorem dX11_laySure_156 : decode cX11_laySure 156 = .ok (.iload_n 2, 1) := by decide +kernel
theorem dX11_laySure_157 : decode cX11_laySure 157 = .ok (.aload_n 0, 1) := by decide +kernel
theorem dX11_laySure_158 : decode cX11_laySure 158 = .ok (.getfield 20, 3) := by decide +kernel
theorem dX11_laySure_161 : decode cX11_laySure 161 = .ok (.bipush 126, 2) := by decide +kernel
theorem dX11_laySure_163 : decode cX11_laySure 163 = .ok (.iload_n 1, 1) := by decide +kernel
theorem dX11_laySure_164 : decode cX11_laySure 164 = .ok (.iadd, 1) := by decide +kernel
theorem dX11_laySure_165 : decode cX11_laySure 165 = .ok (.iaload, 1) := by decide +kernel
theorem dX11_laySure_166 : decode cX11_laySure 166 = .ok (.if_icmp .ge 61, 3) := by decide +kernel
theorem dX11_laySure_169 : decode cX11_laySure 169 = .ok (.aload_n 0, 1) := by decide +kernel
theorem dX11_laySure_170 : decode cX11_laySure 170 = .ok (.getfield 59, 3) := by decide +kernel
theorem dX11_laySure_173 : decode cX11_laySure 173 = .ok (.bipush 30, 2) := by decide +kernel
theorem dX11_laySure_175 : decode cX11_laySure 175 = .ok (.aload_n 0, 1) := by decide +kernel
theorem dX11_laySure_176 : decode cX11_laySure 176 = .ok (.getfield 20, 3) := by decide +kernel
theorem dX11_laySure_179 : decode cX11_laySure 179 = .ok (.bipush 108, 2) := by decide +kernel
theorem dX11_laySure_181 : decode cX11_laySure 181 = .ok (.iload_n 1, 1) := by decide +kernel
theorem dX11_laySure_182 : decode cX11_laySure 182 = .ok (.iadd, 1) := by decide +kernel
theorem dX11_laySure_183 : decode cX11_laySure 183 = .ok (.iaload, 1) := by decide +kernel
theorem dX11_laySure_184 : decode cX11_laySure 184 = .ok (.imul, 1) := by decide +kernel
theorem dX11_laySure_185 : decode cX11_laySure 185 = .ok (.aload_n 0, 1) := by decide +kernel
theorem dX11_laySure_186 : decode cX11_laySure 186 = .ok (.getfield 38, 3) := by decide +kernel
theorem dX11_laySure_189 : decode cX11_laySure 189 = .ok (.aload_n 0, 1) := by decide +kernel
theorem dX11_laySure_190 : decode cX11_laySure 190 = .ok (.getfield 20, 3) := by decide +kernel
theorem dX11_laySure_193 : decode cX11_laySure 193 = .ok (.bipush 120, 2) := by decide +kernel
theorem dX11_laySure_195 : decode cX11_laySure 195 = .ok (.iload_n 1, 1) := by decide +kernel
theorem dX11_laySure_196 : decode cX11_laySure 196 = .ok (.iadd, 1) := by decide +kernel
theorem dX11_laySure_197 : decode cX11_laySure 197 = .ok (.iaload, 1) := by decide +kernel
theorem dX11_laySure_198 : decode cX11_laySure 198 = .ok (.iload_n 2, 1) := by decide +kernel
theorem dX11_laySure_199 : decode cX11_laySure 199 = .ok (.iadd, 1) := by decide +kernel
theorem dX11_laySure_200 : decode cX11_laySure 200 = .ok (.iaload, 1) := by decide +kernel
theorem dX11_laySure_201 : decode cX11_laySure 201 = .ok (.iadd, 1) := by decide +kernel
theorem dX11_laySure_202 : decode cX11_laySure 202 = .ok (.aload_n 0, 1) := by decide +kernel
theorem dX11_laySure_203 : decode cX11_laySure 203 = .ok (.getfield 20, 3) := by decide +kernel
theorem dX11_laySure_206 : decode cX11_laySure 206 = .ok (.sipush 132, 3) := by decide +kernel
theorem dX11_laySure_209 : decode cX11_laySure 209 = .ok (.bipush 8, 2) := by decide +kernel
theorem dX11_laySure_211 : decode cX11_laySure 211 = .ok (.iload_n 1, 1) := by decide +kernel
theorem dX11_laySure_212 : decode cX11_laySure 212 = .ok (.imul, 1) := by decide +kernel
theorem dX11_laySure_213 : decode cX11_laySure 213 = .ok (.iadd, 1) := by decide +kernel
theorem dX11_laySure_214 : decode cX11_laySure 214 = .ok (.iload_n 2, 1) := by decide +kernel
theorem dX11_laySure_215 : decode cX11_laySure 215 = .ok (.iadd, 1) := by decide +kernel
theorem dX11_laySure_216 : decode cX11_laySure 216 = .ok (.iaload, 1) := by decide +kernel
theorem dX11_laySure_217 : decode cX11_laySure 217 = .ok (.invokestatic 270, 3) := by decide +kernel
theorem dX11_laySure_220 : decode cX11_laySure 220 = .ok (.iastore, 1) := by decide +kernel
theorem dX11_laySure_221 : decode cX11_laySure 221 = .ok (.iinc 2 1, 3) := by decide +kernel
theorem dX11_laySure_224 : decode cX11_laySure 224 = .ok (.goto (-68), 3) := by decide +kernel
theorem dX11_laySure_227 : decode cX11_laySure 227 = .ok (.iinc 1 1, 3) := by decide +kernel
theorem dX11_laySure_230 : decode cX11_laySure 230 = .ok (.goto (-206), 3) := by decide +kernel
theorem dX11_laySure_233 : decode cX11_laySure 233 = .ok (.bipush (-2), 2) := by decide +kernel
theorem dX11_laySure_235 : decode cX11_laySure 235 = .ok (.ireturn, 1) := by decide +kernel
theorem dX11_clash_0 : decode cX11_clash 0 = .ok (.aload_n 0, 1) := by decide +kernel
theorem dX11_clash_1 : decode cX11_clash 1 = .ok (.invokevirtual 156, 3) := by decide +kernel
theorem dX11_clash_4 : decode cX11_clash 4 = .ok (.aload_n 0, 1) := by decide +kernel
theorem dX11_clash_5 : decode cX11_clash 5 = .ok (.getfield 169, 3) := by decide +kernel
theorem dX11_clash_8 : decode cX11_clash 8 = .ok (.ifCond .eq 10, 3) := by decide +kernel
theorem dX11_clash_11 : decode cX11_clash 11 = .ok (.aload_n 0, 1) := by decide +kernel
theorem dX11_clash_12 : decode cX11_clash 12 = .ok (.invokevirtual 362, 3) := by decide +kernel
theorem dX11_clash_15 : decode cX11_clash 15 = .ok (.goto 8, 3) := by decide +kernel
theorem dX11_clash_18 : decode cX11_clash 18 = .ok (.aload_n 0, 1) := by decide +kernel
theorem dX11_clash_19 : decode cX11_clash 19 = .ok (.iconst 1, 1) := by decide +kernel
theorem dX11_clash_20 : decode cX11_clash 20 = .ok (.invokevirtual 159, 3) := by decide +kernel
theorem dX11_clash_23 : decode cX11_clash 23 = .ok (.ireturn, 1) := by decide +kernel
theorem dX11_sure_0 : decode cX11_sure 0 = .ok (.aload_n 0, 1) := by decide +kernel
theorem dX11_sure_1 : decode cX11_sure 1 = .ok (.invokevirtual 156, 3) := by decide +kernel
theorem dX11_sure_4 : decode cX11_sure 4 = .ok (.aload_n 0, 1) := by decide +kernel
theorem dX11_sure_5 : decode cX11_sure 5 = .ok (.iload_n 1, 1) := by decide +kernel
theorem dX11_sure_6 : decode cX11_sure 6 = .ok (.iload_n 2, 1) := by decide +kernel
theorem dX11_sure_7 : decode cX11_sure 7 = .ok (.iload_n 3, 1) := by decide +kernel
theorem dX11_sure_8 : decode cX11_sure 8 = .ok (.invokevirtual 267, 3) := by decide +kernel
theorem dX11_sure_11 : decode cX11_sure 11 = .ok (.ifCond .ne 9, 3) := by decide +kernel
theorem dX11_sure_14 : decode cX11_sure 14 = .ok (.aload_n 0, 1) := by decide +kernel
theorem dX11_sure_15 : decode cX11_sure 15 = .ok (.iconst 1, 1) := by decide +kernel
theorem dX11_sure_16 : decode cX11_sure 16 = .ok (.invokevirtual 159, 3) := by decide +kernel
theorem dX11_sure_19 : decode cX11_sure 19 = .ok (.ireturn, 1) := by decide +kernel
theorem dX11_sure_20 : decode cX11_sure 20 = .ok (.aload_n 0, 1) := by decide +kernel
theorem dX11_sure_21 : decode cX11_sure 21 = .ok (.invokevirtual 362, 3) := by decide +kernel
theorem dX11_sure_24 : decode cX11_sure 24 = .ok (.pop, 1) := by decide +kernel
theorem dX11_sure_25 : decode cX11_sure 25 = .ok (.aload_n 0, 1) := by decide +kernel
theorem dX11_sure_26 : decode cX11_sure 26 = .ok (.getfield 59, 3) := by decide +kernel
theorem dX11_sure_29 : decode cX11_sure 29 = .ok (.bipush 30, 2) := by decide +kernel
theorem dX11_sure_31 : decode cX11_sure 31 = .ok (.iload_n 1, 1) := by decide +kernel
theorem dX11_sure_32 : decode cX11_sure 32 = .ok (.imul, 1) := by decide +kernel
theorem dX11_sure_33 : decode cX11_sure 33 = .ok (.iconst 3, 1) := by decide +kernel
theorem dX11_sure_34 : decode cX11_sure 34 = .ok (.iload_n 2, 1) := by decide +kernel
theorem dX11_sure_35 : decode cX11_sure 35 = .ok (.imul, 1) := by decide +kernel
theorem dX11_sure_36 : decode cX11_sure 36 = .ok (.iadd, 1) := by decide +kernel
theorem dX11_sure_37 : decode cX11_sure 37 = .ok (.iload_n 3, 1) := by decide +kernel
theorem dX11_sure_38 : decode cX11_sure 38 = .ok (.iadd, 1) := by decide +kernel
theorem dX11_sure_39 : decode cX11_sure 39 = .ok (.iaload, 1) := by decide +kernel
theorem dX11_sure_40 : decode cX11_sure 40 = .ok (.ireturn, 1) := by decide +kernel
theorem dX11_sureCells_0 : decode cX11_sureCells 0 = .ok (.aload_n 0, 1) := by decide +kernel
theorem dX11_sureCells_1 : decode cX11_sureCells 1 = .ok (.invokevirtual 156, 3) := by decide +kernel
theorem dX11_sureCells_4 : decode cX11_sureCells 4 = .ok (.aload_n 0, 1) := by decide +kernel
theorem dX11_sureCells_5 : decode cX11_sureCells 5 = .ok (.getfield 169, 3) := by decide +kernel
theorem dX11_sureCells_8 : decode cX11_sureCells 8 = .ok (.ifCond .ne 9, 3) := by decide +kernel
theorem dX11_sureCells_11 : decode cX11_sureCells 11 = .ok (.aload_n 0, 1) := by decide +kernel
theorem dX11_sureCells_12 : decode cX11_sureCells 12 = .ok (.iconst 1, 1) := by decide +kernel
theorem dX11_sureCells_13 : decode cX11_sureCells 13 = .ok (.invokevirtual 159, 3) := by decide +kernel
theorem dX11_sureCells_16 : decode cX11_sureCells 16 = .ok (.ireturn, 1) := by decide +kernel
theorem dX11_sureCells_17 : decode cX11_sureCells 17 = .ok (.aload_n 0, 1) := by decide +kernel
theorem dX11_sureCells_18 : decode cX11_sureCells 18 = .ok (.invokevirtual 362, 3) := by decide +kernel
theorem dX11_sureCells_21 : decode cX11_sureCells 21 = .ok (.pop, 1) := by decide +kernel
theorem dX11_sureCells_22 : decode cX11_sureCells 22 = .ok (.iconst 0, 1) := by decide +kernel
theorem dX11_sureCells_23 : decode cX11_sureCells 23 = .ok (.istore_n 1, 1) := by decide +kernel
theorem dX11_sureCells_24 : decode cX11_sureCells 24 = .ok (.iconst 0, 1) := by decide +kernel
theorem dX11_sureCells_25 : decode cX11_sureCells 25 = .ok (.istore_n 2, 1) := by decide +kernel
theorem dX11_sureCells_26 : decode cX11_sureCells 26 = .ok (.iload_n 2, 1) := by decide +kernel
theorem dX11_sureCells_27 : decode cX11_sureCells 27 = .ok (.bipush 60, 2) := by decide +kernel
theorem dX11_sureCells_29 : decode cX11_sureCells 29 = .ok (.if_icmp .ge 28, 3) := by decide +kernel
theorem dX11_sureCells_32 : decode cX11_sureCells 32 = .ok (.iload_n 1, 1) := by decide +kernel
theorem dX11_sureCells_33 : decode cX11_sureCells 33 = .ok (.aload_n 0, 1) := by decide +kernel
theorem dX11_sureCells_34 : decode cX11_sureCells 34 = .ok (.getfield 59, 3) := by decide +kernel
theorem dX11_sureCells_37 : decode cX11_sureCells 37 = .ok (.iload_n 2, 1) := by decide +kernel
theorem dX11_sureCells_38 : decode cX11_sureCells 38 = .ok (.iaload, 1) := by decide +kernel
theorem dX11_sureCells_39 : decode cX11_sureCells 39 = .ok (.bipush (-3), 2) := by decide +kernel
theorem dX11_sureCells_41 : decode cX11_sureCells 41 = .ok (.if_icmp .ne 7, 3) := by decide +kernel
theorem dX11_sureCells_44 : decode cX11_sureCells 44 = .ok (.iconst 0, 1) := by decide +kernel
theorem dX11_sureCells_45 : decode cX11_sureCells 45 = .ok (.goto 4, 3) := by decide +kernel
theorem dX11_sureCells_48 : decode cX11_sureCells 48 = .ok (.iconst 1, 1) := by decide +kernel
theorem dX11_sureCells_49 : decode cX11_sureCells 49 = .ok (.iadd, 1) := by decide +kernel
theorem dX11_sureCells_50 : decode cX11_sureCells 50 = .ok (.istore_n 1, 1) := by decide +kernel
theorem dX11_sureCells_51 : decode cX11_sureCells 51 = .ok (.iinc 2 1, 3) := by decide +kernel
theorem dX11_sureCells_54 : decode cX11_sureCells 54 = .ok (.goto (-28), 3) := by decide +kernel
theorem dX11_sureCells_57 : decode cX11_sureCells 57 = .ok (.iload_n 1, 1) := by decide +kernel
theorem dX11_sureCells_58 : decode cX11_sureCells 58 = .ok (.ireturn, 1) := by decide +kernel
theorem dX11_fits_0 : decode cX11_fits 0 = .ok (.aload_n 0, 1) := by decide +kernel
theorem dX11_fits_1 : decode cX11_fits 1 = .ok (.invokevirtual 156, 3) := by decide +kernel
theorem dX11_fits_4 : decode cX11_fits 4 = .ok (.aload_n 0, 1) := by decide +kernel
theorem dX11_fits_5 : decode cX11_fits 5 = .ok (.getfield 169, 3) := by decide +kernel
theorem dX11_fits_8 : decode cX11_fits 8 = .ok (.ifCond .ne 9, 3) := by decide +kernel
theorem dX11_fits_11 : decode cX11_fits 11 = .ok (.aload_n 0, 1) := by decide +kernel
theorem dX11_fits_12 : decode cX11_fits 12 = .ok (.iconst 1, 1) := by decide +kernel
theorem dX11_fits_13 : decode cX11_fits 13 = .ok (.invokevirtual 159, 3) := by decide +kernel
theorem dX11_fits_16 : decode cX11_fits 16 = .ok (.ireturn, 1) := by decide +kernel
theorem dX11_fits_17 : decode cX11_fits 17 = .ok (.iconst 1, 1) := by decide +kernel
theorem dX11_fits_18 : decode cX11_fits 18 = .ok (.istore_n 1, 1) := by decide +kernel
theorem dX11_fits_19 : decode cX11_fits 19 = .ok (.iconst 0, 1) := by decide +kernel
theorem dX11_fits_20 : decode cX11_fits 20 = .ok (.istore_n 2, 1) := by decide +kernel
theorem dX11_fits_21 : decode cX11_fits 21 = .ok (.iload_n 2, 1) := by decide +kernel
theorem dX11_fits_22 : decode cX11_fits 22 = .ok (.aload_n 0, 1) := by decide +kernel
theorem dX11_fits_23 : decode cX11_fits 23 = .ok (.getfield 20, 3) := by decide +kernel
theorem dX11_fits_26 : decode cX11_fits 26 = .ok (.bipush 7, 2) := by decide +kernel
theorem dX11_fits_28 : decode cX11_fits 28 = .ok (.iaload, 1) := by decide +kernel
theorem dX11_fits_29 : decode cX11_fits 29 = .ok (.if_icmp .ge 110, 3) := by decide +kernel
theorem dX11_fits_32 : decode cX11_fits 32 = .ok (.aload_n 0, 1) := by decide +kernel
theorem dX11_fits_33 : decode cX11_fits 33 = .ok (.aload_n 0, 1) := by decide +kernel
theorem dX11_fits_34 : decode cX11_fits 34 = .ok (.getfield 20, 3) := by decide +kernel
theorem dX11_fits_37 : decode cX11_fits 37 = .ok (.aload_n 0, 1) := by decide +kernel
theorem dX11_fits_38 : decode cX11_fits 38 = .ok (.getfield 20, 3) := by decide +kernel
theorem dX11_fits_41 : decode cX11_fits 41 = .ok (.bipush 108, 2) := by decide +kernel
theorem dX11_fits_43 : decode cX11_fits 43 = .ok (.iload_n 2, 1) := by decide +kernel
theorem dX11_fits_44 : decode cX11_fits 44 = .ok (.iadd, 1) := by decide +kernel
theorem dX11_fits_45 : decode cX11_fits 45 = .ok (.iaload, 1) := by decide +kernel
theorem dX11_fits_46 : decode cX11_fits 46 = .ok (.aload_n 0, 1) := by decide +kernel
theorem dX11_fits_47 : decode cX11_fits 47 = .ok (.getfield 20, 3) := by decide +kernel
theorem dX11_fits_50 : decode cX11_fits 50 = .ok (.bipush 114, 2) := by decide +kernel
theorem dX11_fits_52 : decode cX11_fits 52 = .ok (.iload_n 2, 1) := by decide +kernel
theorem dX11_fits_53 : decode cX11_fits 53 = .ok (.iadd, 1) := by decide +kernel
theorem dX11_fits_54 : decode cX11_fits 54 = .ok (.iaload, 1) := by decide +kernel
theorem dX11_fits_55 : decode cX11_fits 55 = .ok (.iconst 0, 1) := by decide +kernel
theorem dX11_fits_56 : decode cX11_fits 56 = .ok (.invokevirtual 245, 3) := by decide +kernel
theorem dX11_fits_59 : decode cX11_fits 59 = .ok (.pop, 1) := by decide +kernel
theorem dX11_fits_60 : decode cX11_fits 60 = .ok (.iconst 0, 1) := by decide +kernel
theorem dX11_fits_61 : decode cX11_fits 61 = .ok (.istore_n 3, 1) := by decide +kernel
theorem dX11_fits_62 : decode cX11_fits 62 = .ok (.iload_n 3, 1) := by decide +kernel
theorem dX11_fits_63 : decode cX11_fits 63 = .ok (.aload_n 0, 1) := by decide +kernel
theorem dX11_fits_64 : decode cX11_fits 64 = .ok (.getfield 20, 3) := by decide +kernel
theorem dX11_fits_67 : decode cX11_fits 67 = .ok (.bipush 126, 2) := by decide +kernel
theorem dX11_fits_69 : decode cX11_fits 69 = .ok (.iload_n 2, 1) := by decide +kernel
theorem dX11_fits_70 : decode cX11_fits 70 = .ok (.iadd, 1) := by decide +kernel
theorem dX11_fits_71 : decode cX11_fits 71 = .ok (.iaload, 1) := by decide +kernel
theorem dX11_fits_72 : decode cX11_fits 72 = .ok (.if_icmp .ge 61, 3) := by decide +kernel
theorem dX11_fits_75 : decode cX11_fits 75 = .ok (.iload_n 1, 1) := by decide +kernel
theorem dX11_fits_76 : decode cX11_fits 76 = .ok (.ifCond .eq 49, 3) := by decide +kernel
theorem dX11_fits_79 : decode cX11_fits 79 = .ok (.aload_n 0, 1) := by decide +kernel
theorem dX11_fits_80 : decode cX11_fits 80 = .ok (.aload_n 0, 1) := by decide +kernel
theorem dX11_fits_81 : decode cX11_fits 81 = .ok (.getfield 20, 3) := by decide +kernel
theorem dX11_fits_84 : decode cX11_fits 84 = .ok (.bipush 108, 2) := by decide +kernel
theorem dX11_fits_86 : decode cX11_fits 86 = .ok (.iload_n 2, 1) := by decide +kernel
theorem dX11_fits_87 : decode cX11_fits 87 = .ok (.iadd, 1) := by decide +kernel
theorem dX11_fits_88 : decode cX11_fits 88 = .ok (.iaload, 1) := by decide +kernel
theorem dX11_fits_89 : decode cX11_fits 89 = .ok (.aload_n 0, 1) := by decide +kernel
theorem dX11_fits_90 : decode cX11_fits 90 = .ok (.getfield 20, 3) := by decide +kernel
theorem dX11_fits_93 : decode cX11_fits 93 = .ok (.bipush 120, 2) := by decide +kernel
theorem dX11_fits_95 : decode cX11_fits 95 = .ok (.iload_n 2, 1) := by decide +kernel
theorem dX11_fits_96 : decode cX11_fits 96 = .ok (.iadd, 1) := by decide +kernel
theorem dX11_fits_97 : decode cX11_fits 97 = .ok (.iaload, 1) := by decide +kernel
theorem dX11_fits_98 : decode cX11_fits 98 = .ok (.iload_n 3, 1) := by decide +kernel
theorem dX11_fits_99 : decode cX11_fits 99 = .ok (.iadd, 1) := by decide +kernel
theorem dX11_fits_100 : decode cX11_fits 100 = .ok (.invokevirtual 286, 3) := by decide +kernel
theorem dX11_fits_103 : decode cX11_fits 103 = .ok (.aload_n 0, 1) := by decide +kernel
theorem dX11_fits_104 : decode cX11_fits 104 = .ok (.getfield 20, 3) := by decide +kernel
theorem dX11_fits_107 : decode cX11_fits 107 = .ok (.sipush 132, 3) := by decide +kernel
theorem dX11_fits_110 : decode cX11_fits 110 = .ok (.bipush 8, 2) := by decide +kernel
theorem dX11_fits_112 : decode cX11_fits 112 = .ok (.iload_n 2, 1) := by decide +kernel
theorem dX11_fits_113 : decode cX11_fits 113 = .ok (.imul, 1) := by decide +kernel
theorem dX11_fits_114 : decode cX11_fits 114 = .ok (.iadd, 1) := by decide +kernel
theorem dX11_fits_115 : decode cX11_fits 115 = .ok (.iload_n 3, 1) := by decide +kernel
theorem dX11_fits_116 : decode cX11_fits 116 = .ok (.iadd, 1) := by decide +kernel
theorem dX11_fits_117 : decode cX11_fits 117 = .ok (.iaload, 1) := by decide +kernel
theorem dX11_fits_118 : decode cX11_fits 118 = .ok (.if_icmp .ne 7, 3) := by decide +kernel
theorem dX11_fits_121 : decode cX11_fits 121 = .ok (.iconst 1, 1) := by decide +kernel
theorem dX11_fits_122 : decode cX11_fits 122 = .ok (.goto 4, 3) := by decide +kernel
theorem dX11_fits_125 : decode cX11_fits 125 = .ok (.iconst 0, 1) := by decide +kernel
theorem dX11_fits_126 : decode cX11_fits 126 = .ok (.istore_n 1, 1) := by decide +kernel
theorem dX11_fits_127 : decode cX11_fits 127 = .ok (.iinc 3 1, 3) := by decide +kernel
theorem dX11_fits_130 : decode cX11_fits 130 = .ok (.goto (-68), 3) := by decide +kernel
theorem dX11_fits_133 : decode cX11_fits 133 = .ok (.iinc 2 1, 3) := by decide +kernel
theorem dX11_fits_136 : decode cX11_fits 136 = .ok (.goto (-115), 3) := by decide +kernel
theorem dX11_fits_139 : decode cX11_fits 139 = .ok (.iload_n 1, 1) := by decide +kernel
theorem dX11_fits_140 : decode cX11_fits 140 = .ok (.ifCond .eq 7, 3) := by decide +kernel
theorem dX11_fits_143 : decode cX11_fits 143 = .ok (.iconst 1, 1) := by decide +kernel
theorem dX11_fits_144 : decode cX11_fits 144 = .ok (.goto 4, 3) := by decide +kernel
theorem dX11_fits_147 : decode cX11_fits 147 = .ok (.iconst 0, 1) := by decide +kernel
theorem dX11_fits_148 : decode cX11_fits 148 = .ok (.ireturn, 1) := by decide +kernel
theorem dX11_ask_0 : decode cX11_ask 0 = .ok (.aload_n 0, 1) := by decide +kernel
theorem dX11_ask_1 : decode cX11_ask 1 = .ok (.invokevirtual 156, 3) := by decide +kernel
theorem dX11_ask_4 : decode cX11_ask 4 = .ok (.aload_n 0, 1) := by decide +kernel
theorem dX11_ask_5 : decode cX11_ask 5 = .ok (.getfield 169, 3) := by decide +kernel
theorem dX11_ask_8 : decode cX11_ask 8 = .ok (.ifCond .ne 9, 3) := by decide +kernel
theorem dX11_ask_11 : decode cX11_ask 11 = .ok (.aload_n 0, 1) := by decide +kernel
theorem dX11_ask_12 : decode cX11_ask 12 = .ok (.iconst 1, 1) := by decide +kernel
theorem dX11_ask_13 : decode cX11_ask 13 = .ok (.invokevirtual 159, 3) := by decide +kernel
theorem dX11_ask_16 : decode cX11_ask 16 = .ok (.ireturn, 1) := by decide +kernel
theorem dX11_ask_17 : decode cX11_ask 17 = .ok (.aload_n 0, 1) := by decide +kernel
theorem dX11_ask_18 : decode cX11_ask 18 = .ok (.invokevirtual 362, 3) := by decide +kernel
theorem dX11_ask_21 : decode cX11_ask 21 = .ok (.pop, 1) := by decide +kernel
theorem dX11_ask_22 : decode cX11_ask 22 = .ok (.bipush (-2), 2) := by decide +kernel
theorem dX11_ask_24 : decode cX11_ask 24 = .ok (.istore_n 1, 1) := by decide +kernel
theorem dX11_ask_25 : decode cX11_ask 25 = .ok (.iconst 0, 1) := by decide +kernel
theorem dX11_ask_26 : decode cX11_ask 26 = .ok (.istore_n 2, 1) := by decide +kernel
theorem dX11_ask_27 : decode cX11_ask 27 = .ok (.iconst 0, 1) := by decide +kernel
theorem dX11_ask_28 : decode cX11_ask 28 = .ok (.istore_n 3, 1) := by decide +kernel
theorem dX11_ask_29 : decode cX11_ask 29 = .ok (.iload_n 3, 1) := by decide +kernel
theorem dX11_ask_30 : decode cX11_ask 30 = .ok (.iconst 2, 1) := by decide +kernel
theorem dX11_ask_31 : decode cX11_ask 31 = .ok (.if_icmp .ge 115, 3) := by decide +kernel
theorem dX11_ask_34 : decode cX11_ask 34 = .ok (.iconst 0, 1) := by decide +kernel
theorem dX11_ask_35 : decode cX11_ask 35 = .ok (.istore 4, 2) := by decide +kernel
theorem dX11_ask_37 : decode cX11_ask 37 = .ok (.iload 4, 2) := by decide +kernel
theorem dX11_ask_39 : decode cX11_ask 39 = .ok (.aload_n 0, 1) := by decide +kernel
theorem dX11_ask_40 : decode cX11_ask 40 = .ok (.getfield 20, 3) := by decide +kernel
theorem dX11_ask_43 : decode cX11_ask 43 = .ok (.invokestatic 178, 3) := by decide +kernel
theorem dX11_ask_46 : decode cX11_ask 46 = .ok (.if_icmp .gt 94, 3) := by decide +kernel
theorem dX11_ask_49 : decode cX11_ask 49 = .ok (.iconst 0, 1) := by decide +kernel
theorem dX11_ask_50 : decode cX11_ask 50 = .ok (.istore 5, 2) := by decide +kernel
theorem dX11_ask_52 : decode cX11_ask 52 = .ok (.aload_n 0, 1) := by decide +kernel
theorem dX11_ask_53 : decode cX11_ask 53 = .ok (.aload_n 0, 1) := by decide +kernel
theorem dX11_ask_54 : decode cX11_ask 54 = .ok (.getfield 20, 3) := by decide +kernel
theorem dX11_ask_57 : decode cX11_ask 57 = .ok (.iload_n 3, 1) := by decide +kernel
theorem dX11_ask_58 : decode cX11_ask 58 = .ok (.iload 4, 2) := by decide +kernel
theorem dX11_ask_60 : decode cX11_ask 60 = .ok (.iconst 0, 1) := by decide +kernel
theorem dX11_ask_61 : decode cX11_ask 61 = .ok (.invokevirtual 245, 3) := by decide +kernel
theorem dX11_ask_64 : decode cX11_ask 64 = .ok (.istore 6, 2) := by decide +kernel
theorem dX11_ask_66 : decode cX11_ask 66 = .ok (.iconst 0, 1) := by decide +kernel
theorem dX11_ask_67 : decode cX11_ask 67 = .ok (.istore 7, 2) := by decide +kernel
theorem dX11_ask_69 : decode cX11_ask 69 = .ok (.iload 7, 2) := by decide +kernel
theorem dX11_ask_71 : decode cX11_ask 71 = .ok (.iload 6, 2) := by decide +kernel
theorem dX11_ask_73 : decode cX11_ask 73 = .ok (.if_icmp .ge 41, 3) := by decide +kernel
theorem dX11_ask_76 : decode cX11_ask 76 = .ok (.iload 5, 2) := by decide +kernel
theorem dX11_ask_78 : decode cX11_ask 78 = .ok (.aload_n 0, 1) := by decide +kernel
theorem dX11_ask_79 : decode cX11_ask 79 = .ok (.getfield 59, 3) := by decide +kernel
theorem dX11_ask_82 : decode cX11_ask 82 = .ok (.bipush 30, 2) := by decide +kernel
theorem dX11_ask_84 : decode cX11_ask 84 = .ok (.iload_n 3, 1) := by decide +kernel
theorem dX11_ask_85 : decode cX11_ask 85 = .ok (.imul, 1) := by decide +kernel
theorem dX11_ask_86 : decode cX11_ask 86 = .ok (.aload_n 0, 1) := by decide +kernel
theorem dX11_ask_87 : decode cX11_ask 87 = .ok (.getfield 38, 3) := by decide +kernel
theorem dX11_ask_90 : decode cX11_ask 90 = .ok (.iload 7, 2) := by decide +kernel
theorem dX11_ask_92 : decode cX11_ask 92 = .ok (.iaload, 1) := by decide +kernel
theorem dX11_ask_93 : decode cX11_ask 93 = .ok (.iadd, 1) := by decide +kernel
theorem dX11_ask_94 : decode cX11_ask 94 = .ok (.iaload, 1) := by decide +kernel
theorem dX11_ask_95 : decode cX11_ask 95 = .ok (.bipush (-3), 2) := by decide +kernel
theorem dX11_ask_97 : decode cX11_ask 97 = .ok (.if_icmp .ne 7, 3) := by decide +kernel
theorem dX11_ask_100 : decode cX11_ask 100 = .ok (.iconst 1, 1) := by decide +kernel
theorem dX11_ask_101 : decode cX11_ask 101 = .ok (.goto 4, 3) := by decide +kernel
theorem dX11_ask_104 : decode cX11_ask 104 = .ok (.iconst 0, 1) := by decide +kernel
theorem dX11_ask_105 : decode cX11_ask 105 = .ok (.iadd, 1) := by decide +kernel
theorem dX11_ask_106 : decode cX11_ask 106 = .ok (.istore 5, 2) := by decide +kernel
theorem dX11_ask_108 : decode cX11_ask 108 = .ok (.iinc 7 1, 3) := by decide +kernel
theorem dX11_ask_111 : decode cX11_ask 111 = .ok (.goto (-42), 3) := by decide +kernel
theorem dX11_ask_114 : decode cX11_ask 114 = .ok (.iload 5, 2) := by decide +kernel
theorem dX11_ask_116 : decode cX11_ask 116 = .ok (.iload_n 2, 1) := by decide +kernel
theorem dX11_ask_117 : decode cX11_ask 117 = .ok (.if_icmp .gt 6, 3) := by decide +kernel
theorem dX11_ask_120 : decode cX11_ask 120 = .ok (.goto 14, 3) := by decide +kernel
theorem dX11_ask_123 : decode cX11_ask 123 = .ok (.bipush 50, 2) := by decide +kernel
theorem dX11_ask_125 : decode cX11_ask 125 = .ok (.iload_n 3, 1) := by decide +kernel
theorem dX11_ask_126 : decode cX11_ask 126 = .ok (.imul, 1) := by decide +kernel
theorem dX11_ask_127 : decode cX11_ask 127 = .ok (.iload 4, 2) := by decide +kernel
theorem dX11_ask_129 : decode cX11_ask 129 = .ok (.iadd, 1) := by decide +kernel
theorem dX11_ask_130 : decode cX11_ask 130 = .ok (.istore_n 1, 1) := by decide +kernel
theorem dX11_ask_131 : decode cX11_ask 131 = .ok (.iload 5, 2) := by decide +kernel
theorem dX11_ask_133 : decode cX11_ask 133 = .ok (.istore_n 2, 1) := by decide +kernel
theorem dX11_ask_134 : decode cX11_ask 134 = .ok (.iinc 4 1, 3) := by decide +kernel
theorem dX11_ask_137 : decode cX11_ask 137 = .ok (.goto (-100), 3) := by decide +kernel
theorem dX11_ask_140 : decode cX11_ask 140 = .ok (.iinc 3 1, 3) := by decide +kernel
theorem dX11_ask_143 : decode cX11_ask 143 = .ok (.goto (-114), 3) := by decide +kernel
theorem dX11_ask_146 : decode cX11_ask 146 = .ok (.iload_n 1, 1) := by decide +kernel
theorem dX11_ask_147 : decode cX11_ask 147 = .ok (.ireturn, 1) := by decide +kernel
theorem dX11_smearOf_0 : decode cX11_smearOf 0 = .ok (.aload_n 0, 1) := by decide +kernel
theorem dX11_smearOf_1 : decode cX11_smearOf 1 = .ok (.iload_n 1, 1) := by decide +kernel
theorem dX11_smearOf_2 : decode cX11_smearOf 2 = .ok (.iload_n 2, 1) := by decide +kernel
theorem dX11_smearOf_3 : decode cX11_smearOf 3 = .ok (.invokevirtual 279, 3) := by decide +kernel
theorem dX11_smearOf_6 : decode cX11_smearOf 6 = .ok (.istore 4, 2) := by decide +kernel
theorem dX11_smearOf_8 : decode cX11_smearOf 8 = .ok (.iconst 0, 1) := by decide +kernel
theorem dX11_smearOf_9 : decode cX11_smearOf 9 = .ok (.istore 5, 2) := by decide +kernel
theorem dX11_smearOf_11 : decode cX11_smearOf 11 = .ok (.iload 5, 2) := by decide +kernel
theorem dX11_smearOf_13 : decode cX11_smearOf 13 = .ok (.iload 4, 2) := by decide +kernel
theorem dX11_smearOf_15 : decode cX11_smearOf 15 = .ok (.if_icmp .ge 23, 3) := by decide +kernel
theorem dX11_smearOf_18 : decode cX11_smearOf 18 = .ok (.aload_n 0, 1) := by decide +kernel
theorem dX11_smearOf_19 : decode cX11_smearOf 19 = .ok (.getfield 41, 3) := by decide +kernel
theorem dX11_smearOf_22 : decode cX11_smearOf 22 = .ok (.iload 5, 2) := by decide +kernel
theorem dX11_smearOf_24 : decode cX11_smearOf 24 = .ok (.aload_n 0, 1) := by decide +kernel
theorem dX11_smearOf_25 : decode cX11_smearOf 25 = .ok (.iload_n 1, 1) := by decide +kernel
theorem dX11_smearOf_26 : decode cX11_smearOf 26 = .ok (.iload 5, 2) := by decide +kernel
theorem dX11_smearOf_28 : decode cX11_smearOf 28 = .ok (.invokevirtual 286, 3) := by decide +kernel
theorem dX11_smearOf_31 : decode cX11_smearOf 31 = .ok (.iastore, 1) := by decide +kernel
theorem dX11_smearOf_32 : decode cX11_smearOf 32 = .ok (.iinc 5 1, 3) := by decide +kernel
theorem dX11_smearOf_35 : decode cX11_smearOf 35 = .ok (.goto (-24), 3) := by decide +kernel
theorem dX11_smearOf_38 : decode cX11_smearOf 38 = .ok (.aload_n 0, 1) := by decide +kernel
theorem dX11_smearOf_39 : decode cX11_smearOf 39 = .ok (.iload_n 1, 1) := by decide +kernel
theorem dX11_smearOf_40 : decode cX11_smearOf 40 = .ok (.iload_n 3, 1) := by decide +kernel
theorem dX11_smearOf_41 : decode cX11_smearOf 41 = .ok (.invokevirtual 279, 3) := by decide +kernel
theorem dX11_smearOf_44 : decode cX11_smearOf 44 = .ok (.istore 5, 2) := by decide +kernel
theorem dX11_smearOf_46 : decode cX11_smearOf 46 = .ok (.iload 4, 2) := by decide +kernel
theorem dX11_smearOf_48 : decode cX11_smearOf 48 = .ok (.iload 5, 2) := by decide +kernel
theorem dX11_smearOf_50 : decode cX11_smearOf 50 = .ok (.if_icmp .ge 11, 3) := by decide +kernel
theorem dX11_smearOf_53 : decode cX11_smearOf 53 = .ok (.iload 5, 2) := by decide +kernel
theorem dX11_smearOf_55 : decode cX11_smearOf 55 = .ok (.iload 4, 2) := by decide +kernel
theorem dX11_smearOf_57 : decode cX11_smearOf 57 = .ok (.isub, 1) := by decide +kernel
theorem dX11_smearOf_58 : decode cX11_smearOf 58 = .ok (.goto 8, 3) := by decide +kernel
theorem dX11_smearOf_61 : decode cX11_smearOf 61 = .ok (.iload 4, 2) := by decide +kernel
theorem dX11_smearOf_63 : decode cX11_smearOf 63 = .ok (.iload 5, 2) := by decide +kernel
theorem dX11_smearOf_65 : decode cX11_smearOf 65 = .ok (.isub, 1) := by decide +kernel
theorem dX11_smearOf_66 : decode cX11_smearOf 66 = .ok (.istore 6, 2) := by decide +kernel
theorem dX11_smearOf_68 : decode cX11_smearOf 68 = .ok (.iconst 0, 1) := by decide +kernel
theorem dX11_smearOf_69 : decode cX11_smearOf 69 = .ok (.istore 7, 2) := by decide +kernel
theorem dX11_smearOf_71 : decode cX11_smearOf 71 = .ok (.iload 7, 2) := by decide +kernel
theorem dX11_smearOf_73 : decode cX11_smearOf 73 = .ok (.iload 4, 2) := by decide +kernel
theorem dX11_smearOf_75 : decode cX11_smearOf 75 = .ok (.if_icmp .ge 43, 3) := by decide +kernel
theorem dX11_smearOf_78 : decode cX11_smearOf 78 = .ok (.iload 7, 2) := by decide +kernel
theorem dX11_smearOf_80 : decode cX11_smearOf 80 = .ok (.iload 5, 2) := by decide +kernel
theorem dX11_smearOf_82 : decode cX11_smearOf 82 = .ok (.if_icmp .ge 36, 3) := by decide +kernel
theorem dX11_smearOf_85 : decode cX11_smearOf 85 = .ok (.iload 6, 2) := by decide +kernel
theorem dX11_smearOf_87 : decode cX11_smearOf 87 = .ok (.aload_n 0, 1) := by decide +kernel
theorem dX11_smearOf_88 : decode cX11_smearOf 88 = .ok (.getfield 41, 3) := by decide +kernel
theorem dX11_smearOf_91 : decode cX11_smearOf 91 = .ok (.iload 7, 2) := by decide +kernel
theorem dX11_smearOf_93 : decode cX11_smearOf 93 = .ok (.iaload, 1) := by decide +kernel
theorem dX11_smearOf_94 : decode cX11_smearOf 94 = .ok (.aload_n 0, 1) := by decide +kernel
theorem dX11_smearOf_95 : decode cX11_smearOf 95 = .ok (.iload_n 1, 1) := by decide +kernel
theorem dX11_smearOf_96 : decode cX11_smearOf 96 = .ok (.iload 7, 2) := by decide +kernel
theorem dX11_smearOf_98 : decode cX11_smearOf 98 = .ok (.invokevirtual 286, 3) := by decide +kernel
theorem dX11_smearOf_101 : decode cX11_smearOf 101 = .ok (.if_icmp .eq 7, 3) := by decide +kernel
theorem dX11_smearOf_104 : decode cX11_smearOf 104 = .ok (.iconst 1, 1) := by decide +kernel
theorem dX11_smearOf_105 : decode cX11_smearOf 105 = .ok (.goto 4, 3) := by decide +kernel
theorem dX11_smearOf_108 : decode cX11_smearOf 108 = .ok (.iconst 0, 1) := by decide +kernel
theorem dX11_smearOf_109 : decode cX11_smearOf 109 = .ok (.iadd, 1) := by decide +kernel
theorem dX11_smearOf_110 : decode cX11_smearOf 110 = .ok (.istore 6, 2) := by decide +kernel
theorem dX11_smearOf_112 : decode cX11_smearOf 112 = .ok (.iinc 7 1, 3) := by decide +kernel
theorem dX11_smearOf_115 : decode cX11_smearOf 115 = .ok (.goto (-44), 3) := by decide +kernel
theorem dX11_smearOf_118 : decode cX11_smearOf 118 = .ok (.iload 6, 2) := by decide +kernel
theorem dX11_smearOf_120 : decode cX11_smearOf 120 = .ok (.ireturn, 1) := by decide +kernel
theorem dX11_smear_0 : decode cX11_smear 0 = .ok (.aload_n 0, 1) := by decide +kernel
theorem dX11_smear_1 : decode cX11_smear 1 = .ok (.invokevirtual 156, 3) := by decide +kernel
theorem dX11_smear_4 : decode cX11_smear 4 = .ok (.aload_n 0, 1) := by decide +kernel
theorem dX11_smear_5 : decode cX11_smear 5 = .ok (.iload_n 1, 1) := by decide +kernel
theorem dX11_smear_6 : decode cX11_smear 6 = .ok (.invokevirtual 253, 3) := by decide +kernel
theorem dX11_smear_9 : decode cX11_smear 9 = .ok (.ifCond .ne 9, 3) := by decide +kernel
theorem dX11_smear_12 : decode cX11_smear 12 = .ok (.aload_n 0, 1) := by decide +kernel
theorem dX11_smear_13 : decode cX11_smear 13 = .ok (.iconst 1, 1) := by decide +kernel
theorem dX11_smear_14 : decode cX11_smear 14 = .ok (.invokevirtual 159, 3) := by decide +kernel
theorem dX11_smear_17 : decode cX11_smear 17 = .ok (.ireturn, 1) := by decide +kernel
theorem dX11_smear_18 : decode cX11_smear 18 = .ok (.aload_n 0, 1) := by decide +kernel
theorem dX11_smear_19 : decode cX11_smear 19 = .ok (.iload_n 2, 1) := by decide +kernel
theorem dX11_smear_20 : decode cX11_smear 20 = .ok (.invokevirtual 273, 3) := by decide +kernel
theorem dX11_smear_23 : decode cX11_smear 23 = .ok (.ifCond .eq 21, 3) := by decide +kernel
theorem dX11_smear_26 : decode cX11_smear 26 = .ok (.aload_n 0, 1) := by decide +kernel
theorem dX11_smear_27 : decode cX11_smear 27 = .ok (.iload_n 3, 1) := by decide +kernel
theorem dX11_smear_28 : decode cX11_smear 28 = .ok (.invokevirtual 273, 3) := by decide +kernel
theorem dX11_smear_31 : decode cX11_smear 31 = .ok (.ifCond .eq 13, 3) := by decide +kernel
theorem dX11_smear_34 : decode cX11_smear 34 = .ok (.aload_n 0, 1) := by decide +kernel
theorem dX11_smear_35 : decode cX11_smear 35 = .ok (.iload_n 1, 1) := by decide +kernel
theorem dX11_smear_36 : decode cX11_smear 36 = .ok (.iload_n 2, 1) := by decide +kernel
theorem dX11_smear_37 : decode cX11_smear 37 = .ok (.iload_n 3, 1) := by decide +kernel
theorem dX11_smear_38 : decode cX11_smear 38 = .ok (.invokevirtual 365, 3) := by decide +kernel
theorem dX11_smear_41 : decode cX11_smear 41 = .ok (.goto 8, 3) := by decide +kernel
theorem dX11_smear_44 : decode cX11_smear 44 = .ok (.aload_n 0, 1) := by decide +kernel
theorem dX11_smear_45 : decode cX11_smear 45 = .ok (.iconst 2, 1) := by decide +kernel
theorem dX11_smear_46 : decode cX11_smear 46 = .ok (.invokevirtual 159, 3) := by decide +kernel
theorem dX11_smear_49 : decode cX11_smear 49 = .ok (.ireturn, 1) := by decide +kernel
theorem dX11_beatWhy_0 : decode cX11_beatWhy 0 = .ok (.aload_n 0, 1) := by decide +kernel
theorem dX11_beatWhy_1 : decode cX11_beatWhy 1 = .ok (.getfield 169, 3) := by decide +kernel
theorem dX11_beatWhy_4 : decode cX11_beatWhy 4 = .ok (.ifCond .ne 7, 3) := by decide +kernel
theorem dX11_beatWhy_7 : decode cX11_beatWhy 7 = .ok (.iconst 1, 1) := by decide +kernel
theorem dX11_beatWhy_8 : decode cX11_beatWhy 8 = .ok (.goto 19, 3) := by decide +kernel
theorem dX11_beatWhy_11 : decode cX11_beatWhy 11 = .ok (.aload_n 0, 1) := by decide +kernel
theorem dX11_beatWhy_12 : decode cX11_beatWhy 12 = .ok (.getfield 20, 3) := by decide +kernel
theorem dX11_beatWhy_15 : decode cX11_beatWhy 15 = .ok (.bipush 8, 2) := by decide +kernel
theorem dX11_beatWhy_17 : decode cX11_beatWhy 17 = .ok (.iaload, 1) := by decide +kernel
theorem dX11_beatWhy_18 : decode cX11_beatWhy 18 = .ok (.ifCond .ne 8, 3) := by decide +kernel
theorem dX11_beatWhy_21 : decode cX11_beatWhy 21 = .ok (.bipush 6, 2) := by decide +kernel
theorem dX11_beatWhy_23 : decode cX11_beatWhy 23 = .ok (.goto 4, 3) := by decide +kernel
theorem dX11_beatWhy_26 : decode cX11_beatWhy 26 = .ok (.iconst 0, 1) := by decide +kernel
theorem dX11_beatWhy_27 : decode cX11_beatWhy 27 = .ok (.ireturn, 1) := by decide +kernel
theorem dX11_beatsOf_0 : decode cX11_beatsOf 0 = .ok (.iconst 0, 1) := by decide +kernel
theorem dX11_beatsOf_1 : decode cX11_beatsOf 1 = .ok (.istore_n 1, 1) := by decide +kernel
theorem dX11_beatsOf_2 : decode cX11_beatsOf 2 = .ok (.iconst 1, 1) := by decide +kernel
theorem dX11_beatsOf_3 : decode cX11_beatsOf 3 = .ok (.istore_n 2, 1) := by decide +kernel
theorem dX11_beatsOf_4 : decode cX11_beatsOf 4 = .ok (.iload_n 2, 1) := by decide +kernel
theorem dX11_beatsOf_5 : decode cX11_beatsOf 5 = .ok (.aload_n 0, 1) := by decide +kernel
theorem dX11_beatsOf_6 : decode cX11_beatsOf 6 = .ok (.getfield 20, 3) := by decide +kernel
theorem dX11_beatsOf_9 : decode cX11_beatsOf 9 = .ok (.bipush 8, 2) := by decide +kernel
theorem dX11_beatsOf_11 : decode cX11_beatsOf 11 = .ok (.iaload, 1) := by decide +kernel
theorem dX11_beatsOf_12 : decode cX11_beatsOf 12 = .ok (.if_icmp .ge 39, 3) := by decide +kernel
theorem dX11_beatsOf_15 : decode cX11_beatsOf 15 = .ok (.iload_n 1, 1) := by decide +kernel
theorem dX11_beatsOf_16 : decode cX11_beatsOf 16 = .ok (.aload_n 0, 1) := by decide +kernel
theorem dX11_beatsOf_17 : decode cX11_beatsOf 17 = .ok (.iconst 0, 1) := by decide +kernel
theorem dX11_beatsOf_18 : decode cX11_beatsOf 18 = .ok (.aload_n 0, 1) := by decide +kernel
theorem dX11_beatsOf_19 : decode cX11_beatsOf 19 = .ok (.getfield 20, 3) := by decide +kernel
theorem dX11_beatsOf_22 : decode cX11_beatsOf 22 = .ok (.sipush 180, 3) := by decide +kernel
theorem dX11_beatsOf_25 : decode cX11_beatsOf 25 = .ok (.iload_n 2, 1) := by decide +kernel
theorem dX11_beatsOf_26 : decode cX11_beatsOf 26 = .ok (.iadd, 1) := by decide +kernel
theorem dX11_beatsOf_27 : decode cX11_beatsOf 27 = .ok (.iconst 1, 1) := by decide +kernel
theorem dX11_beatsOf_28 : decode cX11_beatsOf 28 = .ok (.isub, 1) := by decide +kernel
theorem dX11_beatsOf_29 : decode cX11_beatsOf 29 = .ok (.iaload, 1) := by decide +kernel
theorem dX11_beatsOf_30 : decode cX11_beatsOf 30 = .ok (.aload_n 0, 1) := by decide +kernel
theorem dX11_beatsOf_31 : decode cX11_beatsOf 31 = .ok (.getfield 20, 3) := by decide +kernel
theorem dX11_beatsOf_34 : decode cX11_beatsOf 34 = .ok (.sipush 180, 3) := by decide +kernel
theorem dX11_beatsOf_37 : decode cX11_beatsOf 37 = .ok (.iload_n 2, 1) := by decide +kernel
theorem dX11_beatsOf_38 : decode cX11_beatsOf 38 = .ok (.iadd, 1) := by decide +kernel
theorem dX11_beatsOf_39 : decode cX11_beatsOf 39 = .ok (.iaload, 1) := by decide +kernel
theorem dX11_beatsOf_40 : decode cX11_beatsOf 40 = .ok (.invokevirtual 365, 3) := by decide +kernel
theorem dX11_beatsOf_43 : decode cX11_beatsOf 43 = .ok (.iadd, 1) := by decide +kernel
theorem dX11_beatsOf_44 : decode cX11_beatsOf 44 = .ok (.istore_n 1, 1) := by decide +kernel
theorem dX11_beatsOf_45 : decode cX11_beatsOf 45 = .ok (.iinc 2 1, 3) := by decide +kernel
theorem dX11_beatsOf_48 : decode cX11_beatsOf 48 = .ok (.goto (-44), 3) := by decide +kernel
theorem dX11_beatsOf_51 : decode cX11_beatsOf 51 = .ok (.iload_n 1, 1) := by decide +kernel
theorem dX11_beatsOf_52 : decode cX11_beatsOf 52 = .ok (.ireturn, 1) := by decide +kernel
theorem dX11_beats_0 : decode cX11_beats 0 = .ok (.aload_n 0, 1) := by decide +kernel
theorem dX11_beats_1 : decode cX11_beats 1 = .ok (.invokevirtual 156, 3) := by decide +kernel
theorem dX11_beats_4 : decode cX11_beats 4 = .ok (.aload_n 0, 1) := by decide +kernel
theorem dX11_beats_5 : decode cX11_beats 5 = .ok (.invokevirtual 368, 3) := by decide +kernel
theorem dX11_beats_8 : decode cX11_beats 8 = .ok (.istore_n 1, 1) := by decide +kernel
theorem dX11_beats_9 : decode cX11_beats 9 = .ok (.iload_n 1, 1) := by decide +kernel
theorem dX11_beats_10 : decode cX11_beats 10 = .ok (.ifCond .eq 11, 3) := by decide +kernel
theorem dX11_beats_13 : decode cX11_beats 13 = .ok (.aload_n 0, 1) := by decide +kernel
theorem dX11_beats_14 : decode cX11_beats 14 = .ok (.iload_n 1, 1) := by decide +kernel
theorem dX11_beats_15 : decode cX11_beats 15 = .ok (.invokevirtual 159, 3) := by decide +kernel
theorem dX11_beats_18 : decode cX11_beats 18 = .ok (.goto 7, 3) := by decide +kernel
theorem dX11_beats_21 : decode cX11_beats 21 = .ok (.aload_n 0, 1) := by decide +kernel
theorem dX11_beats_22 : decode cX11_beats 22 = .ok (.invokevirtual 371, 3) := by decide +kernel
theorem dX11_beats_25 : decode cX11_beats 25 = .ok (.ireturn, 1) := by decide +kernel
theorem dX11_flutters_0 : decode cX11_flutters 0 = .ok (.aload_n 0, 1) := by decide +kernel
theorem dX11_flutters_1 : decode cX11_flutters 1 = .ok (.invokevirtual 156, 3) := by decide +kernel
theorem dX11_flutters_4 : decode cX11_flutters 4 = .ok (.aload_n 0, 1) := by decide +kernel
theorem dX11_flutters_5 : decode cX11_flutters 5 = .ok (.iload_n 1, 1) := by decide +kernel
theorem dX11_flutters_6 : decode cX11_flutters 6 = .ok (.invokevirtual 303, 3) := by decide +kernel
theorem dX11_flutters_9 : decode cX11_flutters 9 = .ok (.ifCond .ne 9, 3) := by decide +kernel
theorem dX11_flutters_12 : decode cX11_flutters 12 = .ok (.aload_n 0, 1) := by decide +kernel
theorem dX11_flutters_13 : decode cX11_flutters 13 = .ok (.iconst 1, 1) := by decide +kernel
theorem dX11_flutters_14 : decode cX11_flutters 14 = .ok (.invokevirtual 159, 3) := by decide +kernel
theorem dX11_flutters_17 : decode cX11_flutters 17 = .ok (.ireturn, 1) := by decide +kernel
theorem dX11_flutters_18 : decode cX11_flutters 18 = .ok (.aload_n 0, 1) := by decide +kernel
theorem dX11_flutters_19 : decode cX11_flutters 19 = .ok (.getfield 20, 3) := by decide +kernel
theorem dX11_flutters_22 : decode cX11_flutters 22 = .ok (.bipush 8, 2) := by decide +kernel
theorem dX11_flutters_24 : decode cX11_flutters 24 = .ok (.iaload, 1) := by decide +kernel
theorem dX11_flutters_25 : decode cX11_flutters 25 = .ok (.ifCond .ne 10, 3) := by decide +kernel
theorem dX11_flutters_28 : decode cX11_flutters 28 = .ok (.aload_n 0, 1) := by decide +kernel
theorem dX11_flutters_29 : decode cX11_flutters 29 = .ok (.bipush 6, 2) := by decide +kernel
theorem dX11_flutters_31 : decode cX11_flutters 31 = .ok (.invokevirtual 159, 3) := by decide +kernel
theorem dX11_flutters_34 : decode cX11_flutters 34 = .ok (.ireturn, 1) := by decide +kernel
theorem dX11_flutters_35 : decode cX11_flutters 35 = .ok (.iconst 0, 1) := by decide +kernel
theorem dX11_flutters_36 : decode cX11_flutters 36 = .ok (.istore_n 2, 1) := by decide +kernel
theorem dX11_flutters_37 : decode cX11_flutters 37 = .ok (.iconst 0, 1) := by decide +kernel
theorem dX11_flutters_38 : decode cX11_flutters 38 = .ok (.istore_n 3, 1) := by decide +kernel
theorem dX11_flutters_39 : decode cX11_flutters 39 = .ok (.iload_n 3, 1) := by decide +kernel
theorem dX11_flutters_40 : decode cX11_flutters 40 = .ok (.aload_n 0, 1) := by decide +kernel
theorem dX11_flutters_41 : decode cX11_flutters 41 = .ok (.getfield 20, 3) := by decide +kernel
theorem dX11_flutters_44 : decode cX11_flutters 44 = .ok (.bipush 8, 2) := by decide +kernel
theorem dX11_flutters_46 : decode cX11_flutters 46 = .ok (.iaload, 1) := by decide +kernel
theorem dX11_flutters_47 : decode cX11_flutters 47 = .ok (.if_icmp .ge 38, 3) := by decide +kernel
theorem dX11_flutters_50 : decode cX11_flutters 50 = .ok (.iload_n 2, 1) := by decide +kernel
theorem dX11_flutters_51 : decode cX11_flutters 51 = .ok (.aload_n 0, 1) := by decide +kernel
theorem dX11_flutters_52 : decode cX11_flutters 52 = .ok (.iload_n 1, 1) := by decide +kernel
theorem dX11_flutters_53 : decode cX11_flutters 53 = .ok (.iconst 0, 1) := by decide +kernel
theorem dX11_flutters_54 : decode cX11_flutters 54 = .ok (.aload_n 0, 1) := by decide +kernel
theorem dX11_flutters_55 : decode cX11_flutters 55 = .ok (.getfield 20, 3) := by decide +kernel
theorem dX11_flutters_58 : decode cX11_flutters 58 = .ok (.sipush 180, 3) := by decide +kernel
theorem dX11_flutters_61 : decode cX11_flutters 61 = .ok (.iload_n 3, 1) := by decide +kernel
theorem dX11_flutters_62 : decode cX11_flutters 62 = .ok (.iadd, 1) := by decide +kernel
theorem dX11_flutters_63 : decode cX11_flutters 63 = .ok (.iaload, 1) := by decide +kernel
theorem dX11_flutters_64 : decode cX11_flutters 64 = .ok (.invokevirtual 309, 3) := by decide +kernel
theorem dX11_flutters_67 : decode cX11_flutters 67 = .ok (.ifCond .le 9, 3) := by decide +kernel
theorem dX11_flutters_70 : decode cX11_flutters 70 = .ok (.iconst 1, 1) := by decide +kernel
theorem dX11_flutters_71 : decode cX11_flutters 71 = .ok (.iload_n 3, 1) := by decide +kernel
theorem dX11_flutters_72 : decode cX11_flutters 72 = .ok (.ishl, 1) := by decide +kernel
theorem dX11_flutters_73 : decode cX11_flutters 73 = .ok (.goto 4, 3) := by decide +kernel
theorem dX11_flutters_76 : decode cX11_flutters 76 = .ok (.iconst 0, 1) := by decide +kernel
theorem dX11_flutters_77 : decode cX11_flutters 77 = .ok (.ior, 1) := by decide +kernel
theorem dX11_flutters_78 : decode cX11_flutters 78 = .ok (.istore_n 2, 1) := by decide +kernel
theorem dX11_flutters_79 : decode cX11_flutters 79 = .ok (.iinc 3 1, 3) := by decide +kernel
theorem dX11_flutters_82 : decode cX11_flutters 82 = .ok (.goto (-43), 3) := by decide +kernel
theorem dX11_flutters_85 : decode cX11_flutters 85 = .ok (.iload_n 2, 1) := by decide +kernel
theorem dX11_flutters_86 : decode cX11_flutters 86 = .ok (.ireturn, 1) := by decide +kernel
theorem dX11_calmFrom_0 : decode cX11_calmFrom 0 = .ok (.iload_n 3, 1) := by decide +kernel
theorem dX11_calmFrom_1 : decode cX11_calmFrom 1 = .ok (.aload_n 0, 1) := by decide +kernel
theorem dX11_calmFrom_2 : decode cX11_calmFrom 2 = .ok (.getfield 341, 3) := by decide +kernel
theorem dX11_calmFrom_5 : decode cX11_calmFrom 5 = .ok (.if_icmp .lt 4, 3) := by decide +kernel
theorem dX11_calmFrom_8 : decode cX11_calmFrom 8 = .ok (.return_, 1) := by decide +kernel
theorem dX11_calmFrom_9 : decode cX11_calmFrom 9 = .ok (.iload_n 1, 1) := by decide +kernel
theorem dX11_calmFrom_10 : decode cX11_calmFrom 10 = .ok (.aload_n 0, 1) := by decide +kernel
theorem dX11_calmFrom_11 : decode cX11_calmFrom 11 = .ok (.getfield 20, 3) := by decide +kernel
theorem dX11_calmFrom_14 : decode cX11_calmFrom 14 = .ok (.bipush 8, 2) := by decide +kernel
theorem dX11_calmFrom_16 : decode cX11_calmFrom 16 = .ok (.iaload, 1) := by decide +kernel
theorem dX11_calmFrom_17 : decode cX11_calmFrom 17 = .ok (.if_icmp .ne 23, 3) := by decide +kernel
theorem dX11_calmFrom_20 : decode cX11_calmFrom 20 = .ok (.aload_n 0, 1) := by decide +kernel
theorem dX11_calmFrom_21 : decode cX11_calmFrom 21 = .ok (.iload_n 3, 1) := by decide +kernel
theorem dX11_calmFrom_22 : decode cX11_calmFrom 22 = .ok (.putfield 341, 3) := by decide +kernel
theorem dX11_calmFrom_25 : decode cX11_calmFrom 25 = .ok (.aload_n 0, 1) := by decide +kernel
theorem dX11_calmFrom_26 : decode cX11_calmFrom 26 = .ok (.getfield 62, 3) := by decide +kernel
theorem dX11_calmFrom_29 : decode cX11_calmFrom 29 = .ok (.iconst 0, 1) := by decide +kernel
theorem dX11_calmFrom_30 : decode cX11_calmFrom 30 = .ok (.aload_n 0, 1) := by decide +kernel
theorem dX11_calmFrom_31 : decode cX11_calmFrom 31 = .ok (.getfield 65, 3) := by decide +kernel
theorem dX11_calmFrom_34 : decode cX11_calmFrom 34 = .ok (.iconst 0, 1) := by decide +kernel
theorem dX11_calmFrom_35 : decode cX11_calmFrom 35 = .ok (.iload_n 1, 1) := by decide +kernel
theorem dX11_calmFrom_36 : decode cX11_calmFrom 36 = .ok (.invokestatic 165, 3) := by decide +kernel
theorem dX11_calmFrom_39 : decode cX11_calmFrom 39 = .ok (.return_, 1) := by decide +kernel
theorem dX11_calmFrom_40 : decode cX11_calmFrom 40 = .ok (.iconst 0, 1) := by decide +kernel
theorem dX11_calmFrom_41 : decode cX11_calmFrom 41 = .ok (.istore 4, 2) := by decide +kernel
theorem dX11_calmFrom_43 : decode cX11_calmFrom 43 = .ok (.iload 4, 2) := by decide +kernel
theorem dX11_calmFrom_45 : decode cX11_calmFrom 45 = .ok (.aload_n 0, 1) := by decide +kernel
theorem dX11_calmFrom_46 : decode cX11_calmFrom 46 = .ok (.getfield 20, 3) := by decide +kernel
theorem dX11_calmFrom_49 : decode cX11_calmFrom 49 = .ok (.bipush 8, 2) := by decide +kernel
theorem dX11_calmFrom_51 : decode cX11_calmFrom 51 = .ok (.iaload, 1) := by decide +kernel
theorem dX11_calmFrom_52 : decode cX11_calmFrom 52 = .ok (.if_icmp .ge 71, 3) := by decide +kernel
theorem dX11_calmFrom_55 : decode cX11_calmFrom 55 = .ok (.iload_n 2, 1) := by decide +kernel
theorem dX11_calmFrom_56 : decode cX11_calmFrom 56 = .ok (.iload 4, 2) := by decide +kernel
theorem dX11_calmFrom_58 : decode cX11_calmFrom 58 = .ok (.invokestatic 259, 3) := by decide +kernel
theorem dX11_calmFrom_61 : decode cX11_calmFrom 61 = .ok (.ifCond .eq 6, 3) := by decide +kernel
theorem dX11_calmFrom_64 : decode cX11_calmFrom 64 = .ok (.goto 53, 3) := by decide +kernel
theorem dX11_calmFrom_67 : decode cX11_calmFrom 67 = .ok (.aload_n 0, 1) := by decide +kernel
theorem dX11_calmFrom_68 : decode cX11_calmFrom 68 = .ok (.getfield 62, 3) := by decide +kernel
theorem dX11_calmFrom_71 : decode cX11_calmFrom 71 = .ok (.iload_n 1, 1) := by decide +kernel
theorem dX11_calmFrom_72 : decode cX11_calmFrom 72 = .ok (.iload 4, 2) := by decide +kernel
theorem dX11_calmFrom_74 : decode cX11_calmFrom 74 = .ok (.iastore, 1) := by decide +kernel
theorem dX11_calmFrom_75 : decode cX11_calmFrom 75 = .ok (.aload_n 0, 1) := by decide +kernel
theorem dX11_calmFrom_76 : decode cX11_calmFrom 76 = .ok (.iload_n 1, 1) := by decide +kernel
theorem dX11_calmFrom_77 : decode cX11_calmFrom 77 = .ok (.iconst 1, 1) := by decide +kernel
theorem dX11_calmFrom_78 : decode cX11_calmFrom 78 = .ok (.iadd, 1) := by decide +kernel
theorem dX11_calmFrom_79 : decode cX11_calmFrom 79 = .ok (.iload_n 2, 1) := by decide +kernel
theorem dX11_calmFrom_80 : decode cX11_calmFrom 80 = .ok (.iconst 1, 1) := by decide +kernel
theorem dX11_calmFrom_81 : decode cX11_calmFrom 81 = .ok (.iload 4, 2) := by decide +kernel
theorem dX11_calmFrom_83 : decode cX11_calmFrom 83 = .ok (.ishl, 1) := by decide +kernel
theorem dX11_calmFrom_84 : decode cX11_calmFrom 84 = .ok (.ior, 1) := by decide +kernel
theorem dX11_calmFrom_85 : decode cX11_calmFrom 85 = .ok (.iload_n 3, 1) := by decide +kernel
theorem dX11_calmFrom_86 : decode cX11_calmFrom 86 = .ok (.iload_n 1, 1) := by decide +kernel
theorem dX11_calmFrom_87 : decode cX11_calmFrom 87 = .ok (.ifCond .ne 7, 3) := by decide +kernel
theorem dX11_calmFrom_90 : decode cX11_calmFrom 90 = .ok (.iconst 0, 1) := by decide +kernel
theorem dX11_calmFrom_91 : decode cX11_calmFrom 91 = .ok (.goto 22, 3) := by decide +kernel
theorem dX11_calmFrom_94 : decode cX11_calmFrom 94 = .ok (.aload_n 0, 1) := by decide +kernel
theorem dX11_calmFrom_95 : decode cX11_calmFrom 95 = .ok (.getfield 68, 3) := by decide +kernel
theorem dX11_calmFrom_98 : decode cX11_calmFrom 98 = .ok (.bipush 6, 2) := by decide +kernel
theorem dX11_calmFrom_100 : decode cX11_calmFrom 100 = .ok (.aload_n 0, 1) := by decide +kernel
theorem dX11_calmFrom_101 : decode cX11_calmFrom 101 = .ok (.getfield 62, 3) := by decide +kernel
theorem dX11_calmFrom_104 : decode cX11_calmFrom 104 = .ok (.iload_n 1, 1) := by decide +kernel
theorem dX11_calmFrom_105 : decode cX11_calmFrom 105 = .ok (.iconst 1, 1) := by decide +kernel
theorem dX11_calmFrom_106 : decode cX11_calmFrom 106 = .ok (.isub, 1) := by decide +kernel
theorem dX11_calmFrom_107 : decode cX11_calmFrom 107 = .ok (.iaload, 1) := by decide +kernel
theorem dX11_calmFrom_108 : decode cX11_calmFrom 108 = .ok (.imul, 1) := by decide +kernel
theorem dX11_calmFrom_109 : decode cX11_calmFrom 109 = .ok (.iload 4, 2) := by decide +kernel
theorem dX11_calmFrom_111 : decode cX11_calmFrom 111 = .ok (.iadd, 1) := by decide +kernel
theorem dX11_calmFrom_112 : decode cX11_calmFrom 112 = .ok (.iaload, 1) := by decide +kernel
theorem dX11_calmFrom_113 : decode cX11_calmFrom 113 = .ok (.iadd, 1) := by decide +kernel
theorem dX11_calmFrom_114 : decode cX11_calmFrom 114 = .ok (.invokevirtual 374, 3) := by decide +kernel
theorem dX11_calmFrom_117 : decode cX11_calmFrom 117 = .ok (.iinc 4 1, 3) := by decide +kernel
theorem dX11_calmFrom_120 : decode cX11_calmFrom 120 = .ok (.goto (-77), 3) := by decide +kernel
theorem dX11_calmFrom_123 : decode cX11_calmFrom 123 = .ok (.return_, 1) := by decide +kernel
theorem dX11_calmOf_0 : decode cX11_calmOf 0 = .ok (.iconst 0, 1) := by decide +kernel
theorem dX11_calmOf_1 : decode cX11_calmOf 1 = .ok (.istore_n 1, 1) := by decide +kernel
theorem dX11_calmOf_2 : decode cX11_calmOf 2 = .ok (.iload_n 1, 1) := by decide +kernel
theorem dX11_calmOf_3 : decode cX11_calmOf 3 = .ok (.aload_n 0, 1) := by decide +kernel
theorem dX11_calmOf_4 : decode cX11_calmOf 4 = .ok (.getfield 20, 3) := by decide +kernel
theorem dX11_calmOf_7 : decode cX11_calmOf 7 = .ok (.bipush 8, 2) := by decide +kernel
theorem dX11_calmOf_9 : decode cX11_calmOf 9 = .ok (.iaload, 1) := by decide +kernel
theorem dX11_calmOf_10 : decode cX11_calmOf 10 = .ok (.if_icmp .ge 64, 3) := by decide +kernel
theorem dX11_calmOf_13 : decode cX11_calmOf 13 = .ok (.iconst 0, 1) := by decide +kernel
theorem dX11_calmOf_14 : decode cX11_calmOf 14 = .ok (.istore_n 2, 1) := by decide +kernel
theorem dX11_calmOf_15 : decode cX11_calmOf 15 = .ok (.iload_n 2, 1) := by decide +kernel
theorem dX11_calmOf_16 : decode cX11_calmOf 16 = .ok (.aload_n 0, 1) := by decide +kernel
theorem dX11_calmOf_17 : decode cX11_calmOf 17 = .ok (.getfield 20, 3) := by decide +kernel
theorem dX11_calmOf_20 : decode cX11_calmOf 20 = .ok (.bipush 8, 2) := by decide +kernel
theorem dX11_calmOf_22 : decode cX11_calmOf 22 = .ok (.iaload, 1) := by decide +kernel
theorem dX11_calmOf_23 : decode cX11_calmOf 23 = .ok (.if_icmp .ge 45, 3) := by decide +kernel
theorem dX11_calmOf_26 : decode cX11_calmOf 26 = .ok (.aload_n 0, 1) := by decide +kernel
theorem dX11_calmOf_27 : decode cX11_calmOf 27 = .ok (.getfield 68, 3) := by decide +kernel
theorem dX11_calmOf_30 : decode cX11_calmOf 30 = .ok (.bipush 6, 2) := by decide +kernel
theorem dX11_calmOf_32 : decode cX11_calmOf 32 = .ok (.iload_n 1, 1) := by decide +kernel
theorem dX11_calmOf_33 : decode cX11_calmOf 33 = .ok (.imul, 1) := by decide +kernel
theorem dX11_calmOf_34 : decode cX11_calmOf 34 = .ok (.iload_n 2, 1) := by decide +kernel
theorem dX11_calmOf_35 : decode cX11_calmOf 35 = .ok (.iadd, 1) := by decide +kernel
theorem dX11_calmOf_36 : decode cX11_calmOf 36 = .ok (.aload_n 0, 1) := by decide +kernel
theorem dX11_calmOf_37 : decode cX11_calmOf 37 = .ok (.iconst 0, 1) := by decide +kernel
theorem dX11_calmOf_38 : decode cX11_calmOf 38 = .ok (.aload_n 0, 1) := by decide +kernel
theorem dX11_calmOf_39 : decode cX11_calmOf 39 = .ok (.getfield 20, 3) := by decide +kernel
theorem dX11_calmOf_42 : decode cX11_calmOf 42 = .ok (.sipush 180, 3) := by decide +kernel
theorem dX11_calmOf_45 : decode cX11_calmOf 45 = .ok (.iload_n 1, 1) := by decide +kernel
theorem dX11_calmOf_46 : decode cX11_calmOf 46 = .ok (.iadd, 1) := by decide +kernel
theorem dX11_calmOf_47 : decode cX11_calmOf 47 = .ok (.iaload, 1) := by decide +kernel
theorem dX11_calmOf_48 : decode cX11_calmOf 48 = .ok (.aload_n 0, 1) := by decide +kernel
theorem dX11_calmOf_49 : decode cX11_calmOf 49 = .ok (.getfield 20, 3) := by decide +kernel
theorem dX11_calmOf_52 : decode cX11_calmOf 52 = .ok (.sipush 180, 3) := by decide +kernel
theorem dX11_calmOf_55 : decode cX11_calmOf 55 = .ok (.iload_n 2, 1) := by decide +kernel
theorem dX11_calmOf_56 : decode cX11_calmOf 56 = .ok (.iadd, 1) := by decide +kernel
theorem dX11_calmOf_57 : decode cX11_calmOf 57 = .ok (.iaload, 1) := by decide +kernel
theorem dX11_calmOf_58 : decode cX11_calmOf 58 = .ok (.invokevirtual 365, 3) := by decide +kernel
theorem dX11_calmOf_61 : decode cX11_calmOf 61 = .ok (.iastore, 1) := by decide +kernel
theorem dX11_calmOf_62 : decode cX11_calmOf 62 = .ok (.iinc 2 1, 3) := by decide +kernel
theorem dX11_calmOf_65 : decode cX11_calmOf 65 = .ok (.goto (-50), 3) := by decide +kernel
theorem dX11_calmOf_68 : decode cX11_calmOf 68 = .ok (.iinc 1 1, 3) := by decide +kernel
theorem dX11_calmOf_71 : decode cX11_calmOf 71 = .ok (.goto (-69), 3) := by decide +kernel
theorem dX11_calmOf_74 : decode cX11_calmOf 74 = .ok (.aload_n 0, 1) := by decide +kernel
theorem dX11_calmOf_75 : decode cX11_calmOf 75 = .ok (.ldc_w 328, 3) := by decide +kernel
theorem dX11_calmOf_78 : decode cX11_calmOf 78 = .ok (.putfield 341, 3) := by decide +kernel
theorem dX11_calmOf_81 : decode cX11_calmOf 81 = .ok (.aload_n 0, 1) := by decide +kernel
theorem dX11_calmOf_82 : decode cX11_calmOf 82 = .ok (.iconst 0, 1) := by decide +kernel
theorem dX11_calmOf_83 : decode cX11_calmOf 83 = .ok (.iconst 0, 1) := by decide +kernel
theorem dX11_calmOf_84 : decode cX11_calmOf 84 = .ok (.iconst 0, 1) := by decide +kernel
theorem dX11_calmOf_85 : decode cX11_calmOf 85 = .ok (.invokevirtual 374, 3) := by decide +kernel
theorem dX11_calmOf_88 : decode cX11_calmOf 88 = .ok (.aload_n 0, 1) := by decide +kernel
theorem dX11_calmOf_89 : decode cX11_calmOf 89 = .ok (.getfield 341, 3) := by decide +kernel
theorem dX11_calmOf_92 : decode cX11_calmOf 92 = .ok (.ireturn, 1) := by decide +kernel
theorem dX11_calm_0 : decode cX11_calm 0 = .ok (.aload_n 0, 1) := by decide +kernel
theorem dX11_calm_1 : decode cX11_calm 1 = .ok (.invokevirtual 156, 3) := by decide +kernel
theorem dX11_calm_4 : decode cX11_calm 4 = .ok (.aload_n 0, 1) := by decide +kernel
theorem dX11_calm_5 : decode cX11_calm 5 = .ok (.invokevirtual 368, 3) := by decide +kernel
theorem dX11_calm_8 : decode cX11_calm 8 = .ok (.istore_n 1, 1) := by decide +kernel
theorem dX11_calm_9 : decode cX11_calm 9 = .ok (.iload_n 1, 1) := by decide +kernel
theorem dX11_calm_10 : decode cX11_calm 10 = .ok (.ifCond .eq 11, 3) := by decide +kernel
theorem dX11_calm_13 : decode cX11_calm 13 = .ok (.aload_n 0, 1) := by decide +kernel
theorem dX11_calm_14 : decode cX11_calm 14 = .ok (.iload_n 1, 1) := by decide +kernel
theorem dX11_calm_15 : decode cX11_calm 15 = .ok (.invokevirtual 159, 3) := by decide +kernel
theorem dX11_calm_18 : decode cX11_calm 18 = .ok (.goto 7, 3) := by decide +kernel
theorem dX11_calm_21 : decode cX11_calm 21 = .ok (.aload_n 0, 1) := by decide +kernel
theorem dX11_calm_22 : decode cX11_calm 22 = .ok (.invokevirtual 378, 3) := by decide +kernel
theorem dX11_calm_25 : decode cX11_calm 25 = .ok (.ireturn, 1) := by decide +kernel
theorem dX11_calmAt_0 : decode cX11_calmAt 0 = .ok (.aload_n 0, 1) := by decide +kernel
theorem dX11_calmAt_1 : decode cX11_calmAt 1 = .ok (.invokevirtual 156, 3) := by decide +kernel
theorem dX11_calmAt_4 : decode cX11_calmAt 4 = .ok (.aload_n 0, 1) := by decide +kernel
theorem dX11_calmAt_5 : decode cX11_calmAt 5 = .ok (.getfield 169, 3) := by decide +kernel
theorem dX11_calmAt_8 : decode cX11_calmAt 8 = .ok (.ifCond .ne 9, 3) := by decide +kernel
theorem dX11_calmAt_11 : decode cX11_calmAt 11 = .ok (.aload_n 0, 1) := by decide +kernel
theorem dX11_calmAt_12 : decode cX11_calmAt 12 = .ok (.iconst 1, 1) := by decide +kernel
theorem dX11_calmAt_13 : decode cX11_calmAt 13 = .ok (.invokevirtual 159, 3) := by decide +kernel
theorem dX11_calmAt_16 : decode cX11_calmAt 16 = .ok (.ireturn, 1) := by decide +kernel
theorem dX11_calmAt_17 : decode cX11_calmAt 17 = .ok (.aload_n 0, 1) := by decide +kernel
theorem dX11_calmAt_18 : decode cX11_calmAt 18 = .ok (.getfield 20, 3) := by decide +kernel
theorem dX11_calmAt_21 : decode cX11_calmAt 21 = .ok (.bipush 8, 2) := by decide +kernel
theorem dX11_calmAt_23 : decode cX11_calmAt 23 = .ok (.iaload, 1) := by decide +kernel
theorem dX11_calmAt_24 : decode cX11_calmAt 24 = .ok (.ifCond .ne 10, 3) := by decide +kernel
theorem dX11_calmAt_27 : decode cX11_calmAt 27 = .ok (.aload_n 0, 1) := by decide +kernel
theorem dX11_calmAt_28 : decode cX11_calmAt 28 = .ok (.bipush 6, 2) := by decide +kernel
theorem dX11_calmAt_30 : decode cX11_calmAt 30 = .ok (.invokevirtual 159, 3) := by decide +kernel
theorem dX11_calmAt_33 : decode cX11_calmAt 33 = .ok (.ireturn, 1) := by decide +kernel
theorem dX11_calmAt_34 : decode cX11_calmAt 34 = .ok (.iload_n 1, 1) := by decide +kernel
theorem dX11_calmAt_35 : decode cX11_calmAt 35 = .ok (.iconst 0, 1) := by decide +kernel
theorem dX11_calmAt_36 : decode cX11_calmAt 36 = .ok (.aload_n 0, 1) := by decide +kernel
theorem dX11_calmAt_37 : decode cX11_calmAt 37 = .ok (.getfield 20, 3) := by decide +kernel
theorem dX11_calmAt_40 : decode cX11_calmAt 40 = .ok (.bipush 8, 2) := by decide +kernel
theorem dX11_calmAt_42 : decode cX11_calmAt 42 = .ok (.iaload, 1) := by decide +kernel
theorem dX11_calmAt_43 : decode cX11_calmAt 43 = .ok (.iconst 1, 1) := by decide +kernel
theorem dX11_calmAt_44 : decode cX11_calmAt 44 = .ok (.isub, 1) := by decide +kernel
theorem dX11_calmAt_45 : decode cX11_calmAt 45 = .ok (.invokestatic 140, 3) := by decide +kernel
theorem dX11_calmAt_48 : decode cX11_calmAt 48 = .ok (.ifCond .ne 9, 3) := by decide +kernel
theorem dX11_calmAt_51 : decode cX11_calmAt 51 = .ok (.aload_n 0, 1) := by decide +kernel
theorem dX11_calmAt_52 : decode cX11_calmAt 52 = .ok (.iconst 1, 1) := by decide +kernel
theorem dX11_calmAt_53 : decode cX11_calmAt 53 = .ok (.invokevirtual 159, 3) := by decide +kernel
theorem dX11_calmAt_56 : decode cX11_calmAt 56 = .ok (.ireturn, 1) := by decide +kernel
theorem dX11_calmAt_57 : decode cX11_calmAt 57 = .ok (.aload_n 0, 1) := by decide +kernel
theorem dX11_calmAt_58 : decode cX11_calmAt 58 = .ok (.invokevirtual 378, 3) := by decide +kernel
theorem dX11_calmAt_61 : decode cX11_calmAt 61 = .ok (.pop, 1) := by decide +kernel
theorem dX11_calmAt_62 : decode cX11_calmAt 62 = .ok (.aload_n 0, 1) := by decide +kernel
theorem dX11_calmAt_63 : decode cX11_calmAt 63 = .ok (.getfield 65, 3) := by decide +kernel
theorem dX11_calmAt_66 : decode cX11_calmAt 66 = .ok (.iload_n 1, 1) := by decide +kernel
theorem dX11_calmAt_67 : decode cX11_calmAt 67 = .ok (.iaload, 1) := by decide +kernel
theorem dX11_calmAt_68 : decode cX11_calmAt 68 = .ok (.ireturn, 1) := by decide +kernel
theorem dX11_note_0 : decode cX11_note 0 = .ok (.aload_n 0, 1) := by decide +kernel
theorem dX11_note_1 : decode cX11_note 1 = .ok (.getfield 172, 3) := by decide +kernel
theorem dX11_note_4 : decode cX11_note 4 = .ok (.bipush 16, 2) := by decide +kernel
theorem dX11_note_6 : decode cX11_note 6 = .ok (.if_icmp .ne 43, 3) := by decide +kernel
theorem dX11_note_9 : decode cX11_note 9 = .ok (.iconst 0, 1) := by decide +kernel
theorem dX11_note_10 : decode cX11_note 10 = .ok (.istore_n 1, 1) := by decide +kernel
theorem dX11_note_11 : decode cX11_note 11 = .ok (.iload_n 1, 1) := by decide +kernel
theorem dX11_note_12 : decode cX11_note 12 = .ok (.sipush 930, 3) := by decide +kernel
theorem dX11_note_15 : decode cX11_note 15 = .ok (.if_icmp .ge 24, 3) := by decide +kernel
theorem dX11_note_18 : decode cX11_note 18 = .ok (.aload_n 0, 1) := by decide +kernel
theorem dX11_note_19 : decode cX11_note 19 = .ok (.getfield 32, 3) := by decide +kernel
theorem dX11_note_22 : decode cX11_note 22 = .ok (.iload_n 1, 1) := by decide +kernel
theorem dX11_note_23 : decode cX11_note 23 = .ok (.aload_n 0, 1) := by decide +kernel
theorem dX11_note_24 : decode cX11_note 24 = .ok (.getfield 32, 3) := by decide +kernel
theorem dX11_note_27 : decode cX11_note 27 = .ok (.iload_n 1, 1) := by decide +kernel
theorem dX11_note_28 : decode cX11_note 28 = .ok (.bipush 62, 2) := by decide +kernel
theorem dX11_note_30 : decode cX11_note 30 = .ok (.iadd, 1) := by decide +kernel
theorem dX11_note_31 : decode cX11_note 31 = .ok (.iaload, 1) := by decide +kernel
theorem dX11_note_32 : decode cX11_note 32 = .ok (.iastore, 1) := by decide +kernel
theorem dX11_note_33 : decode cX11_note 33 = .ok (.iinc 1 1, 3) := by decide +kernel
theorem dX11_note_36 : decode cX11_note 36 = .ok (.goto (-25), 3) := by decide +kernel
theorem dX11_note_39 : decode cX11_note 39 = .ok (.aload_n 0, 1) := by decide +kernel
theorem dX11_note_40 : decode cX11_note 40 = .ok (.dup, 1) := by decide +kernel
theorem dX11_note_41 : decode cX11_note 41 = .ok (.getfield 172, 3) := by decide +kernel
theorem dX11_note_44 : decode cX11_note 44 = .ok (.iconst 1, 1) := by decide +kernel
theorem dX11_note_45 : decode cX11_note 45 = .ok (.isub, 1) := by decide +kernel
theorem dX11_note_46 : decode cX11_note 46 = .ok (.putfield 172, 3) := by decide +kernel
theorem dX11_note_49 : decode cX11_note 49 = .ok (.aload_n 0, 1) := by decide +kernel
theorem dX11_note_50 : decode cX11_note 50 = .ok (.getfield 26, 3) := by decide +kernel
theorem dX11_note_53 : decode cX11_note 53 = .ok (.iconst 0, 1) := by decide +kernel
theorem dX11_note_54 : decode cX11_note 54 = .ok (.aload_n 0, 1) := by decide +kernel
theorem dX11_note_55 : decode cX11_note 55 = .ok (.getfield 32, 3) := by decide +kernel
theorem dX11_note_58 : decode cX11_note 58 = .ok (.bipush 62, 2) := by decide +kernel
theorem dX11_note_60 : decode cX11_note 60 = .ok (.aload_n 0, 1) := by decide +kernel
theorem dX11_note_61 : decode cX11_note 61 = .ok (.getfield 172, 3) := by decide +kernel
theorem dX11_note_64 : decode cX11_note 64 = .ok (.imul, 1) := by decide +kernel
theorem dX11_note_65 : decode cX11_note 65 = .ok (.bipush 62, 2) := by decide +kernel
theorem dX11_note_67 : decode cX11_note 67 = .ok (.invokestatic 165, 3) := by decide +kernel
theorem dX11_note_70 : decode cX11_note 70 = .ok (.aload_n 0, 1) := by decide +kernel
theorem dX11_note_71 : decode cX11_note 71 = .ok (.dup, 1) := by decide +kernel
theorem dX11_note_72 : decode cX11_note 72 = .ok (.getfield 172, 3) := by decide +kernel
theorem dX11_note_75 : decode cX11_note 75 = .ok (.iconst 1, 1) := by decide +kernel
theorem dX11_note_76 : decode cX11_note 76 = .ok (.iadd, 1) := by decide +kernel
theorem dX11_note_77 : decode cX11_note 77 = .ok (.putfield 172, 3) := by decide +kernel
theorem dX11_note_80 : decode cX11_note 80 = .ok (.return_, 1) := by decide +kernel
theorem dX11_paint_0 : decode cX11_paint 0 = .ok (.aload_n 0, 1) := by decide +kernel
theorem dX11_paint_1 : decode cX11_paint 1 = .ok (.invokevirtual 156, 3) := by decide +kernel
theorem dX11_paint_4 : decode cX11_paint 4 = .ok (.aload_n 0, 1) := by decide +kernel
theorem dX11_paint_5 : decode cX11_paint 5 = .ok (.iload_n 1, 1) := by decide +kernel
theorem dX11_paint_6 : decode cX11_paint 6 = .ok (.iload_n 2, 1) := by decide +kernel
theorem dX11_paint_7 : decode cX11_paint 7 = .ok (.iload_n 3, 1) := by decide +kernel
theorem dX11_paint_8 : decode cX11_paint 8 = .ok (.invokevirtual 267, 3) := by decide +kernel
theorem dX11_paint_11 : decode cX11_paint 11 = .ok (.ifCond .ne 9, 3) := by decide +kernel
theorem dX11_paint_14 : decode cX11_paint 14 = .ok (.aload_n 0, 1) := by decide +kernel
theorem dX11_paint_15 : decode cX11_paint 15 = .ok (.iconst 1, 1) := by decide +kernel
theorem dX11_paint_16 : decode cX11_paint 16 = .ok (.invokevirtual 381, 3) := by decide +kernel
theorem dX11_paint_19 : decode cX11_paint 19 = .ok (.ireturn, 1) := by decide +kernel
theorem dX11_paint_20 : decode cX11_paint 20 = .ok (.iload 4, 2) := by decide +kernel
theorem dX11_paint_22 : decode cX11_paint 22 = .ok (.iconst 0, 1) := by decide +kernel
theorem dX11_paint_23 : decode cX11_paint 23 = .ok (.bipush 25, 2) := by decide +kernel
theorem dX11_paint_25 : decode cX11_paint 25 = .ok (.invokestatic 140, 3) := by decide +kernel
theorem dX11_paint_28 : decode cX11_paint 28 = .ok (.ifCond .ne 9, 3) := by decide +kernel
theorem dX11_paint_31 : decode cX11_paint 31 = .ok (.aload_n 0, 1) := by decide +kernel
theorem dX11_paint_32 : decode cX11_paint 32 = .ok (.iconst 2, 1) := by decide +kernel
theorem dX11_paint_33 : decode cX11_paint 33 = .ok (.invokevirtual 381, 3) := by decide +kernel
theorem dX11_paint_36 : decode cX11_paint 36 = .ok (.ireturn, 1) := by decide +kernel
theorem dX11_paint_37 : decode cX11_paint 37 = .ok (.aload_n 0, 1) := by decide +kernel
theorem dX11_paint_38 : decode cX11_paint 38 = .ok (.getfield 26, 3) := by decide +kernel
theorem dX11_paint_41 : decode cX11_paint 41 = .ok (.bipush 30, 2) := by decide +kernel
theorem dX11_paint_43 : decode cX11_paint 43 = .ok (.iload_n 1, 1) := by decide +kernel
theorem dX11_paint_44 : decode cX11_paint 44 = .ok (.imul, 1) := by decide +kernel
theorem dX11_paint_45 : decode cX11_paint 45 = .ok (.iconst 3, 1) := by decide +kernel
theorem dX11_paint_46 : decode cX11_paint 46 = .ok (.iload_n 2, 1) := by decide +kernel
theorem dX11_paint_47 : decode cX11_paint 47 = .ok (.imul, 1) := by decide +kernel
theorem dX11_paint_48 : decode cX11_paint 48 = .ok (.iadd, 1) := by decide +kernel
theorem dX11_paint_49 : decode cX11_paint 49 = .ok (.iload_n 3, 1) := by decide +kernel
theorem dX11_paint_50 : decode cX11_paint 50 = .ok (.iadd, 1) := by decide +kernel
theorem dX11_paint_51 : decode cX11_paint 51 = .ok (.iaload, 1) := by decide +kernel
theorem dX11_paint_52 : decode cX11_paint 52 = .ok (.iload 4, 2) := by decide +kernel
theorem dX11_paint_54 : decode cX11_paint 54 = .ok (.if_icmp .ne 9, 3) := by decide +kernel
theorem dX11_paint_57 : decode cX11_paint 57 = .ok (.aload_n 0, 1) := by decide +kernel
theorem dX11_paint_58 : decode cX11_paint 58 = .ok (.iconst 5, 1) := by decide +kernel
theorem dX11_paint_59 : decode cX11_paint 59 = .ok (.invokevirtual 381, 3) := by decide +kernel
theorem dX11_paint_62 : decode cX11_paint 62 = .ok (.ireturn, 1) := by decide +kernel
theorem dX11_paint_63 : decode cX11_paint 63 = .ok (.aload_n 0, 1) := by decide +kernel
theorem dX11_paint_64 : decode cX11_paint 64 = .ok (.invokevirtual 384, 3) := by decide +kernel
theorem dX11_paint_67 : decode cX11_paint 67 = .ok (.aload_n 0, 1) := by decide +kernel
theorem dX11_paint_68 : decode cX11_paint 68 = .ok (.getfield 26, 3) := by decide +kernel
theorem dX11_paint_71 : decode cX11_paint 71 = .ok (.bipush 30, 2) := by decide +kernel
theorem dX11_paint_73 : decode cX11_paint 73 = .ok (.iload_n 1, 1) := by decide +kernel
theorem dX11_paint_74 : decode cX11_paint 74 = .ok (.imul, 1) := by decide +kernel
theorem dX11_paint_75 : decode cX11_paint 75 = .ok (.iconst 3, 1) := by decide +kernel
theorem dX11_paint_76 : decode cX11_paint 76 = .ok (.iload_n 2, 1) := by decide +kernel
theorem dX11_paint_77 : decode cX11_paint 77 = .ok (.imul, 1) := by decide +kernel
theorem dX11_paint_78 : decode cX11_paint 78 = .ok (.iadd, 1) := by decide +kernel
theorem dX11_paint_79 : decode cX11_paint 79 = .ok (.iload_n 3, 1) := by decide +kernel
theorem dX11_paint_80 : decode cX11_paint 80 = .ok (.iadd, 1) := by decide +kernel
theorem dX11_paint_81 : decode cX11_paint 81 = .ok (.iload 4, 2) := by decide +kernel
theorem dX11_paint_83 : decode cX11_paint 83 = .ok (.iastore, 1) := by decide +kernel
theorem dX11_paint_84 : decode cX11_paint 84 = .ok (.iconst 1, 1) := by decide +kernel
theorem dX11_paint_85 : decode cX11_paint 85 = .ok (.ireturn, 1) := by decide +kernel
theorem dX11_breaks_0 : decode cX11_breaks 0 = .ok (.aload_n 0, 1) := by decide +kernel
theorem dX11_breaks_1 : decode cX11_breaks 1 = .ok (.invokevirtual 156, 3) := by decide +kernel
theorem dX11_breaks_4 : decode cX11_breaks 4 = .ok (.aload_n 0, 1) := by decide +kernel
theorem dX11_breaks_5 : decode cX11_breaks 5 = .ok (.iload_n 1, 1) := by decide +kernel
theorem dX11_breaks_6 : decode cX11_breaks 6 = .ok (.invokevirtual 256, 3) := by decide +kernel
theorem dX11_breaks_9 : decode cX11_breaks 9 = .ok (.ifCond .ne 9, 3) := by decide +kernel
theorem dX11_breaks_12 : decode cX11_breaks 12 = .ok (.aload_n 0, 1) := by decide +kernel
theorem dX11_breaks_13 : decode cX11_breaks 13 = .ok (.iconst 1, 1) := by decide +kernel
theorem dX11_breaks_14 : decode cX11_breaks 14 = .ok (.invokevirtual 381, 3) := by decide +kernel
theorem dX11_breaks_17 : decode cX11_breaks 17 = .ok (.ireturn, 1) := by decide +kernel
theorem dX11_breaks_18 : decode cX11_breaks 18 = .ok (.aload_n 0, 1) := by decide +kernel
theorem dX11_breaks_19 : decode cX11_breaks 19 = .ok (.getfield 26, 3) := by decide +kernel
theorem dX11_breaks_22 : decode cX11_breaks 22 = .ok (.bipush 60, 2) := by decide +kernel
theorem dX11_breaks_24 : decode cX11_breaks 24 = .ok (.iaload, 1) := by decide +kernel
theorem dX11_breaks_25 : decode cX11_breaks 25 = .ok (.iload_n 1, 1) := by decide +kernel
theorem dX11_breaks_26 : decode cX11_breaks 26 = .ok (.invokestatic 259, 3) := by decide +kernel
theorem dX11_breaks_29 : decode cX11_breaks 29 = .ok (.iload_n 2, 1) := by decide +kernel
theorem dX11_breaks_30 : decode cX11_breaks 30 = .ok (.if_icmp .ne 9, 3) := by decide +kernel
theorem dX11_breaks_33 : decode cX11_breaks 33 = .ok (.aload_n 0, 1) := by decide +kernel
theorem dX11_breaks_34 : decode cX11_breaks 34 = .ok (.iconst 5, 1) := by decide +kernel
theorem dX11_breaks_35 : decode cX11_breaks 35 = .ok (.invokevirtual 381, 3) := by decide +kernel
theorem dX11_breaks_38 : decode cX11_breaks 38 = .ok (.ireturn, 1) := by decide +kernel
theorem dX11_breaks_39 : decode cX11_breaks 39 = .ok (.aload_n 0, 1) := by decide +kernel
theorem dX11_breaks_40 : decode cX11_breaks 40 = .ok (.invokevirtual 384, 3) := by decide +kernel
theorem dX11_breaks_43 : decode cX11_breaks 43 = .ok (.aload_n 0, 1) := by decide +kernel
theorem dX11_breaks_44 : decode cX11_breaks 44 = .ok (.getfield 26, 3) := by decide +kernel
theorem dX11_breaks_47 : decode cX11_breaks 47 = .ok (.bipush 60, 2) := by decide +kernel
theorem dX11_breaks_49 : decode cX11_breaks 49 = .ok (.dup2, 1) := by decide +kernel
theorem dX11_breaks_50 : decode cX11_breaks 50 = .ok (.iaload, 1) := by decide +kernel
theorem dX11_breaks_51 : decode cX11_breaks 51 = .ok (.iconst 1, 1) := by decide +kernel
theorem dX11_breaks_52 : decode cX11_breaks 52 = .ok (.iload_n 1, 1) := by decide +kernel
theorem dX11_breaks_53 : decode cX11_breaks 53 = .ok (.ishl, 1) := by decide +kernel
theorem dX11_breaks_54 : decode cX11_breaks 54 = .ok (.ixor, 1) := by decide +kernel
theorem dX11_breaks_55 : decode cX11_breaks 55 = .ok (.iastore, 1) := by decide +kernel
theorem dX11_breaks_56 : decode cX11_breaks 56 = .ok (.iconst 1, 1) := by decide +kernel
theorem dX11_breaks_57 : decode cX11_breaks 57 = .ok (.ireturn, 1) := by decide +kernel
theorem dX11_open_0 : decode cX11_open 0 = .ok (.aload_n 0, 1) := by decide +kernel
theorem dX11_open_1 : decode cX11_open 1 = .ok (.invokevirtual 156, 3) := by decide +kernel
theorem dX11_open_4 : decode cX11_open 4 = .ok (.aload_n 0, 1) := by decide +kernel
theorem dX11_open_5 : decode cX11_open 5 = .ok (.getfield 169, 3) := by decide +kernel
theorem dX11_open_8 : decode cX11_open 8 = .ok (.ifCond .ne 9, 3) := by decide +kernel
theorem dX11_open_11 : decode cX11_open 11 = .ok (.aload_n 0, 1) := by decide +kernel
theorem dX11_open_12 : decode cX11_open 12 = .ok (.iconst 1, 1) := by decide +kernel
theorem dX11_open_13 : decode cX11_open 13 = .ok (.invokevirtual 159, 3) := by decide +kernel
theorem dX11_open_16 : decode cX11_open 16 = .ok (.ireturn, 1) := by decide +kernel
theorem dX11_open_17 : decode cX11_open 17 = .ok (.aload_n 0, 1) := by decide +kernel
theorem dX11_open_18 : decode cX11_open 18 = .ok (.iload_n 1, 1) := by decide +kernel
theorem dX11_open_19 : decode cX11_open 19 = .ok (.invokevirtual 273, 3) := by decide +kernel
theorem dX11_open_22 : decode cX11_open 22 = .ok (.ifCond .ne 9, 3) := by decide +kernel
theorem dX11_open_25 : decode cX11_open 25 = .ok (.aload_n 0, 1) := by decide +kernel
theorem dX11_open_26 : decode cX11_open 26 = .ok (.iconst 2, 1) := by decide +kernel
theorem dX11_open_27 : decode cX11_open 27 = .ok (.invokevirtual 159, 3) := by decide +kernel
theorem dX11_open_30 : decode cX11_open 30 = .ok (.ireturn, 1) := by decide +kernel
theorem dX11_open_31 : decode cX11_open 31 = .ok (.aload_n 0, 1) := by decide +kernel
theorem dX11_open_32 : decode cX11_open 32 = .ok (.getfield 26, 3) := by decide +kernel
theorem dX11_open_35 : decode cX11_open 35 = .ok (.bipush 61, 2) := by decide +kernel
theorem dX11_open_37 : decode cX11_open 37 = .ok (.iaload, 1) := by decide +kernel
theorem dX11_open_38 : decode cX11_open 38 = .ok (.iload_n 1, 1) := by decide +kernel
theorem dX11_open_39 : decode cX11_open 39 = .ok (.if_icmp .ne 9, 3) := by decide +kernel
theorem dX11_open_42 : decode cX11_open 42 = .ok (.aload_n 0, 1) := by decide +kernel
theorem dX11_open_43 : decode cX11_open 43 = .ok (.iconst 5, 1) := by decide +kernel
theorem dX11_open_44 : decode cX11_open 44 = .ok (.invokevirtual 159, 3) := by decide +kernel
theorem dX11_open_47 : decode cX11_open 47 = .ok (.ireturn, 1) := by decide +kernel
theorem dX11_open_48 : decode cX11_open 48 = .ok (.aload_n 0, 1) := by decide +kernel
theorem dX11_open_49 : decode cX11_open 49 = .ok (.invokevirtual 384, 3) := by decide +kernel
theorem dX11_open_52 : decode cX11_open 52 = .ok (.aload_n 0, 1) := by decide +kernel
theorem dX11_open_53 : decode cX11_open 53 = .ok (.getfield 26, 3) := by decide +kernel
theorem dX11_open_56 : decode cX11_open 56 = .ok (.bipush 61, 2) := by decide +kernel
theorem dX11_open_58 : decode cX11_open 58 = .ok (.iload_n 1, 1) := by decide +kernel
theorem dX11_open_59 : decode cX11_open 59 = .ok (.iastore, 1) := by decide +kernel
theorem dX11_open_60 : decode cX11_open 60 = .ok (.aload_n 0, 1) := by decide +kernel
theorem dX11_open_61 : decode cX11_open 61 = .ok (.iconst 0, 1) := by decide +kernel
theorem dX11_open_62 : decode cX11_open 62 = .ok (.iload_n 1, 1) := by decide +kernel
theorem dX11_open_63 : decode cX11_open 63 = .ok (.invokevirtual 279, 3) := by decide +kernel
theorem dX11_open_66 : decode cX11_open 66 = .ok (.ireturn, 1) := by decide +kernel
theorem dX11_flutter_0 : decode cX11_flutter 0 = .ok (.aload_n 0, 1) := by decide +kernel
theorem dX11_flutter_1 : decode cX11_flutter 1 = .ok (.invokevirtual 156, 3) := by decide +kernel
theorem dX11_flutter_4 : decode cX11_flutter 4 = .ok (.aload_n 0, 1) := by decide +kernel
theorem dX11_flutter_5 : decode cX11_flutter 5 = .ok (.invokevirtual 368, 3) := by decide +kernel
theorem dX11_flutter_8 : decode cX11_flutter 8 = .ok (.istore_n 1, 1) := by decide +kernel
theorem dX11_flutter_9 : decode cX11_flutter 9 = .ok (.iload_n 1, 1) := by decide +kernel
theorem dX11_flutter_10 : decode cX11_flutter 10 = .ok (.ifCond .eq 9, 3) := by decide +kernel
theorem dX11_flutter_13 : decode cX11_flutter 13 = .ok (.aload_n 0, 1) := by decide +kernel
theorem dX11_flutter_14 : decode cX11_flutter 14 = .ok (.iload_n 1, 1) := by decide +kernel
theorem dX11_flutter_15 : decode cX11_flutter 15 = .ok (.invokevirtual 159, 3) := by decide +kernel
theorem dX11_flutter_18 : decode cX11_flutter 18 = .ok (.ireturn, 1) := by decide +kernel
theorem dX11_flutter_19 : decode cX11_flutter 19 = .ok (.aload_n 0, 1) := by decide +kernel
theorem dX11_flutter_20 : decode cX11_flutter 20 = .ok (.invokevirtual 384, 3) := by decide +kernel
theorem dX11_flutter_23 : decode cX11_flutter 23 = .ok (.aload_n 0, 1) := by decide +kernel
theorem dX11_flutter_24 : decode cX11_flutter 24 = .ok (.iconst 0, 1) := by decide +kernel
theorem dX11_flutter_25 : decode cX11_flutter 25 = .ok (.aload_n 0, 1) := by decide +kernel
theorem dX11_flutter_26 : decode cX11_flutter 26 = .ok (.getfield 26, 3) := by decide +kernel
theorem dX11_flutter_29 : decode cX11_flutter 29 = .ok (.bipush 61, 2) := by decide +kernel
theorem dX11_flutter_31 : decode cX11_flutter 31 = .ok (.iaload, 1) := by decide +kernel
theorem dX11_flutter_32 : decode cX11_flutter 32 = .ok (.aload_n 0, 1) := by decide +kernel
theorem dX11_flutter_33 : decode cX11_flutter 33 = .ok (.getfield 20, 3) := by decide +kernel
theorem dX11_flutter_36 : decode cX11_flutter 36 = .ok (.sipush 180, 3) := by decide +kernel
theorem dX11_flutter_39 : decode cX11_flutter 39 = .ok (.iaload, 1) := by decide +kernel
theorem dX11_flutter_40 : decode cX11_flutter 40 = .ok (.invokevirtual 365, 3) := by decide +kernel
theorem dX11_flutter_43 : decode cX11_flutter 43 = .ok (.aload_n 0, 1) := by decide +kernel
theorem dX11_flutter_44 : decode cX11_flutter 44 = .ok (.invokevirtual 371, 3) := by decide +kernel
theorem dX11_flutter_47 : decode cX11_flutter 47 = .ok (.iadd, 1) := by decide +kernel
theorem dX11_flutter_48 : decode cX11_flutter 48 = .ok (.istore_n 2, 1) := by decide +kernel
theorem dX11_flutter_49 : decode cX11_flutter 49 = .ok (.aload_n 0, 1) := by decide +kernel
theorem dX11_flutter_50 : decode cX11_flutter 50 = .ok (.getfield 26, 3) := by decide +kernel
theorem dX11_flutter_53 : decode cX11_flutter 53 = .ok (.bipush 61, 2) := by decide +kernel
theorem dX11_flutter_55 : decode cX11_flutter 55 = .ok (.aload_n 0, 1) := by decide +kernel
theorem dX11_flutter_56 : decode cX11_flutter 56 = .ok (.getfield 20, 3) := by decide +kernel
theorem dX11_flutter_59 : decode cX11_flutter 59 = .ok (.sipush 180, 3) := by decide +kernel
theorem dX11_flutter_62 : decode cX11_flutter 62 = .ok (.aload_n 0, 1) := by decide +kernel
theorem dX11_flutter_63 : decode cX11_flutter 63 = .ok (.getfield 20, 3) := by decide +kernel
theorem dX11_flutter_66 : decode cX11_flutter 66 = .ok (.bipush 8, 2) := by decide +kernel
theorem dX11_flutter_68 : decode cX11_flutter 68 = .ok (.iaload, 1) := by decide +kernel
theorem dX11_flutter_69 : decode cX11_flutter 69 = .ok (.iadd, 1) := by decide +kernel
theorem dX11_flutter_70 : decode cX11_flutter 70 = .ok (.iconst 1, 1) := by decide +kernel
theorem dX11_flutter_71 : decode cX11_flutter 71 = .ok (.isub, 1) := by decide +kernel
theorem dX11_flutter_72 : decode cX11_flutter 72 = .ok (.iaload, 1) := by decide +kernel
theorem dX11_flutter_73 : decode cX11_flutter 73 = .ok (.iastore, 1) := by decide +kernel
theorem dX11_flutter_74 : decode cX11_flutter 74 = .ok (.iload_n 2, 1) := by decide +kernel
theorem dX11_flutter_75 : decode cX11_flutter 75 = .ok (.ireturn, 1) := by decide +kernel
theorem dX11_undo_0 : decode cX11_undo 0 = .ok (.aload_n 0, 1) := by decide +kernel
theorem dX11_undo_1 : decode cX11_undo 1 = .ok (.invokevirtual 156, 3) := by decide +kernel
theorem dX11_undo_4 : decode cX11_undo 4 = .ok (.aload_n 0, 1) := by decide +kernel
theorem dX11_undo_5 : decode cX11_undo 5 = .ok (.getfield 172, 3) := by decide +kernel
theorem dX11_undo_8 : decode cX11_undo 8 = .ok (.ifCond .ne 10, 3) := by decide +kernel
theorem dX11_undo_11 : decode cX11_undo 11 = .ok (.aload_n 0, 1) := by decide +kernel
theorem dX11_undo_12 : decode cX11_undo 12 = .ok (.bipush 6, 2) := by decide +kernel
theorem dX11_undo_14 : decode cX11_undo 14 = .ok (.invokevirtual 381, 3) := by decide +kernel
theorem dX11_undo_17 : decode cX11_undo 17 = .ok (.ireturn, 1) := by decide +kernel
theorem dX11_undo_18 : decode cX11_undo 18 = .ok (.aload_n 0, 1) := by decide +kernel
theorem dX11_undo_19 : decode cX11_undo 19 = .ok (.dup, 1) := by decide +kernel
theorem dX11_undo_20 : decode cX11_undo 20 = .ok (.getfield 172, 3) := by decide +kernel
theorem dX11_undo_23 : decode cX11_undo 23 = .ok (.iconst 1, 1) := by decide +kernel
theorem dX11_undo_24 : decode cX11_undo 24 = .ok (.isub, 1) := by decide +kernel
theorem dX11_undo_25 : decode cX11_undo 25 = .ok (.putfield 172, 3) := by decide +kernel
theorem dX11_undo_28 : decode cX11_undo 28 = .ok (.aload_n 0, 1) := by decide +kernel
theorem dX11_undo_29 : decode cX11_undo 29 = .ok (.getfield 32, 3) := by decide +kernel
theorem dX11_undo_32 : decode cX11_undo 32 = .ok (.bipush 62, 2) := by decide +kernel
theorem dX11_undo_34 : decode cX11_undo 34 = .ok (.aload_n 0, 1) := by decide +kernel
theorem dX11_undo_35 : decode cX11_undo 35 = .ok (.getfield 172, 3) := by decide +kernel
theorem dX11_undo_38 : decode cX11_undo 38 = .ok (.imul, 1) := by decide +kernel
theorem dX11_undo_39 : decode cX11_undo 39 = .ok (.aload_n 0, 1) := by decide +kernel
theorem dX11_undo_40 : decode cX11_undo 40 = .ok (.getfield 26, 3) := by decide +kernel
theorem dX11_undo_43 : decode cX11_undo 43 = .ok (.iconst 0, 1) := by decide +kernel
theorem dX11_undo_44 : decode cX11_undo 44 = .ok (.bipush 62, 2) := by decide +kernel
theorem dX11_undo_46 : decode cX11_undo 46 = .ok (.invokestatic 165, 3) := by decide +kernel
theorem dX11_undo_49 : decode cX11_undo 49 = .ok (.iconst 1, 1) := by decide +kernel
theorem dX11_undo_50 : decode cX11_undo 50 = .ok (.ireturn, 1) := by decide +kernel
theorem dX11_image_0 : decode cX11_image 0 = .ok (.aload_n 0, 1) := by decide +kernel
theorem dX11_image_1 : decode cX11_image 1 = .ok (.invokevirtual 156, 3) := by decide +kernel
theorem dX11_image_4 : decode cX11_image 4 = .ok (.aload_n 0, 1) := by decide +kernel
theorem dX11_image_5 : decode cX11_image 5 = .ok (.getfield 169, 3) := by decide +kernel
theorem dX11_image_8 : decode cX11_image 8 = .ok (.ifCond .ne 9, 3) := by decide +kernel
theorem dX11_image_11 : decode cX11_image 11 = .ok (.aload_n 0, 1) := by decide +kernel
theorem dX11_image_12 : decode cX11_image 12 = .ok (.iconst 1, 1) := by decide +kernel
theorem dX11_image_13 : decode cX11_image 13 = .ok (.invokevirtual 159, 3) := by decide +kernel
theorem dX11_image_16 : decode cX11_image 16 = .ok (.ireturn, 1) := by decide +kernel
theorem dX11_image_17 : decode cX11_image 17 = .ok (.aload_n 0, 1) := by decide +kernel
theorem dX11_image_18 : decode cX11_image 18 = .ok (.getfield 175, 3) := by decide +kernel
theorem dX11_image_21 : decode cX11_image 21 = .ok (.iconst 3, 1) := by decide +kernel
theorem dX11_image_22 : decode cX11_image 22 = .ok (.if_icmp .ne 9, 3) := by decide +kernel
theorem dX11_image_25 : decode cX11_image 25 = .ok (.aload_n 0, 1) := by decide +kernel
theorem dX11_image_26 : decode cX11_image 26 = .ok (.iconst 3, 1) := by decide +kernel
theorem dX11_image_27 : decode cX11_image 27 = .ok (.invokevirtual 159, 3) := by decide +kernel
theorem dX11_image_30 : decode cX11_image 30 = .ok (.ireturn, 1) := by decide +kernel
theorem dX11_image_31 : decode cX11_image 31 = .ok (.aload_n 0, 1) := by decide +kernel
theorem dX11_image_32 : decode cX11_image 32 = .ok (.getfield 26, 3) := by decide +kernel
theorem dX11_image_35 : decode cX11_image 35 = .ok (.iconst 0, 1) := by decide +kernel
theorem dX11_image_36 : decode cX11_image 36 = .ok (.aload_n 0, 1) := by decide +kernel
theorem dX11_image_37 : decode cX11_image 37 = .ok (.getfield 35, 3) := by decide +kernel
theorem dX11_image_40 : decode cX11_image 40 = .ok (.bipush 62, 2) := by decide +kernel
theorem dX11_image_42 : decode cX11_image 42 = .ok (.aload_n 0, 1) := by decide +kernel
theorem dX11_image_43 : decode cX11_image 43 = .ok (.getfield 175, 3) := by decide +kernel
theorem dX11_image_46 : decode cX11_image 46 = .ok (.imul, 1) := by decide +kernel
theorem dX11_image_47 : decode cX11_image 47 = .ok (.bipush 62, 2) := by decide +kernel
theorem dX11_image_49 : decode cX11_image 49 = .ok (.invokestatic 165, 3) := by decide +kernel
theorem dX11_image_52 : decode cX11_image 52 = .ok (.aload_n 0, 1) := by decide +kernel
theorem dX11_image_53 : decode cX11_image 53 = .ok (.dup, 1) := by decide +kernel
theorem dX11_image_54 : decode cX11_image 54 = .ok (.getfield 175, 3) := by decide +kernel
theorem dX11_image_57 : decode cX11_image 57 = .ok (.iconst 1, 1) := by decide +kernel
theorem dX11_image_58 : decode cX11_image 58 = .ok (.iadd, 1) := by decide +kernel
theorem dX11_image_59 : decode cX11_image 59 = .ok (.putfield 175, 3) := by decide +kernel
theorem dX11_image_62 : decode cX11_image 62 = .ok (.aload_n 0, 1) := by decide +kernel
theorem dX11_image_63 : decode cX11_image 63 = .ok (.getfield 175, 3) := by decide +kernel
theorem dX11_image_66 : decode cX11_image 66 = .ok (.iconst 1, 1) := by decide +kernel
theorem dX11_image_67 : decode cX11_image 67 = .ok (.isub, 1) := by decide +kernel
theorem dX11_image_68 : decode cX11_image 68 = .ok (.ireturn, 1) := by decide +kernel
theorem dX11_back_0 : decode cX11_back 0 = .ok (.aload_n 0, 1) := by decide +kernel
theorem dX11_back_1 : decode cX11_back 1 = .ok (.invokevirtual 156, 3) := by decide +kernel
theorem dX11_back_4 : decode cX11_back 4 = .ok (.iload_n 1, 1) := by decide +kernel
theorem dX11_back_5 : decode cX11_back 5 = .ok (.iconst 0, 1) := by decide +kernel
theorem dX11_back_6 : decode cX11_back 6 = .ok (.aload_n 0, 1) := by decide +kernel
theorem dX11_back_7 : decode cX11_back 7 = .ok (.getfield 175, 3) := by decide +kernel
theorem dX11_back_10 : decode cX11_back 10 = .ok (.iconst 1, 1) := by decide +kernel
theorem dX11_back_11 : decode cX11_back 11 = .ok (.isub, 1) := by decide +kernel
theorem dX11_back_12 : decode cX11_back 12 = .ok (.invokestatic 140, 3) := by decide +kernel
theorem dX11_back_15 : decode cX11_back 15 = .ok (.ifCond .ne 9, 3) := by decide +kernel
theorem dX11_back_18 : decode cX11_back 18 = .ok (.aload_n 0, 1) := by decide +kernel
theorem dX11_back_19 : decode cX11_back 19 = .ok (.iconst 1, 1) := by decide +kernel
theorem dX11_back_20 : decode cX11_back 20 = .ok (.invokevirtual 381, 3) := by decide +kernel
theorem dX11_back_23 : decode cX11_back 23 = .ok (.ireturn, 1) := by decide +kernel
theorem dX11_back_24 : decode cX11_back 24 = .ok (.aload_n 0, 1) := by decide +kernel
theorem dX11_back_25 : decode cX11_back 25 = .ok (.getfield 35, 3) := by decide +kernel
theorem dX11_back_28 : decode cX11_back 28 = .ok (.bipush 62, 2) := by decide +kernel
theorem dX11_back_30 : decode cX11_back 30 = .ok (.iload_n 1, 1) := by decide +kernel
theorem dX11_back_31 : decode cX11_back 31 = .ok (.imul, 1) := by decide +kernel
theorem dX11_back_32 : decode cX11_back 32 = .ok (.aload_n 0, 1) := by decide +kernel
theorem dX11_back_33 : decode cX11_back 33 = .ok (.getfield 26, 3) := by decide +kernel
theorem dX11_back_36 : decode cX11_back 36 = .ok (.iconst 0, 1) := by decide +kernel
theorem dX11_back_37 : decode cX11_back 37 = .ok (.bipush 62, 2) := by decide +kernel
theorem dX11_back_39 : decode cX11_back 39 = .ok (.invokestatic 165, 3) := by decide +kernel
theorem dX11_back_42 : decode cX11_back 42 = .ok (.aload_n 0, 1) := by decide +kernel
theorem dX11_back_43 : decode cX11_back 43 = .ok (.iconst 0, 1) := by decide +kernel
theorem dX11_back_44 : decode cX11_back 44 = .ok (.putfield 172, 3) := by decide +kernel
theorem dX11_back_47 : decode cX11_back 47 = .ok (.iconst 1, 1) := by decide +kernel
theorem dX11_back_48 : decode cX11_back 48 = .ok (.ireturn, 1) := by decide +kernel
theorem dX11_wish_0 : decode cX11_wish 0 = .ok (.aload_n 0, 1) := by decide +kernel
theorem dX11_wish_1 : decode cX11_wish 1 = .ok (.invokevirtual 156, 3) := by decide +kernel
theorem dX11_wish_4 : decode cX11_wish 4 = .ok (.aload_n 0, 1) := by decide +kernel
theorem dX11_wish_5 : decode cX11_wish 5 = .ok (.iload_n 1, 1) := by decide +kernel
theorem dX11_wish_6 : decode cX11_wish 6 = .ok (.invokevirtual 319, 3) := by decide +kernel
theorem dX11_wish_9 : decode cX11_wish 9 = .ok (.ifCond .eq 12, 3) := by decide +kernel
theorem dX11_wish_12 : decode cX11_wish 12 = .ok (.iload_n 2, 1) := by decide +kernel
theorem dX11_wish_13 : decode cX11_wish 13 = .ok (.iconst 0, 1) := by decide +kernel
theorem dX11_wish_14 : decode cX11_wish 14 = .ok (.iconst 2, 1) := by decide +kernel
theorem dX11_wish_15 : decode cX11_wish 15 = .ok (.invokestatic 140, 3) := by decide +kernel
theorem dX11_wish_18 : decode cX11_wish 18 = .ok (.ifCond .ne 9, 3) := by decide +kernel
theorem dX11_wish_21 : decode cX11_wish 21 = .ok (.aload_n 0, 1) := by decide +kernel
theorem dX11_wish_22 : decode cX11_wish 22 = .ok (.iconst 1, 1) := by decide +kernel
theorem dX11_wish_23 : decode cX11_wish 23 = .ok (.invokevirtual 159, 3) := by decide +kernel
theorem dX11_wish_26 : decode cX11_wish 26 = .ok (.ireturn, 1) := by decide +kernel
theorem dX11_wish_27 : decode cX11_wish 27 = .ok (.iload_n 2, 1) := by decide +kernel
theorem dX11_wish_28 : decode cX11_wish 28 = .ok (.ifCond .ne 15, 3) := by decide +kernel
theorem dX11_wish_31 : decode cX11_wish 31 = .ok (.aload_n 0, 1) := by decide +kernel
theorem dX11_wish_32 : decode cX11_wish 32 = .ok (.getfield 20, 3) := by decide +kernel
theorem dX11_wish_35 : decode cX11_wish 35 = .ok (.bipush 64, 2) := by decide +kernel
theorem dX11_wish_37 : decode cX11_wish 37 = .ok (.iload_n 1, 1) := by decide +kernel
theorem dX11_wish_38 : decode cX11_wish 38 = .ok (.iadd, 1) := by decide +kernel
theorem dX11_wish_39 : decode cX11_wish 39 = .ok (.iaload, 1) := by decide +kernel
theorem dX11_wish_40 : decode cX11_wish 40 = .ok (.goto 29, 3) := by decide +kernel
theorem dX11_wish_43 : decode cX11_wish 43 = .ok (.iload_n 2, 1) := by decide +kernel
theorem dX11_wish_44 : decode cX11_wish 44 = .ok (.iconst 1, 1) := by decide +kernel
theorem dX11_wish_45 : decode cX11_wish 45 = .ok (.if_icmp .ne 15, 3) := by decide +kernel
theorem dX11_wish_48 : decode cX11_wish 48 = .ok (.aload_n 0, 1) := by decide +kernel
theorem dX11_wish_49 : decode cX11_wish 49 = .ok (.getfield 20, 3) := by decide +kernel
theorem dX11_wish_52 : decode cX11_wish 52 = .ok (.bipush 100, 2) := by decide +kernel
theorem dX11_wish_54 : decode cX11_wish 54 = .ok (.iload_n 1, 1) := by decide +kernel
theorem dX11_wish_55 : decode cX11_wish 55 = .ok (.iadd, 1) := by decide +kernel
theorem dX11_wish_56 : decode cX11_wish 56 = .ok (.iaload, 1) := by decide +kernel
theorem dX11_wish_57 : decode cX11_wish 57 = .ok (.goto 12, 3) := by decide +kernel
theorem dX11_wish_60 : decode cX11_wish 60 = .ok (.aload_n 0, 1) := by decide +kernel
theorem dX11_wish_61 : decode cX11_wish 61 = .ok (.getfield 20, 3) := by decide +kernel
theorem dX11_wish_64 : decode cX11_wish 64 = .ok (.bipush 104, 2) := by decide +kernel
theorem dX11_wish_66 : decode cX11_wish 66 = .ok (.iload_n 1, 1) := by decide +kernel
theorem dX11_wish_67 : decode cX11_wish 67 = .ok (.iadd, 1) := by decide +kernel
theorem dX11_wish_68 : decode cX11_wish 68 = .ok (.iaload, 1) := by decide +kernel
theorem dX11_wish_69 : decode cX11_wish 69 = .ok (.ireturn, 1) := by decide +kernel
theorem dX11_led_0 : decode cX11_led 0 = .ok (.iconst 0, 1) := by decide +kernel
theorem dX11_led_1 : decode cX11_led 1 = .ok (.istore_n 2, 1) := by decide +kernel
theorem dX11_led_2 : decode cX11_led 2 = .ok (.iconst 0, 1) := by decide +kernel
theorem dX11_led_3 : decode cX11_led 3 = .ok (.istore_n 3, 1) := by decide +kernel
theorem dX11_led_4 : decode cX11_led 4 = .ok (.aload_n 0, 1) := by decide +kernel
theorem dX11_led_5 : decode cX11_led 5 = .ok (.getfield 169, 3) := by decide +kernel
theorem dX11_led_8 : decode cX11_led 8 = .ok (.ifCond .eq 83, 3) := by decide +kernel
theorem dX11_led_11 : decode cX11_led 11 = .ok (.iload_n 3, 1) := by decide +kernel
theorem dX11_led_12 : decode cX11_led 12 = .ok (.aload_n 0, 1) := by decide +kernel
theorem dX11_led_13 : decode cX11_led 13 = .ok (.getfield 20, 3) := by decide +kernel
theorem dX11_led_16 : decode cX11_led 16 = .ok (.iconst 0, 1) := by decide +kernel
theorem dX11_led_17 : decode cX11_led 17 = .ok (.iaload, 1) := by decide +kernel
theorem dX11_led_18 : decode cX11_led 18 = .ok (.if_icmp .ge 73, 3) := by decide +kernel
theorem dX11_led_21 : decode cX11_led 21 = .ok (.iconst 0, 1) := by decide +kernel
theorem dX11_led_22 : decode cX11_led 22 = .ok (.istore 4, 2) := by decide +kernel
theorem dX11_led_24 : decode cX11_led 24 = .ok (.iload 4, 2) := by decide +kernel
theorem dX11_led_26 : decode cX11_led 26 = .ok (.aload_n 0, 1) := by decide +kernel
theorem dX11_led_27 : decode cX11_led 27 = .ok (.getfield 20, 3) := by decide +kernel
theorem dX11_led_30 : decode cX11_led 30 = .ok (.iconst 1, 1) := by decide +kernel
theorem dX11_led_31 : decode cX11_led 31 = .ok (.iaload, 1) := by decide +kernel
theorem dX11_led_32 : decode cX11_led 32 = .ok (.if_icmp .ge 53, 3) := by decide +kernel
theorem dX11_led_35 : decode cX11_led 35 = .ok (.aload_n 0, 1) := by decide +kernel
theorem dX11_led_36 : decode cX11_led 36 = .ok (.getfield 26, 3) := by decide +kernel
theorem dX11_led_39 : decode cX11_led 39 = .ok (.iconst 3, 1) := by decide +kernel
theorem dX11_led_40 : decode cX11_led 40 = .ok (.iload_n 3, 1) := by decide +kernel
theorem dX11_led_41 : decode cX11_led 41 = .ok (.imul, 1) := by decide +kernel
theorem dX11_led_42 : decode cX11_led 42 = .ok (.iload 4, 2) := by decide +kernel
theorem dX11_led_44 : decode cX11_led 44 = .ok (.iadd, 1) := by decide +kernel
theorem dX11_led_45 : decode cX11_led 45 = .ok (.iaload, 1) := by decide +kernel
theorem dX11_led_46 : decode cX11_led 46 = .ok (.bipush 25, 2) := by decide +kernel
theorem dX11_led_48 : decode cX11_led 48 = .ok (.if_icmp .eq 6, 3) := by decide +kernel
theorem dX11_led_51 : decode cX11_led 51 = .ok (.goto 28, 3) := by decide +kernel
theorem dX11_led_54 : decode cX11_led 54 = .ok (.iload_n 2, 1) := by decide +kernel
theorem dX11_led_55 : decode cX11_led 55 = .ok (.iload_n 1, 1) := by decide +kernel
theorem dX11_led_56 : decode cX11_led 56 = .ok (.if_icmp .ne 20, 3) := by decide +kernel
theorem dX11_led_59 : decode cX11_led 59 = .ok (.aload_n 0, 1) := by decide +kernel
theorem dX11_led_60 : decode cX11_led 60 = .ok (.iconst 0, 1) := by decide +kernel
theorem dX11_led_61 : decode cX11_led 61 = .ok (.putfield 71, 3) := by decide +kernel
theorem dX11_led_64 : decode cX11_led 64 = .ok (.aload_n 0, 1) := by decide +kernel
theorem dX11_led_65 : decode cX11_led 65 = .ok (.getfield 20, 3) := by decide +kernel
theorem dX11_led_68 : decode cX11_led 68 = .ok (.iconst 1, 1) := by decide +kernel
theorem dX11_led_69 : decode cX11_led 69 = .ok (.iaload, 1) := by decide +kernel
theorem dX11_led_70 : decode cX11_led 70 = .ok (.iload_n 3, 1) := by decide +kernel
theorem dX11_led_71 : decode cX11_led 71 = .ok (.imul, 1) := by decide +kernel
theorem dX11_led_72 : decode cX11_led 72 = .ok (.iload 4, 2) := by decide +kernel
theorem dX11_led_74 : decode cX11_led 74 = .ok (.iadd, 1) := by decide +kernel
theorem dX11_led_75 : decode cX11_led 75 = .ok (.ireturn, 1) := by decide +kernel
theorem dX11_led_76 : decode cX11_led 76 = .ok (.iinc 2 1, 3) := by decide +kernel
theorem dX11_led_79 : decode cX11_led 79 = .ok (.iinc 4 1, 3) := by decide +kernel
theorem dX11_led_82 : decode cX11_led 82 = .ok (.goto (-58), 3) := by decide +kernel
theorem dX11_led_85 : decode cX11_led 85 = .ok (.iinc 3 1, 3) := by decide +kernel
theorem dX11_led_88 : decode cX11_led 88 = .ok (.goto (-84), 3) := by decide +kernel
theorem dX11_led_91 : decode cX11_led 91 = .ok (.aload_n 0, 1) := by decide +kernel
theorem dX11_led_92 : decode cX11_led 92 = .ok (.iconst 1, 1) := by decide +kernel
theorem dX11_led_93 : decode cX11_led 93 = .ok (.putfield 71, 3) := by decide +kernel
theorem dX11_led_96 : decode cX11_led 96 = .ok (.iconst 0, 1) := by decide +kernel
theorem dX11_led_97 : decode cX11_led 97 = .ok (.ireturn, 1) := by decide +kernel
theorem dX11_size_0 : decode cX11_size 0 = .ok (.aload_n 0, 1) := by decide +kernel
theorem dX11_size_1 : decode cX11_size 1 = .ok (.iconst 0, 1) := by decide +kernel
theorem dX11_size_2 : decode cX11_size 2 = .ok (.putfield 71, 3) := by decide +kernel
theorem dX11_size_5 : decode cX11_size 5 = .ok (.iload_n 1, 1) := by decide +kernel
theorem dX11_size_6 : decode cX11_size 6 = .ok (.bipush 10, 2) := by decide +kernel
theorem dX11_size_8 : decode cX11_size 8 = .ok (.if_icmp .ne 8, 3) := by decide +kernel
theorem dX11_size_11 : decode cX11_size 11 = .ok (.aload_n 0, 1) := by decide +kernel
theorem dX11_size_12 : decode cX11_size 12 = .ok (.getfield 77, 3) := by decide +kernel
theorem dX11_size_15 : decode cX11_size 15 = .ok (.ireturn, 1) := by decide +kernel
theorem dX11_size_16 : decode cX11_size 16 = .ok (.aload_n 0, 1) := by decide +kernel
theorem dX11_size_17 : decode cX11_size 17 = .ok (.getfield 169, 3) := by decide +kernel
theorem dX11_size_20 : decode cX11_size 20 = .ok (.ifCond .ne 19, 3) := by decide +kernel
theorem dX11_size_23 : decode cX11_size 23 = .ok (.iload_n 1, 1) := by decide +kernel
theorem dX11_size_24 : decode cX11_size 24 = .ok (.iconst 0, 1) := by decide +kernel
theorem dX11_size_25 : decode cX11_size 25 = .ok (.bipush 9, 2) := by decide +kernel
theorem dX11_size_27 : decode cX11_size 27 = .ok (.invokestatic 140, 3) := by decide +kernel
theorem dX11_size_30 : decode cX11_size 30 = .ok (.ifCond .eq 7, 3) := by decide +kernel
theorem dX11_size_33 : decode cX11_size 33 = .ok (.iconst 0, 1) := by decide +kernel
theorem dX11_size_34 : decode cX11_size 34 = .ok (.goto 4, 3) := by decide +kernel
theorem dX11_size_37 : decode cX11_size 37 = .ok (.iconst (-1), 1) := by decide +kernel
theorem dX11_size_38 : decode cX11_size 38 = .ok (.ireturn, 1) := by decide +kernel
theorem dX11_size_39 : decode cX11_size 39 = .ok (.iload_n 1, 1) := by decide +kernel
theorem dX11_size_40 : decode cX11_size 40 = .ok (.tableswitch 126 0 9 #[56, 63, 70, 77, 84, 92, 100, 108, 116, 121], 56) := by decide +kernel
theorem dX11_size_96 : decode cX11_size 96 = .ok (.aload_n 0, 1) := by decide +kernel
theorem dX11_size_97 : decode cX11_size 97 = .ok (.getfield 20, 3) := by decide +kernel
theorem dX11_size_100 : decode cX11_size 100 = .ok (.iconst 0, 1) := by decide +kernel
theorem dX11_size_101 : decode cX11_size 101 = .ok (.iaload, 1) := by decide +kernel
theorem dX11_size_102 : decode cX11_size 102 = .ok (.ireturn, 1) := by decide +kernel
theorem dX11_size_103 : decode cX11_size 103 = .ok (.aload_n 0, 1) := by decide +kernel
theorem dX11_size_104 : decode cX11_size 104 = .ok (.getfield 20, 3) := by decide +kernel
theorem dX11_size_107 : decode cX11_size 107 = .ok (.iconst 1, 1) := by decide +kernel
theorem dX11_size_108 : decode cX11_size 108 = .ok (.iaload, 1) := by decide +kernel
theorem dX11_size_109 : decode cX11_size 109 = .ok (.ireturn, 1) := by decide +kernel
theorem dX11_size_110 : decode cX11_size 110 = .ok (.aload_n 0, 1) := by decide +kernel
theorem dX11_size_111 : decode cX11_size 111 = .ok (.getfield 20, 3) := by decide +kernel
theorem dX11_size_114 : decode cX11_size 114 = .ok (.iconst 3, 1) := by decide +kernel
theorem dX11_size_115 : decode cX11_size 115 = .ok (.iaload, 1) := by decide +kernel
theorem dX11_size_116 : decode cX11_size 116 = .ok (.ireturn, 1) := by decide +kernel
theorem dX11_size_117 : decode cX11_size 117 = .ok (.aload_n 0, 1) := by decide +kernel
theorem dX11_size_118 : decode cX11_size 118 = .ok (.getfield 20, 3) := by decide +kernel
theorem dX11_size_121 : decode cX11_size 121 = .ok (.iconst 5, 1) := by decide +kernel
theorem dX11_size_122 : decode cX11_size 122 = .ok (.iaload, 1) := by decide +kernel
theorem dX11_size_123 : decode cX11_size 123 = .ok (.ireturn, 1) := by decide +kernel
theorem dX11_size_124 : decode cX11_size 124 = .ok (.aload_n 0, 1) := by decide +kernel
theorem dX11_size_125 : decode cX11_size 125 = .ok (.getfield 20, 3) := by decide +kernel
theorem dX11_size_128 : decode cX11_size 128 = .ok (.bipush 6, 2) := by decide +kernel
theorem dX11_size_130 : decode cX11_size 130 = .ok (.iaload, 1) := by decide +kernel
theorem dX11_size_131 : decode cX11_size 131 = .ok (.ireturn, 1) := by decide +kernel
theorem dX11_size_132 : decode cX11_size 132 = .ok (.aload_n 0, 1) := by decide +kernel
theorem dX11_size_133 : decode cX11_size 133 = .ok (.getfield 20, 3) := by decide +kernel
theorem dX11_size_136 : decode cX11_size 136 = .ok (.bipush 7, 2) := by decide +kernel
theorem dX11_size_138 : decode cX11_size 138 = .ok (.iaload, 1) := by decide +kernel
theorem dX11_size_139 : decode cX11_size 139 = .ok (.ireturn, 1) := by decide +kernel
theorem dX11_size_140 : decode cX11_size 140 = .ok (.aload_n 0, 1) := by decide +kernel
theorem dX11_size_141 : decode cX11_size 141 = .ok (.getfield 20, 3) := by decide +kernel
theorem dX11_size_144 : decode cX11_size 144 = .ok (.bipush 8, 2) := by decide +kernel
theorem dX11_size_146 : decode cX11_size 146 = .ok (.iaload, 1) := by decide +kernel
theorem dX11_size_147 : decode cX11_size 147 = .ok (.ireturn, 1) := by decide +kernel
theorem dX11_size_148 : decode cX11_size 148 = .ok (.aload_n 0, 1) := by decide +kernel
theorem dX11_size_149 : decode cX11_size 149 = .ok (.getfield 26, 3) := by decide +kernel
theorem dX11_size_152 : decode cX11_size 152 = .ok (.bipush 61, 2) := by decide +kernel
theorem dX11_size_154 : decode cX11_size 154 = .ok (.iaload, 1) := by decide +kernel
theorem dX11_size_155 : decode cX11_size 155 = .ok (.ireturn, 1) := by decide +kernel
theorem dX11_size_156 : decode cX11_size 156 = .ok (.aload_n 0, 1) := by decide +kernel
theorem dX11_size_157 : decode cX11_size 157 = .ok (.getfield 172, 3) := by decide +kernel
theorem dX11_size_160 : decode cX11_size 160 = .ok (.ireturn, 1) := by decide +kernel
theorem dX11_size_161 : decode cX11_size 161 = .ok (.aload_n 0, 1) := by decide +kernel
theorem dX11_size_162 : decode cX11_size 162 = .ok (.getfield 175, 3) := by decide +kernel
theorem dX11_size_165 : decode cX11_size 165 = .ok (.ireturn, 1) := by decide +kernel
theorem dX11_size_166 : decode cX11_size 166 = .ok (.iconst (-1), 1) := by decide +kernel
theorem dX11_size_167 : decode cX11_size 167 = .ok (.ireturn, 1) := by decide +kernel
theorem dX11_trouble_0 : decode cX11_trouble 0 = .ok (.aload_n 0, 1) := by decide +kernel
theorem dX11_trouble_1 : decode cX11_trouble 1 = .ok (.iconst 0, 1) := by decide +kernel
theorem dX11_trouble_2 : decode cX11_trouble 2 = .ok (.putfield 71, 3) := by decide +kernel
theorem dX11_trouble_5 : decode cX11_trouble 5 = .ok (.aload_n 0, 1) := by decide +kernel
theorem dX11_trouble_6 : decode cX11_trouble 6 = .ok (.getfield 74, 3) := by decide +kernel
theorem dX11_trouble_9 : decode cX11_trouble 9 = .ok (.ireturn, 1) := by decide +kernel

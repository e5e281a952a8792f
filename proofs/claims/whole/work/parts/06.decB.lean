theorem dX10_init_0 : decode cX10_init 0 = .ok (.aload_n 0, 1) := by decide +kernel
theorem dX10_init_1 : decode cX10_init 1 = .ok (.invokespecial 3, 3) := by decide +kernel
theorem dX10_init_4 : decode cX10_init 4 = .ok (.aload_n 0, 1) := by decide +kernel
theorem dX10_init_5 : decode cX10_init 5 = .ok (.new 9, 3) := by decide +kernel
theorem dX10_init_8 : decode cX10_init 8 = .ok (.dup, 1) := by decide +kernel
theorem dX10_init_9 : decode cX10_init 9 = .ok (.invokespecial 11, 3) := by decide +kernel
theorem dX10_init_12 : decode cX10_init 12 = .ok (.putfield 12, 3) := by decide +kernel
theorem dX10_init_15 : decode cX10_init 15 = .ok (.aload_n 0, 1) := by decide +kernel
theorem dX10_init_16 : decode cX10_init 16 = .ok (.aload_n 0, 1) := by decide +kernel
theorem dX10_init_17 : decode cX10_init 17 = .ok (.getfield 12, 3) := by decide +kernel
theorem dX10_init_20 : decode cX10_init 20 = .ok (.getfield 16, 3) := by decide +kernel
theorem dX10_init_23 : decode cX10_init 23 = .ok (.putfield 20, 3) := by decide +kernel
theorem dX10_init_26 : decode cX10_init 26 = .ok (.aload_n 0, 1) := by decide +kernel
theorem dX10_init_27 : decode cX10_init 27 = .ok (.new 23, 3) := by decide +kernel
theorem dX10_init_30 : decode cX10_init 30 = .ok (.dup, 1) := by decide +kernel
theorem dX10_init_31 : decode cX10_init 31 = .ok (.invokespecial 25, 3) := by decide +kernel
theorem dX10_init_34 : decode cX10_init 34 = .ok (.putfield 26, 3) := by decide +kernel
theorem dX10_init_37 : decode cX10_init 37 = .ok (.aload_n 0, 1) := by decide +kernel
theorem dX10_init_38 : decode cX10_init 38 = .ok (.new 30, 3) := by decide +kernel
theorem dX10_init_41 : decode cX10_init 41 = .ok (.dup, 1) := by decide +kernel
theorem dX10_init_42 : decode cX10_init 42 = .ok (.invokespecial 32, 3) := by decide +kernel
theorem dX10_init_45 : decode cX10_init 45 = .ok (.putfield 33, 3) := by decide +kernel
theorem dX10_init_48 : decode cX10_init 48 = .ok (.aload_n 0, 1) := by decide +kernel
theorem dX10_init_49 : decode cX10_init 49 = .ok (.iconst 3, 1) := by decide +kernel
theorem dX10_init_50 : decode cX10_init 50 = .ok (.anewarray 30, 3) := by decide +kernel
theorem dX10_init_53 : decode cX10_init 53 = .ok (.putfield 37, 3) := by decide +kernel
theorem dX10_init_56 : decode cX10_init 56 = .ok (.aload_n 0, 1) := by decide +kernel
theorem dX10_init_57 : decode cX10_init 57 = .ok (.new 41, 3) := by decide +kernel
theorem dX10_init_60 : decode cX10_init 60 = .ok (.dup, 1) := by decide +kernel
theorem dX10_init_61 : decode cX10_init 61 = .ok (.invokespecial 43, 3) := by decide +kernel
theorem dX10_init_64 : decode cX10_init 64 = .ok (.putfield 44, 3) := by decide +kernel
theorem dX10_init_67 : decode cX10_init 67 = .ok (.aload_n 0, 1) := by decide +kernel
theorem dX10_init_68 : decode cX10_init 68 = .ok (.new 48, 3) := by decide +kernel
theorem dX10_init_71 : decode cX10_init 71 = .ok (.dup, 1) := by decide +kernel
theorem dX10_init_72 : decode cX10_init 72 = .ok (.invokespecial 50, 3) := by decide +kernel
theorem dX10_init_75 : decode cX10_init 75 = .ok (.putfield 51, 3) := by decide +kernel
theorem dX10_init_78 : decode cX10_init 78 = .ok (.aload_n 0, 1) := by decide +kernel
theorem dX10_init_79 : decode cX10_init 79 = .ok (.new 48, 3) := by decide +kernel
theorem dX10_init_82 : decode cX10_init 82 = .ok (.dup, 1) := by decide +kernel
theorem dX10_init_83 : decode cX10_init 83 = .ok (.invokespecial 50, 3) := by decide +kernel
theorem dX10_init_86 : decode cX10_init 86 = .ok (.putfield 55, 3) := by decide +kernel
theorem dX10_init_89 : decode cX10_init 89 = .ok (.aload_n 0, 1) := by decide +kernel
theorem dX10_init_90 : decode cX10_init 90 = .ok (.new 58, 3) := by decide +kernel
theorem dX10_init_93 : decode cX10_init 93 = .ok (.dup, 1) := by decide +kernel
theorem dX10_init_94 : decode cX10_init 94 = .ok (.invokespecial 60, 3) := by decide +kernel
theorem dX10_init_97 : decode cX10_init 97 = .ok (.putfield 61, 3) := by decide +kernel
theorem dX10_init_100 : decode cX10_init 100 = .ok (.aload_n 0, 1) := by decide +kernel
theorem dX10_init_101 : decode cX10_init 101 = .ok (.new 65, 3) := by decide +kernel
theorem dX10_init_104 : decode cX10_init 104 = .ok (.dup, 1) := by decide +kernel
theorem dX10_init_105 : decode cX10_init 105 = .ok (.invokespecial 67, 3) := by decide +kernel
theorem dX10_init_108 : decode cX10_init 108 = .ok (.putfield 68, 3) := by decide +kernel
theorem dX10_init_111 : decode cX10_init 111 = .ok (.aload_n 0, 1) := by decide +kernel
theorem dX10_init_112 : decode cX10_init 112 = .ok (.new 72, 3) := by decide +kernel
theorem dX10_init_115 : decode cX10_init 115 = .ok (.dup, 1) := by decide +kernel
theorem dX10_init_116 : decode cX10_init 116 = .ok (.invokespecial 74, 3) := by decide +kernel
theorem dX10_init_119 : decode cX10_init 119 = .ok (.putfield 75, 3) := by decide +kernel
theorem dX10_init_122 : decode cX10_init 122 = .ok (.aload_n 0, 1) := by decide +kernel
theorem dX10_init_123 : decode cX10_init 123 = .ok (.new 79, 3) := by decide +kernel
theorem dX10_init_126 : decode cX10_init 126 = .ok (.dup, 1) := by decide +kernel
theorem dX10_init_127 : decode cX10_init 127 = .ok (.invokespecial 81, 3) := by decide +kernel
theorem dX10_init_130 : decode cX10_init 130 = .ok (.putfield 82, 3) := by decide +kernel
theorem dX10_init_133 : decode cX10_init 133 = .ok (.aload_n 0, 1) := by decide +kernel
theorem dX10_init_134 : decode cX10_init 134 = .ok (.sipush 336, 3) := by decide +kernel
theorem dX10_init_137 : decode cX10_init 137 = .ok (.newarray .int, 2) := by decide +kernel
theorem dX10_init_139 : decode cX10_init 139 = .ok (.putfield 86, 3) := by decide +kernel
theorem dX10_init_142 : decode cX10_init 142 = .ok (.iconst 0, 1) := by decide +kernel
theorem dX10_init_143 : decode cX10_init 143 = .ok (.istore_n 1, 1) := by decide +kernel
theorem dX10_init_144 : decode cX10_init 144 = .ok (.iload_n 1, 1) := by decide +kernel
theorem dX10_init_145 : decode cX10_init 145 = .ok (.aload_n 0, 1) := by decide +kernel
theorem dX10_init_146 : decode cX10_init 146 = .ok (.getfield 37, 3) := by decide +kernel
theorem dX10_init_149 : decode cX10_init 149 = .ok (.arraylength, 1) := by decide +kernel
theorem dX10_init_150 : decode cX10_init 150 = .ok (.if_icmp .ge 22, 3) := by decide +kernel
theorem dX10_init_153 : decode cX10_init 153 = .ok (.aload_n 0, 1) := by decide +kernel
theorem dX10_init_154 : decode cX10_init 154 = .ok (.getfield 37, 3) := by decide +kernel
theorem dX10_init_157 : decode cX10_init 157 = .ok (.iload_n 1, 1) := by decide +kernel
theorem dX10_init_158 : decode cX10_init 158 = .ok (.new 30, 3) := by decide +kernel
theorem dX10_init_161 : decode cX10_init 161 = .ok (.dup, 1) := by decide +kernel
theorem dX10_init_162 : decode cX10_init 162 = .ok (.invokespecial 32, 3) := by decide +kernel
theorem dX10_init_165 : decode cX10_init 165 = .ok (.aastore, 1) := by decide +kernel
theorem dX10_init_166 : decode cX10_init 166 = .ok (.iinc 1 1, 3) := by decide +kernel
theorem dX10_init_169 : decode cX10_init 169 = .ok (.goto (-25), 3) := by decide +kernel
theorem dX10_init_172 : decode cX10_init 172 = .ok (.return_, 1) := by decide +kernel
theorem dX10_feed_0 : decode cX10_feed 0 = .ok (.aload_n 0, 1) := by decide +kernel
theorem dX10_feed_1 : decode cX10_feed 1 = .ok (.getfield 90, 3) := by decide +kernel
theorem dX10_feed_4 : decode cX10_feed 4 = .ok (.bipush 20, 2) := by decide +kernel
theorem dX10_feed_6 : decode cX10_feed 6 = .ok (.iadd, 1) := by decide +kernel
theorem dX10_feed_7 : decode cX10_feed 7 = .ok (.sipush 900, 3) := by decide +kernel
theorem dX10_feed_10 : decode cX10_feed 10 = .ok (.if_icmp .le 5, 3) := by decide +kernel
theorem dX10_feed_13 : decode cX10_feed 13 = .ok (.iconst (-1), 1) := by decide +kernel
theorem dX10_feed_14 : decode cX10_feed 14 = .ok (.ireturn, 1) := by decide +kernel
theorem dX10_feed_15 : decode cX10_feed 15 = .ok (.aload_n 0, 1) := by decide +kernel
theorem dX10_feed_16 : decode cX10_feed 16 = .ok (.iload_n 1, 1) := by decide +kernel
theorem dX10_feed_17 : decode cX10_feed 17 = .ok (.invokevirtual 94, 3) := by decide +kernel
theorem dX10_feed_20 : decode cX10_feed 20 = .ok (.aload_n 0, 1) := by decide +kernel
theorem dX10_feed_21 : decode cX10_feed 21 = .ok (.iload_n 2, 1) := by decide +kernel
theorem dX10_feed_22 : decode cX10_feed 22 = .ok (.invokevirtual 94, 3) := by decide +kernel
theorem dX10_feed_25 : decode cX10_feed 25 = .ok (.aload_n 0, 1) := by decide +kernel
theorem dX10_feed_26 : decode cX10_feed 26 = .ok (.iload_n 3, 1) := by decide +kernel
theorem dX10_feed_27 : decode cX10_feed 27 = .ok (.invokevirtual 94, 3) := by decide +kernel
theorem dX10_feed_30 : decode cX10_feed 30 = .ok (.aload_n 0, 1) := by decide +kernel
theorem dX10_feed_31 : decode cX10_feed 31 = .ok (.iload 4, 2) := by decide +kernel
theorem dX10_feed_33 : decode cX10_feed 33 = .ok (.invokevirtual 94, 3) := by decide +kernel
theorem dX10_feed_36 : decode cX10_feed 36 = .ok (.aload_n 0, 1) := by decide +kernel
theorem dX10_feed_37 : decode cX10_feed 37 = .ok (.iload 5, 2) := by decide +kernel
theorem dX10_feed_39 : decode cX10_feed 39 = .ok (.invokevirtual 94, 3) := by decide +kernel
theorem dX10_feed_42 : decode cX10_feed 42 = .ok (.aload_n 0, 1) := by decide +kernel
theorem dX10_feed_43 : decode cX10_feed 43 = .ok (.getfield 90, 3) := by decide +kernel
theorem dX10_feed_46 : decode cX10_feed 46 = .ok (.ireturn, 1) := by decide +kernel
theorem dX10_append_0 : decode cX10_append 0 = .ok (.bipush 24, 2) := by decide +kernel
theorem dX10_append_2 : decode cX10_append 2 = .ok (.istore_n 2, 1) := by decide +kernel
theorem dX10_append_3 : decode cX10_append 3 = .ok (.iload_n 2, 1) := by decide +kernel
theorem dX10_append_4 : decode cX10_append 4 = .ok (.ifCond .lt 51, 3) := by decide +kernel
theorem dX10_append_7 : decode cX10_append 7 = .ok (.aload_n 0, 1) := by decide +kernel
theorem dX10_append_8 : decode cX10_append 8 = .ok (.getfield 90, 3) := by decide +kernel
theorem dX10_append_11 : decode cX10_append 11 = .ok (.ifCond .lt 38, 3) := by decide +kernel
theorem dX10_append_14 : decode cX10_append 14 = .ok (.aload_n 0, 1) := by decide +kernel
theorem dX10_append_15 : decode cX10_append 15 = .ok (.getfield 90, 3) := by decide +kernel
theorem dX10_append_18 : decode cX10_append 18 = .ok (.aload_n 0, 1) := by decide +kernel
theorem dX10_append_19 : decode cX10_append 19 = .ok (.getfield 20, 3) := by decide +kernel
theorem dX10_append_22 : decode cX10_append 22 = .ok (.arraylength, 1) := by decide +kernel
theorem dX10_append_23 : decode cX10_append 23 = .ok (.if_icmp .ge 26, 3) := by decide +kernel
theorem dX10_append_26 : decode cX10_append 26 = .ok (.aload_n 0, 1) := by decide +kernel
theorem dX10_append_27 : decode cX10_append 27 = .ok (.getfield 20, 3) := by decide +kernel
theorem dX10_append_30 : decode cX10_append 30 = .ok (.aload_n 0, 1) := by decide +kernel
theorem dX10_append_31 : decode cX10_append 31 = .ok (.getfield 90, 3) := by decide +kernel
theorem dX10_append_34 : decode cX10_append 34 = .ok (.iload_n 1, 1) := by decide +kernel
theorem dX10_append_35 : decode cX10_append 35 = .ok (.iload_n 2, 1) := by decide +kernel
theorem dX10_append_36 : decode cX10_append 36 = .ok (.ishr, 1) := by decide +kernel
theorem dX10_append_37 : decode cX10_append 37 = .ok (.i2b, 1) := by decide +kernel
theorem dX10_append_38 : decode cX10_append 38 = .ok (.bastore, 1) := by decide +kernel
theorem dX10_append_39 : decode cX10_append 39 = .ok (.aload_n 0, 1) := by decide +kernel
theorem dX10_append_40 : decode cX10_append 40 = .ok (.dup, 1) := by decide +kernel
theorem dX10_append_41 : decode cX10_append 41 = .ok (.getfield 90, 3) := by decide +kernel
theorem dX10_append_44 : decode cX10_append 44 = .ok (.iconst 1, 1) := by decide +kernel
theorem dX10_append_45 : decode cX10_append 45 = .ok (.iadd, 1) := by decide +kernel
theorem dX10_append_46 : decode cX10_append 46 = .ok (.putfield 90, 3) := by decide +kernel
theorem dX10_append_49 : decode cX10_append 49 = .ok (.iinc 2 (-8), 3) := by decide +kernel
theorem dX10_append_52 : decode cX10_append 52 = .ok (.goto (-49), 3) := by decide +kernel
theorem dX10_append_55 : decode cX10_append 55 = .ok (.return_, 1) := by decide +kernel
theorem dX10_fan_0 : decode cX10_fan 0 = .ok (.iload_n 1, 1) := by decide +kernel
theorem dX10_fan_1 : decode cX10_fan 1 = .ok (.ifCond .lt 11, 3) := by decide +kernel
theorem dX10_fan_4 : decode cX10_fan 4 = .ok (.iload_n 1, 1) := by decide +kernel
theorem dX10_fan_5 : decode cX10_fan 5 = .ok (.aload_n 0, 1) := by decide +kernel
theorem dX10_fan_6 : decode cX10_fan 6 = .ok (.getfield 90, 3) := by decide +kernel
theorem dX10_fan_9 : decode cX10_fan 9 = .ok (.if_icmp .le 9, 3) := by decide +kernel
theorem dX10_fan_12 : decode cX10_fan 12 = .ok (.aload_n 0, 1) := by decide +kernel
theorem dX10_fan_13 : decode cX10_fan 13 = .ok (.iconst 2, 1) := by decide +kernel
theorem dX10_fan_14 : decode cX10_fan 14 = .ok (.invokevirtual 98, 3) := by decide +kernel
theorem dX10_fan_17 : decode cX10_fan 17 = .ok (.ireturn, 1) := by decide +kernel
theorem dX10_fan_18 : decode cX10_fan 18 = .ok (.aload_n 0, 1) := by decide +kernel
theorem dX10_fan_19 : decode cX10_fan 19 = .ok (.iconst 0, 1) := by decide +kernel
theorem dX10_fan_20 : decode cX10_fan 20 = .ok (.putfield 90, 3) := by decide +kernel
theorem dX10_fan_23 : decode cX10_fan 23 = .ok (.aload_n 0, 1) := by decide +kernel
theorem dX10_fan_24 : decode cX10_fan 24 = .ok (.getfield 12, 3) := by decide +kernel
theorem dX10_fan_27 : decode cX10_fan 27 = .ok (.iload_n 1, 1) := by decide +kernel
theorem dX10_fan_28 : decode cX10_fan 28 = .ok (.invokevirtual 102, 3) := by decide +kernel
theorem dX10_fan_31 : decode cX10_fan 31 = .ok (.ifCond .ne 9, 3) := by decide +kernel
theorem dX10_fan_34 : decode cX10_fan 34 = .ok (.aload_n 0, 1) := by decide +kernel
theorem dX10_fan_35 : decode cX10_fan 35 = .ok (.iconst 4, 1) := by decide +kernel
theorem dX10_fan_36 : decode cX10_fan 36 = .ok (.invokevirtual 98, 3) := by decide +kernel
theorem dX10_fan_39 : decode cX10_fan 39 = .ok (.ireturn, 1) := by decide +kernel
theorem dX10_fan_40 : decode cX10_fan 40 = .ok (.aload_n 0, 1) := by decide +kernel
theorem dX10_fan_41 : decode cX10_fan 41 = .ok (.aload_n 0, 1) := by decide +kernel
theorem dX10_fan_42 : decode cX10_fan 42 = .ok (.getfield 12, 3) := by decide +kernel
theorem dX10_fan_45 : decode cX10_fan 45 = .ok (.aload_n 0, 1) := by decide +kernel
theorem dX10_fan_46 : decode cX10_fan 46 = .ok (.getfield 26, 3) := by decide +kernel
theorem dX10_fan_49 : decode cX10_fan 49 = .ok (.invokevirtual 106, 3) := by decide +kernel
theorem dX10_fan_52 : decode cX10_fan 52 = .ok (.putfield 26, 3) := by decide +kernel
theorem dX10_fan_55 : decode cX10_fan 55 = .ok (.aload_n 0, 1) := by decide +kernel
theorem dX10_fan_56 : decode cX10_fan 56 = .ok (.iconst 1, 1) := by decide +kernel
theorem dX10_fan_57 : decode cX10_fan 57 = .ok (.putfield 110, 3) := by decide +kernel
theorem dX10_fan_60 : decode cX10_fan 60 = .ok (.aload_n 0, 1) := by decide +kernel
theorem dX10_fan_61 : decode cX10_fan 61 = .ok (.getfield 33, 3) := by decide +kernel
theorem dX10_fan_64 : decode cX10_fan 64 = .ok (.aload_n 0, 1) := by decide +kernel
theorem dX10_fan_65 : decode cX10_fan 65 = .ok (.getfield 26, 3) := by decide +kernel
theorem dX10_fan_68 : decode cX10_fan 68 = .ok (.getfield 114, 3) := by decide +kernel
theorem dX10_fan_71 : decode cX10_fan 71 = .ok (.invokevirtual 117, 3) := by decide +kernel
theorem dX10_fan_74 : decode cX10_fan 74 = .ok (.aload_n 0, 1) := by decide +kernel
theorem dX10_fan_75 : decode cX10_fan 75 = .ok (.getfield 44, 3) := by decide +kernel
theorem dX10_fan_78 : decode cX10_fan 78 = .ok (.invokevirtual 121, 3) := by decide +kernel
theorem dX10_fan_81 : decode cX10_fan 81 = .ok (.aload_n 0, 1) := by decide +kernel
theorem dX10_fan_82 : decode cX10_fan 82 = .ok (.iconst 0, 1) := by decide +kernel
theorem dX10_fan_83 : decode cX10_fan 83 = .ok (.putfield 124, 3) := by decide +kernel
theorem dX10_fan_86 : decode cX10_fan 86 = .ok (.aload_n 0, 1) := by decide +kernel
theorem dX10_fan_87 : decode cX10_fan 87 = .ok (.getfield 61, 3) := by decide +kernel
theorem dX10_fan_90 : decode cX10_fan 90 = .ok (.aload_n 0, 1) := by decide +kernel
theorem dX10_fan_91 : decode cX10_fan 91 = .ok (.getfield 26, 3) := by decide +kernel
theorem dX10_fan_94 : decode cX10_fan 94 = .ok (.aload_n 0, 1) := by decide +kernel
theorem dX10_fan_95 : decode cX10_fan 95 = .ok (.getfield 51, 3) := by decide +kernel
theorem dX10_fan_98 : decode cX10_fan 98 = .ok (.invokevirtual 127, 3) := by decide +kernel
theorem dX10_fan_101 : decode cX10_fan 101 = .ok (.aload_n 0, 1) := by decide +kernel
theorem dX10_fan_102 : decode cX10_fan 102 = .ok (.aload_n 0, 1) := by decide +kernel
theorem dX10_fan_103 : decode cX10_fan 103 = .ok (.getfield 26, 3) := by decide +kernel
theorem dX10_fan_106 : decode cX10_fan 106 = .ok (.invokevirtual 131, 3) := by decide +kernel
theorem dX10_fan_109 : decode cX10_fan 109 = .ok (.invokevirtual 135, 3) := by decide +kernel
theorem dX10_fan_112 : decode cX10_fan 112 = .ok (.ireturn, 1) := by decide +kernel
theorem dX10_fault_0 : decode cX10_fault 0 = .ok (.aload_n 0, 1) := by decide +kernel
theorem dX10_fault_1 : decode cX10_fault 1 = .ok (.getfield 12, 3) := by decide +kernel
theorem dX10_fault_4 : decode cX10_fault 4 = .ok (.getfield 138, 3) := by decide +kernel
theorem dX10_fault_7 : decode cX10_fault 7 = .ok (.ireturn, 1) := by decide +kernel
theorem dX10_where_0 : decode cX10_where 0 = .ok (.aload_n 0, 1) := by decide +kernel
theorem dX10_where_1 : decode cX10_where 1 = .ok (.getfield 141, 3) := by decide +kernel
theorem dX10_where_4 : decode cX10_where 4 = .ok (.iconst 4, 1) := by decide +kernel
theorem dX10_where_5 : decode cX10_where 5 = .ok (.if_icmp .ne 13, 3) := by decide +kernel
theorem dX10_where_8 : decode cX10_where 8 = .ok (.aload_n 0, 1) := by decide +kernel
theorem dX10_where_9 : decode cX10_where 9 = .ok (.getfield 12, 3) := by decide +kernel
theorem dX10_where_12 : decode cX10_where 12 = .ok (.getfield 144, 3) := by decide +kernel
theorem dX10_where_15 : decode cX10_where 15 = .ok (.goto 4, 3) := by decide +kernel
theorem dX10_where_18 : decode cX10_where 18 = .ok (.iconst (-1), 1) := by decide +kernel
theorem dX10_where_19 : decode cX10_where 19 = .ok (.ireturn, 1) := by decide +kernel
theorem dX10_cell_0 : decode cX10_cell 0 = .ok (.aload_n 0, 1) := by decide +kernel
theorem dX10_cell_1 : decode cX10_cell 1 = .ok (.iload_n 1, 1) := by decide +kernel
theorem dX10_cell_2 : decode cX10_cell 2 = .ok (.iload_n 2, 1) := by decide +kernel
theorem dX10_cell_3 : decode cX10_cell 3 = .ok (.iload_n 3, 1) := by decide +kernel
theorem dX10_cell_4 : decode cX10_cell 4 = .ok (.invokevirtual 147, 3) := by decide +kernel
theorem dX10_cell_7 : decode cX10_cell 7 = .ok (.ifCond .eq 9, 3) := by decide +kernel
theorem dX10_cell_10 : decode cX10_cell 10 = .ok (.aload_n 0, 1) := by decide +kernel
theorem dX10_cell_11 : decode cX10_cell 11 = .ok (.iconst 1, 1) := by decide +kernel
theorem dX10_cell_12 : decode cX10_cell 12 = .ok (.invokevirtual 98, 3) := by decide +kernel
theorem dX10_cell_15 : decode cX10_cell 15 = .ok (.ireturn, 1) := by decide +kernel
theorem dX10_cell_16 : decode cX10_cell 16 = .ok (.aload_n 0, 1) := by decide +kernel
theorem dX10_cell_17 : decode cX10_cell 17 = .ok (.aload_n 0, 1) := by decide +kernel
theorem dX10_cell_18 : decode cX10_cell 18 = .ok (.getfield 33, 3) := by decide +kernel
theorem dX10_cell_21 : decode cX10_cell 21 = .ok (.iload_n 1, 1) := by decide +kernel
theorem dX10_cell_22 : decode cX10_cell 22 = .ok (.aload_n 0, 1) := by decide +kernel
theorem dX10_cell_23 : decode cX10_cell 23 = .ok (.getfield 26, 3) := by decide +kernel
theorem dX10_cell_26 : decode cX10_cell 26 = .ok (.getfield 151, 3) := by decide +kernel
theorem dX10_cell_29 : decode cX10_cell 29 = .ok (.iload_n 2, 1) := by decide +kernel
theorem dX10_cell_30 : decode cX10_cell 30 = .ok (.imul, 1) := by decide +kernel
theorem dX10_cell_31 : decode cX10_cell 31 = .ok (.iload_n 3, 1) := by decide +kernel
theorem dX10_cell_32 : decode cX10_cell 32 = .ok (.iadd, 1) := by decide +kernel
theorem dX10_cell_33 : decode cX10_cell 33 = .ok (.invokevirtual 154, 3) := by decide +kernel
theorem dX10_cell_36 : decode cX10_cell 36 = .ok (.invokestatic 158, 3) := by decide +kernel
theorem dX10_cell_39 : decode cX10_cell 39 = .ok (.invokevirtual 135, 3) := by decide +kernel
theorem dX10_cell_42 : decode cX10_cell 42 = .ok (.ireturn, 1) := by decide +kernel
theorem dX10_broken_0 : decode cX10_broken 0 = .ok (.aload_n 0, 1) := by decide +kernel
theorem dX10_broken_1 : decode cX10_broken 1 = .ok (.iload_n 1, 1) := by decide +kernel
theorem dX10_broken_2 : decode cX10_broken 2 = .ok (.invokevirtual 161, 3) := by decide +kernel
theorem dX10_broken_5 : decode cX10_broken 5 = .ok (.ifCond .eq 9, 3) := by decide +kernel
theorem dX10_broken_8 : decode cX10_broken 8 = .ok (.aload_n 0, 1) := by decide +kernel
theorem dX10_broken_9 : decode cX10_broken 9 = .ok (.iconst 1, 1) := by decide +kernel
theorem dX10_broken_10 : decode cX10_broken 10 = .ok (.invokevirtual 98, 3) := by decide +kernel
theorem dX10_broken_13 : decode cX10_broken 13 = .ok (.ireturn, 1) := by decide +kernel
theorem dX10_broken_14 : decode cX10_broken 14 = .ok (.aload_n 0, 1) := by decide +kernel
theorem dX10_broken_15 : decode cX10_broken 15 = .ok (.aload_n 0, 1) := by decide +kernel
theorem dX10_broken_16 : decode cX10_broken 16 = .ok (.getfield 33, 3) := by decide +kernel
theorem dX10_broken_19 : decode cX10_broken 19 = .ok (.iload_n 1, 1) := by decide +kernel
theorem dX10_broken_20 : decode cX10_broken 20 = .ok (.invokevirtual 164, 3) := by decide +kernel
theorem dX10_broken_23 : decode cX10_broken 23 = .ok (.ifCond .eq 7, 3) := by decide +kernel
theorem dX10_broken_26 : decode cX10_broken 26 = .ok (.iconst 1, 1) := by decide +kernel
theorem dX10_broken_27 : decode cX10_broken 27 = .ok (.goto 4, 3) := by decide +kernel
theorem dX10_broken_30 : decode cX10_broken 30 = .ok (.iconst 0, 1) := by decide +kernel
theorem dX10_broken_31 : decode cX10_broken 31 = .ok (.invokevirtual 135, 3) := by decide +kernel
theorem dX10_broken_34 : decode cX10_broken 34 = .ok (.ireturn, 1) := by decide +kernel
theorem dX10_shows_0 : decode cX10_shows 0 = .ok (.aload_n 0, 1) := by decide +kernel
theorem dX10_shows_1 : decode cX10_shows 1 = .ok (.iload_n 1, 1) := by decide +kernel
theorem dX10_shows_2 : decode cX10_shows 2 = .ok (.iload_n 2, 1) := by decide +kernel
theorem dX10_shows_3 : decode cX10_shows 3 = .ok (.invokevirtual 167, 3) := by decide +kernel
theorem dX10_shows_6 : decode cX10_shows 6 = .ok (.istore_n 3, 1) := by decide +kernel
theorem dX10_shows_7 : decode cX10_shows 7 = .ok (.iload_n 3, 1) := by decide +kernel
theorem dX10_shows_8 : decode cX10_shows 8 = .ok (.ifCond .eq 9, 3) := by decide +kernel
theorem dX10_shows_11 : decode cX10_shows 11 = .ok (.aload_n 0, 1) := by decide +kernel
theorem dX10_shows_12 : decode cX10_shows 12 = .ok (.iload_n 3, 1) := by decide +kernel
theorem dX10_shows_13 : decode cX10_shows 13 = .ok (.invokevirtual 98, 3) := by decide +kernel
theorem dX10_shows_16 : decode cX10_shows 16 = .ok (.ireturn, 1) := by decide +kernel
theorem dX10_shows_17 : decode cX10_shows 17 = .ok (.aload_n 0, 1) := by decide +kernel
theorem dX10_shows_18 : decode cX10_shows 18 = .ok (.iload_n 1, 1) := by decide +kernel
theorem dX10_shows_19 : decode cX10_shows 19 = .ok (.iload_n 2, 1) := by decide +kernel
theorem dX10_shows_20 : decode cX10_shows 20 = .ok (.invokevirtual 170, 3) := by decide +kernel
theorem dX10_shows_23 : decode cX10_shows 23 = .ok (.aload_n 0, 1) := by decide +kernel
theorem dX10_shows_24 : decode cX10_shows 24 = .ok (.aload_n 0, 1) := by decide +kernel
theorem dX10_shows_25 : decode cX10_shows 25 = .ok (.getfield 51, 3) := by decide +kernel
theorem dX10_shows_28 : decode cX10_shows 28 = .ok (.getfield 174, 3) := by decide +kernel
theorem dX10_shows_31 : decode cX10_shows 31 = .ok (.invokevirtual 135, 3) := by decide +kernel
theorem dX10_shows_34 : decode cX10_shows 34 = .ok (.ireturn, 1) := by decide +kernel
theorem dX10_letter_0 : decode cX10_letter 0 = .ok (.aload_n 0, 1) := by decide +kernel
theorem dX10_letter_1 : decode cX10_letter 1 = .ok (.iload_n 1, 1) := by decide +kernel
theorem dX10_letter_2 : decode cX10_letter 2 = .ok (.iload_n 2, 1) := by decide +kernel
theorem dX10_letter_3 : decode cX10_letter 3 = .ok (.iload_n 3, 1) := by decide +kernel
theorem dX10_letter_4 : decode cX10_letter 4 = .ok (.invokevirtual 177, 3) := by decide +kernel
theorem dX10_letter_7 : decode cX10_letter 7 = .ok (.istore 4, 2) := by decide +kernel
theorem dX10_letter_9 : decode cX10_letter 9 = .ok (.iload 4, 2) := by decide +kernel
theorem dX10_letter_11 : decode cX10_letter 11 = .ok (.ifCond .eq 10, 3) := by decide +kernel
theorem dX10_letter_14 : decode cX10_letter 14 = .ok (.aload_n 0, 1) := by decide +kernel
theorem dX10_letter_15 : decode cX10_letter 15 = .ok (.iload 4, 2) := by decide +kernel
theorem dX10_letter_17 : decode cX10_letter 17 = .ok (.invokevirtual 98, 3) := by decide +kernel
theorem dX10_letter_20 : decode cX10_letter 20 = .ok (.ireturn, 1) := by decide +kernel
theorem dX10_letter_21 : decode cX10_letter 21 = .ok (.aload_n 0, 1) := by decide +kernel
theorem dX10_letter_22 : decode cX10_letter 22 = .ok (.aload_n 0, 1) := by decide +kernel
theorem dX10_letter_23 : decode cX10_letter 23 = .ok (.getfield 51, 3) := by decide +kernel
theorem dX10_letter_26 : decode cX10_letter 26 = .ok (.getfield 181, 3) := by decide +kernel
theorem dX10_letter_29 : decode cX10_letter 29 = .ok (.iload_n 3, 1) := by decide +kernel
theorem dX10_letter_30 : decode cX10_letter 30 = .ok (.iaload, 1) := by decide +kernel
theorem dX10_letter_31 : decode cX10_letter 31 = .ok (.invokestatic 158, 3) := by decide +kernel
theorem dX10_letter_34 : decode cX10_letter 34 = .ok (.invokevirtual 135, 3) := by decide +kernel
theorem dX10_letter_37 : decode cX10_letter 37 = .ok (.ireturn, 1) := by decide +kernel
theorem dX10_at_0 : decode cX10_at 0 = .ok (.aload_n 0, 1) := by decide +kernel
theorem dX10_at_1 : decode cX10_at 1 = .ok (.iload_n 1, 1) := by decide +kernel
theorem dX10_at_2 : decode cX10_at 2 = .ok (.iload_n 2, 1) := by decide +kernel
theorem dX10_at_3 : decode cX10_at 3 = .ok (.iload_n 3, 1) := by decide +kernel
theorem dX10_at_4 : decode cX10_at 4 = .ok (.invokevirtual 177, 3) := by decide +kernel
theorem dX10_at_7 : decode cX10_at 7 = .ok (.istore 4, 2) := by decide +kernel
theorem dX10_at_9 : decode cX10_at 9 = .ok (.iload 4, 2) := by decide +kernel
theorem dX10_at_11 : decode cX10_at 11 = .ok (.ifCond .eq 10, 3) := by decide +kernel
theorem dX10_at_14 : decode cX10_at 14 = .ok (.aload_n 0, 1) := by decide +kernel
theorem dX10_at_15 : decode cX10_at 15 = .ok (.iload 4, 2) := by decide +kernel
theorem dX10_at_17 : decode cX10_at 17 = .ok (.invokevirtual 98, 3) := by decide +kernel
theorem dX10_at_20 : decode cX10_at 20 = .ok (.ireturn, 1) := by decide +kernel
theorem dX10_at_21 : decode cX10_at 21 = .ok (.aload_n 0, 1) := by decide +kernel
theorem dX10_at_22 : decode cX10_at 22 = .ok (.aload_n 0, 1) := by decide +kernel
theorem dX10_at_23 : decode cX10_at 23 = .ok (.getfield 51, 3) := by decide +kernel
theorem dX10_at_26 : decode cX10_at 26 = .ok (.getfield 184, 3) := by decide +kernel
theorem dX10_at_29 : decode cX10_at 29 = .ok (.iload_n 3, 1) := by decide +kernel
theorem dX10_at_30 : decode cX10_at 30 = .ok (.iaload, 1) := by decide +kernel
theorem dX10_at_31 : decode cX10_at 31 = .ok (.invokevirtual 135, 3) := by decide +kernel
theorem dX10_at_34 : decode cX10_at 34 = .ok (.ireturn, 1) := by decide +kernel
theorem dX10_shown_0 : decode cX10_shown 0 = .ok (.aload_n 0, 1) := by decide +kernel
theorem dX10_shown_1 : decode cX10_shown 1 = .ok (.iload_n 1, 1) := by decide +kernel
theorem dX10_shown_2 : decode cX10_shown 2 = .ok (.iload_n 2, 1) := by decide +kernel
theorem dX10_shown_3 : decode cX10_shown 3 = .ok (.iload_n 3, 1) := by decide +kernel
theorem dX10_shown_4 : decode cX10_shown 4 = .ok (.invokevirtual 147, 3) := by decide +kernel
theorem dX10_shown_7 : decode cX10_shown 7 = .ok (.ifCond .eq 9, 3) := by decide +kernel
theorem dX10_shown_10 : decode cX10_shown 10 = .ok (.aload_n 0, 1) := by decide +kernel
theorem dX10_shown_11 : decode cX10_shown 11 = .ok (.iconst 1, 1) := by decide +kernel
theorem dX10_shown_12 : decode cX10_shown 12 = .ok (.invokevirtual 98, 3) := by decide +kernel
theorem dX10_shown_15 : decode cX10_shown 15 = .ok (.ireturn, 1) := by decide +kernel
theorem dX10_shown_16 : decode cX10_shown 16 = .ok (.aload_n 0, 1) := by decide +kernel
theorem dX10_shown_17 : decode cX10_shown 17 = .ok (.getfield 33, 3) := by decide +kernel
theorem dX10_shown_20 : decode cX10_shown 20 = .ok (.iload_n 2, 1) := by decide +kernel
theorem dX10_shown_21 : decode cX10_shown 21 = .ok (.invokevirtual 164, 3) := by decide +kernel
theorem dX10_shown_24 : decode cX10_shown 24 = .ok (.ifCond .eq 10, 3) := by decide +kernel
theorem dX10_shown_27 : decode cX10_shown 27 = .ok (.aload_n 0, 1) := by decide +kernel
theorem dX10_shown_28 : decode cX10_shown 28 = .ok (.bipush (-2), 2) := by decide +kernel
theorem dX10_shown_30 : decode cX10_shown 30 = .ok (.invokevirtual 135, 3) := by decide +kernel
theorem dX10_shown_33 : decode cX10_shown 33 = .ok (.ireturn, 1) := by decide +kernel
theorem dX10_shown_34 : decode cX10_shown 34 = .ok (.iconst 0, 1) := by decide +kernel
theorem dX10_shown_35 : decode cX10_shown 35 = .ok (.istore 4, 2) := by decide +kernel
theorem dX10_shown_37 : decode cX10_shown 37 = .ok (.iload 4, 2) := by decide +kernel
theorem dX10_shown_39 : decode cX10_shown 39 = .ok (.aload_n 0, 1) := by decide +kernel
theorem dX10_shown_40 : decode cX10_shown 40 = .ok (.getfield 26, 3) := by decide +kernel
theorem dX10_shown_43 : decode cX10_shown 43 = .ok (.invokevirtual 131, 3) := by decide +kernel
theorem dX10_shown_46 : decode cX10_shown 46 = .ok (.if_icmp .ge 31, 3) := by decide +kernel
theorem dX10_shown_49 : decode cX10_shown 49 = .ok (.aload_n 0, 1) := by decide +kernel
theorem dX10_shown_50 : decode cX10_shown 50 = .ok (.getfield 26, 3) := by decide +kernel
theorem dX10_shown_53 : decode cX10_shown 53 = .ok (.iload_n 1, 1) := by decide +kernel
theorem dX10_shown_54 : decode cX10_shown 54 = .ok (.iload_n 2, 1) := by decide +kernel
theorem dX10_shown_55 : decode cX10_shown 55 = .ok (.iload 4, 2) := by decide +kernel
theorem dX10_shown_57 : decode cX10_shown 57 = .ok (.invokevirtual 187, 3) := by decide +kernel
theorem dX10_shown_60 : decode cX10_shown 60 = .ok (.iload_n 3, 1) := by decide +kernel
theorem dX10_shown_61 : decode cX10_shown 61 = .ok (.if_icmp .le 10, 3) := by decide +kernel
theorem dX10_shown_64 : decode cX10_shown 64 = .ok (.aload_n 0, 1) := by decide +kernel
theorem dX10_shown_65 : decode cX10_shown 65 = .ok (.iload 4, 2) := by decide +kernel
theorem dX10_shown_67 : decode cX10_shown 67 = .ok (.invokevirtual 135, 3) := by decide +kernel
theorem dX10_shown_70 : decode cX10_shown 70 = .ok (.ireturn, 1) := by decide +kernel
theorem dX10_shown_71 : decode cX10_shown 71 = .ok (.iinc 4 1, 3) := by decide +kernel
theorem dX10_shown_74 : decode cX10_shown 74 = .ok (.goto (-37), 3) := by decide +kernel
theorem dX10_shown_77 : decode cX10_shown 77 = .ok (.aload_n 0, 1) := by decide +kernel
theorem dX10_shown_78 : decode cX10_shown 78 = .ok (.bipush (-2), 2) := by decide +kernel
theorem dX10_shown_80 : decode cX10_shown 80 = .ok (.invokevirtual 135, 3) := by decide +kernel
theorem dX10_shown_83 : decode cX10_shown 83 = .ok (.ireturn, 1) := by decide +kernel
theorem dX10_ribs_0 : decode cX10_ribs 0 = .ok (.aload_n 0, 1) := by decide +kernel
theorem dX10_ribs_1 : decode cX10_ribs 1 = .ok (.iload_n 1, 1) := by decide +kernel
theorem dX10_ribs_2 : decode cX10_ribs 2 = .ok (.iload_n 2, 1) := by decide +kernel
theorem dX10_ribs_3 : decode cX10_ribs 3 = .ok (.invokevirtual 167, 3) := by decide +kernel
theorem dX10_ribs_6 : decode cX10_ribs 6 = .ok (.istore_n 3, 1) := by decide +kernel
theorem dX10_ribs_7 : decode cX10_ribs 7 = .ok (.iload_n 3, 1) := by decide +kernel
theorem dX10_ribs_8 : decode cX10_ribs 8 = .ok (.ifCond .eq 9, 3) := by decide +kernel
theorem dX10_ribs_11 : decode cX10_ribs 11 = .ok (.aload_n 0, 1) := by decide +kernel
theorem dX10_ribs_12 : decode cX10_ribs 12 = .ok (.iload_n 3, 1) := by decide +kernel
theorem dX10_ribs_13 : decode cX10_ribs 13 = .ok (.invokevirtual 98, 3) := by decide +kernel
theorem dX10_ribs_16 : decode cX10_ribs 16 = .ok (.ireturn, 1) := by decide +kernel
theorem dX10_ribs_17 : decode cX10_ribs 17 = .ok (.iconst 0, 1) := by decide +kernel
theorem dX10_ribs_18 : decode cX10_ribs 18 = .ok (.istore 4, 2) := by decide +kernel
theorem dX10_ribs_20 : decode cX10_ribs 20 = .ok (.iconst 0, 1) := by decide +kernel
theorem dX10_ribs_21 : decode cX10_ribs 21 = .ok (.istore 5, 2) := by decide +kernel
theorem dX10_ribs_23 : decode cX10_ribs 23 = .ok (.iload 5, 2) := by decide +kernel
theorem dX10_ribs_25 : decode cX10_ribs 25 = .ok (.aload_n 0, 1) := by decide +kernel
theorem dX10_ribs_26 : decode cX10_ribs 26 = .ok (.getfield 26, 3) := by decide +kernel
theorem dX10_ribs_29 : decode cX10_ribs 29 = .ok (.getfield 190, 3) := by decide +kernel
theorem dX10_ribs_32 : decode cX10_ribs 32 = .ok (.if_icmp .ge 45, 3) := by decide +kernel
theorem dX10_ribs_35 : decode cX10_ribs 35 = .ok (.aload_n 0, 1) := by decide +kernel
theorem dX10_ribs_36 : decode cX10_ribs 36 = .ok (.getfield 33, 3) := by decide +kernel
theorem dX10_ribs_39 : decode cX10_ribs 39 = .ok (.iload 5, 2) := by decide +kernel
theorem dX10_ribs_41 : decode cX10_ribs 41 = .ok (.invokevirtual 164, 3) := by decide +kernel
theorem dX10_ribs_44 : decode cX10_ribs 44 = .ok (.ifCond .ne 27, 3) := by decide +kernel
theorem dX10_ribs_47 : decode cX10_ribs 47 = .ok (.aload_n 0, 1) := by decide +kernel
theorem dX10_ribs_48 : decode cX10_ribs 48 = .ok (.getfield 26, 3) := by decide +kernel
theorem dX10_ribs_51 : decode cX10_ribs 51 = .ok (.iload_n 1, 1) := by decide +kernel
theorem dX10_ribs_52 : decode cX10_ribs 52 = .ok (.iload 5, 2) := by decide +kernel
theorem dX10_ribs_54 : decode cX10_ribs 54 = .ok (.iload_n 2, 1) := by decide +kernel
theorem dX10_ribs_55 : decode cX10_ribs 55 = .ok (.invokevirtual 187, 3) := by decide +kernel
theorem dX10_ribs_58 : decode cX10_ribs 58 = .ok (.aload_n 0, 1) := by decide +kernel
theorem dX10_ribs_59 : decode cX10_ribs 59 = .ok (.getfield 26, 3) := by decide +kernel
theorem dX10_ribs_62 : decode cX10_ribs 62 = .ok (.getfield 151, 3) := by decide +kernel
theorem dX10_ribs_65 : decode cX10_ribs 65 = .ok (.if_icmp .ne 6, 3) := by decide +kernel
theorem dX10_ribs_68 : decode cX10_ribs 68 = .ok (.iinc 4 1, 3) := by decide +kernel
theorem dX10_ribs_71 : decode cX10_ribs 71 = .ok (.iinc 5 1, 3) := by decide +kernel
theorem dX10_ribs_74 : decode cX10_ribs 74 = .ok (.goto (-51), 3) := by decide +kernel
theorem dX10_ribs_77 : decode cX10_ribs 77 = .ok (.aload_n 0, 1) := by decide +kernel
theorem dX10_ribs_78 : decode cX10_ribs 78 = .ok (.iload 4, 2) := by decide +kernel
theorem dX10_ribs_80 : decode cX10_ribs 80 = .ok (.invokevirtual 135, 3) := by decide +kernel
theorem dX10_ribs_83 : decode cX10_ribs 83 = .ok (.ireturn, 1) := by decide +kernel
theorem dX10_painted_0 : decode cX10_painted 0 = .ok (.aload_n 0, 1) := by decide +kernel
theorem dX10_painted_1 : decode cX10_painted 1 = .ok (.getfield 110, 3) := by decide +kernel
theorem dX10_painted_4 : decode cX10_painted 4 = .ok (.ifCond .eq 17, 3) := by decide +kernel
theorem dX10_painted_7 : decode cX10_painted 7 = .ok (.aload_n 0, 1) := by decide +kernel
theorem dX10_painted_8 : decode cX10_painted 8 = .ok (.aload_n 0, 1) := by decide +kernel
theorem dX10_painted_9 : decode cX10_painted 9 = .ok (.getfield 33, 3) := by decide +kernel
theorem dX10_painted_12 : decode cX10_painted 12 = .ok (.invokevirtual 193, 3) := by decide +kernel
theorem dX10_painted_15 : decode cX10_painted 15 = .ok (.invokevirtual 135, 3) := by decide +kernel
theorem dX10_painted_18 : decode cX10_painted 18 = .ok (.goto 8, 3) := by decide +kernel
theorem dX10_painted_21 : decode cX10_painted 21 = .ok (.aload_n 0, 1) := by decide +kernel
theorem dX10_painted_22 : decode cX10_painted 22 = .ok (.iconst 1, 1) := by decide +kernel
theorem dX10_painted_23 : decode cX10_painted 23 = .ok (.invokevirtual 98, 3) := by decide +kernel
theorem dX10_painted_26 : decode cX10_painted 26 = .ok (.ireturn, 1) := by decide +kernel
theorem dX10_cost_0 : decode cX10_cost 0 = .ok (.aload_n 0, 1) := by decide +kernel
theorem dX10_cost_1 : decode cX10_cost 1 = .ok (.getfield 110, 3) := by decide +kernel
theorem dX10_cost_4 : decode cX10_cost 4 = .ok (.ifCond .eq 25, 3) := by decide +kernel
theorem dX10_cost_7 : decode cX10_cost 7 = .ok (.aload_n 0, 1) := by decide +kernel
theorem dX10_cost_8 : decode cX10_cost 8 = .ok (.aload_n 0, 1) := by decide +kernel
theorem dX10_cost_9 : decode cX10_cost 9 = .ok (.getfield 26, 3) := by decide +kernel
theorem dX10_cost_12 : decode cX10_cost 12 = .ok (.getfield 196, 3) := by decide +kernel
theorem dX10_cost_15 : decode cX10_cost 15 = .ok (.aload_n 0, 1) := by decide +kernel
theorem dX10_cost_16 : decode cX10_cost 16 = .ok (.getfield 33, 3) := by decide +kernel
theorem dX10_cost_19 : decode cX10_cost 19 = .ok (.invokevirtual 193, 3) := by decide +kernel
theorem dX10_cost_22 : decode cX10_cost 22 = .ok (.imul, 1) := by decide +kernel
theorem dX10_cost_23 : decode cX10_cost 23 = .ok (.invokevirtual 135, 3) := by decide +kernel
theorem dX10_cost_26 : decode cX10_cost 26 = .ok (.goto 8, 3) := by decide +kernel
theorem dX10_cost_29 : decode cX10_cost 29 = .ok (.aload_n 0, 1) := by decide +kernel
theorem dX10_cost_30 : decode cX10_cost 30 = .ok (.iconst 1, 1) := by decide +kernel
theorem dX10_cost_31 : decode cX10_cost 31 = .ok (.invokevirtual 98, 3) := by decide +kernel
theorem dX10_cost_34 : decode cX10_cost 34 = .ok (.ireturn, 1) := by decide +kernel
theorem dX10_reads_0 : decode cX10_reads 0 = .ok (.aload_n 0, 1) := by decide +kernel
theorem dX10_reads_1 : decode cX10_reads 1 = .ok (.iload_n 1, 1) := by decide +kernel
theorem dX10_reads_2 : decode cX10_reads 2 = .ok (.iload_n 2, 1) := by decide +kernel
theorem dX10_reads_3 : decode cX10_reads 3 = .ok (.iload_n 3, 1) := by decide +kernel
theorem dX10_reads_4 : decode cX10_reads 4 = .ok (.invokevirtual 199, 3) := by decide +kernel
theorem dX10_reads_7 : decode cX10_reads 7 = .ok (.istore 4, 2) := by decide +kernel
theorem dX10_reads_9 : decode cX10_reads 9 = .ok (.iload 4, 2) := by decide +kernel
theorem dX10_reads_11 : decode cX10_reads 11 = .ok (.ifCond .eq 10, 3) := by decide +kernel
theorem dX10_reads_14 : decode cX10_reads 14 = .ok (.aload_n 0, 1) := by decide +kernel
theorem dX10_reads_15 : decode cX10_reads 15 = .ok (.iload 4, 2) := by decide +kernel
theorem dX10_reads_17 : decode cX10_reads 17 = .ok (.invokevirtual 98, 3) := by decide +kernel
theorem dX10_reads_20 : decode cX10_reads 20 = .ok (.ireturn, 1) := by decide +kernel
theorem dX10_reads_21 : decode cX10_reads 21 = .ok (.aload_n 0, 1) := by decide +kernel
theorem dX10_reads_22 : decode cX10_reads 22 = .ok (.iload_n 2, 1) := by decide +kernel
theorem dX10_reads_23 : decode cX10_reads 23 = .ok (.iload_n 3, 1) := by decide +kernel
theorem dX10_reads_24 : decode cX10_reads 24 = .ok (.invokevirtual 170, 3) := by decide +kernel
theorem dX10_reads_27 : decode cX10_reads 27 = .ok (.aload_n 0, 1) := by decide +kernel
theorem dX10_reads_28 : decode cX10_reads 28 = .ok (.aload_n 0, 1) := by decide +kernel
theorem dX10_reads_29 : decode cX10_reads 29 = .ok (.getfield 51, 3) := by decide +kernel
theorem dX10_reads_32 : decode cX10_reads 32 = .ok (.aload_n 0, 1) := by decide +kernel
theorem dX10_reads_33 : decode cX10_reads 33 = .ok (.getfield 26, 3) := by decide +kernel
theorem dX10_reads_36 : decode cX10_reads 36 = .ok (.getfield 202, 3) := by decide +kernel
theorem dX10_reads_39 : decode cX10_reads 39 = .ok (.iload_n 1, 1) := by decide +kernel
theorem dX10_reads_40 : decode cX10_reads 40 = .ok (.aaload, 1) := by decide +kernel
theorem dX10_reads_41 : decode cX10_reads 41 = .ok (.invokevirtual 206, 3) := by decide +kernel
theorem dX10_reads_44 : decode cX10_reads 44 = .ok (.invokevirtual 135, 3) := by decide +kernel
theorem dX10_reads_47 : decode cX10_reads 47 = .ok (.ireturn, 1) := by decide +kernel
theorem dX10_readAt_0 : decode cX10_readAt 0 = .ok (.aload_n 0, 1) := by decide +kernel
theorem dX10_readAt_1 : decode cX10_readAt 1 = .ok (.iload_n 1, 1) := by decide +kernel
theorem dX10_readAt_2 : decode cX10_readAt 2 = .ok (.iload_n 2, 1) := by decide +kernel
theorem dX10_readAt_3 : decode cX10_readAt 3 = .ok (.iload_n 3, 1) := by decide +kernel
theorem dX10_readAt_4 : decode cX10_readAt 4 = .ok (.invokevirtual 199, 3) := by decide +kernel
theorem dX10_readAt_7 : decode cX10_readAt 7 = .ok (.istore 4, 2) := by decide +kernel
theorem dX10_readAt_9 : decode cX10_readAt 9 = .ok (.iload 4, 2) := by decide +kernel
theorem dX10_readAt_11 : decode cX10_readAt 11 = .ok (.ifCond .eq 10, 3) := by decide +kernel
theorem dX10_readAt_14 : decode cX10_readAt 14 = .ok (.aload_n 0, 1) := by decide +kernel
theorem dX10_readAt_15 : decode cX10_readAt 15 = .ok (.iload 4, 2) := by decide +kernel
theorem dX10_readAt_17 : decode cX10_readAt 17 = .ok (.invokevirtual 98, 3) := by decide +kernel
theorem dX10_readAt_20 : decode cX10_readAt 20 = .ok (.ireturn, 1) := by decide +kernel
theorem dX10_readAt_21 : decode cX10_readAt 21 = .ok (.aload_n 0, 1) := by decide +kernel
theorem dX10_readAt_22 : decode cX10_readAt 22 = .ok (.iload_n 2, 1) := by decide +kernel
theorem dX10_readAt_23 : decode cX10_readAt 23 = .ok (.iload_n 3, 1) := by decide +kernel
theorem dX10_readAt_24 : decode cX10_readAt 24 = .ok (.invokevirtual 170, 3) := by decide +kernel
theorem dX10_readAt_27 : decode cX10_readAt 27 = .ok (.aload_n 0, 1) := by decide +kernel
theorem dX10_readAt_28 : decode cX10_readAt 28 = .ok (.aload_n 0, 1) := by decide +kernel
theorem dX10_readAt_29 : decode cX10_readAt 29 = .ok (.getfield 51, 3) := by decide +kernel
theorem dX10_readAt_32 : decode cX10_readAt 32 = .ok (.aload_n 0, 1) := by decide +kernel
theorem dX10_readAt_33 : decode cX10_readAt 33 = .ok (.getfield 26, 3) := by decide +kernel
theorem dX10_readAt_36 : decode cX10_readAt 36 = .ok (.getfield 202, 3) := by decide +kernel
theorem dX10_readAt_39 : decode cX10_readAt 39 = .ok (.iload_n 1, 1) := by decide +kernel
theorem dX10_readAt_40 : decode cX10_readAt 40 = .ok (.aaload, 1) := by decide +kernel
theorem dX10_readAt_41 : decode cX10_readAt 41 = .ok (.invokevirtual 210, 3) := by decide +kernel
theorem dX10_readAt_44 : decode cX10_readAt 44 = .ok (.invokevirtual 135, 3) := by decide +kernel
theorem dX10_readAt_47 : decode cX10_readAt 47 = .ok (.ireturn, 1) := by decide +kernel
theorem dX10_spans_0 : decode cX10_spans 0 = .ok (.aload_n 0, 1) := by decide +kernel
theorem dX10_spans_1 : decode cX10_spans 1 = .ok (.iload_n 1, 1) := by decide +kernel
theorem dX10_spans_2 : decode cX10_spans 2 = .ok (.invokevirtual 213, 3) := by decide +kernel
theorem dX10_spans_5 : decode cX10_spans 5 = .ok (.ifCond .ne 11, 3) := by decide +kernel
theorem dX10_spans_8 : decode cX10_spans 8 = .ok (.aload_n 0, 1) := by decide +kernel
theorem dX10_spans_9 : decode cX10_spans 9 = .ok (.iload_n 2, 1) := by decide +kernel
theorem dX10_spans_10 : decode cX10_spans 10 = .ok (.invokevirtual 216, 3) := by decide +kernel
theorem dX10_spans_13 : decode cX10_spans 13 = .ok (.ifCond .eq 9, 3) := by decide +kernel
theorem dX10_spans_16 : decode cX10_spans 16 = .ok (.aload_n 0, 1) := by decide +kernel
theorem dX10_spans_17 : decode cX10_spans 17 = .ok (.iconst 1, 1) := by decide +kernel
theorem dX10_spans_18 : decode cX10_spans 18 = .ok (.invokevirtual 98, 3) := by decide +kernel
theorem dX10_spans_21 : decode cX10_spans 21 = .ok (.ireturn, 1) := by decide +kernel
theorem dX10_spans_22 : decode cX10_spans 22 = .ok (.aload_n 0, 1) := by decide +kernel
theorem dX10_spans_23 : decode cX10_spans 23 = .ok (.aload_n 0, 1) := by decide +kernel
theorem dX10_spans_24 : decode cX10_spans 24 = .ok (.aload_n 0, 1) := by decide +kernel
theorem dX10_spans_25 : decode cX10_spans 25 = .ok (.getfield 26, 3) := by decide +kernel
theorem dX10_spans_28 : decode cX10_spans 28 = .ok (.getfield 202, 3) := by decide +kernel
theorem dX10_spans_31 : decode cX10_spans 31 = .ok (.iload_n 1, 1) := by decide +kernel
theorem dX10_spans_32 : decode cX10_spans 32 = .ok (.aaload, 1) := by decide +kernel
theorem dX10_spans_33 : decode cX10_spans 33 = .ok (.iload_n 2, 1) := by decide +kernel
theorem dX10_spans_34 : decode cX10_spans 34 = .ok (.invokevirtual 219, 3) := by decide +kernel
theorem dX10_spans_37 : decode cX10_spans 37 = .ok (.invokevirtual 135, 3) := by decide +kernel
theorem dX10_spans_40 : decode cX10_spans 40 = .ok (.ireturn, 1) := by decide +kernel
theorem dX10_span_0 : decode cX10_span 0 = .ok (.aload_n 0, 1) := by decide +kernel
theorem dX10_span_1 : decode cX10_span 1 = .ok (.iload_n 1, 1) := by decide +kernel
theorem dX10_span_2 : decode cX10_span 2 = .ok (.invokevirtual 213, 3) := by decide +kernel
theorem dX10_span_5 : decode cX10_span 5 = .ok (.ifCond .ne 11, 3) := by decide +kernel
theorem dX10_span_8 : decode cX10_span 8 = .ok (.aload_n 0, 1) := by decide +kernel
theorem dX10_span_9 : decode cX10_span 9 = .ok (.iload_n 2, 1) := by decide +kernel
theorem dX10_span_10 : decode cX10_span 10 = .ok (.invokevirtual 216, 3) := by decide +kernel
theorem dX10_span_13 : decode cX10_span 13 = .ok (.ifCond .eq 9, 3) := by decide +kernel
theorem dX10_span_16 : decode cX10_span 16 = .ok (.aload_n 0, 1) := by decide +kernel
theorem dX10_span_17 : decode cX10_span 17 = .ok (.iconst 1, 1) := by decide +kernel
theorem dX10_span_18 : decode cX10_span 18 = .ok (.invokevirtual 98, 3) := by decide +kernel
theorem dX10_span_21 : decode cX10_span 21 = .ok (.ireturn, 1) := by decide +kernel
theorem dX10_span_22 : decode cX10_span 22 = .ok (.aload_n 0, 1) := by decide +kernel
theorem dX10_span_23 : decode cX10_span 23 = .ok (.aload_n 0, 1) := by decide +kernel
theorem dX10_span_24 : decode cX10_span 24 = .ok (.getfield 26, 3) := by decide +kernel
theorem dX10_span_27 : decode cX10_span 27 = .ok (.getfield 202, 3) := by decide +kernel
theorem dX10_span_30 : decode cX10_span 30 = .ok (.iload_n 1, 1) := by decide +kernel
theorem dX10_span_31 : decode cX10_span 31 = .ok (.aaload, 1) := by decide +kernel
theorem dX10_span_32 : decode cX10_span 32 = .ok (.iload_n 2, 1) := by decide +kernel
theorem dX10_span_33 : decode cX10_span 33 = .ok (.invokevirtual 219, 3) := by decide +kernel
theorem dX10_span_36 : decode cX10_span 36 = .ok (.istore 5, 2) := by decide +kernel
theorem dX10_span_38 : decode cX10_span 38 = .ok (.iload_n 3, 1) := by decide +kernel
theorem dX10_span_39 : decode cX10_span 39 = .ok (.ifCond .lt 9, 3) := by decide +kernel
theorem dX10_span_42 : decode cX10_span 42 = .ok (.iload_n 3, 1) := by decide +kernel
theorem dX10_span_43 : decode cX10_span 43 = .ok (.iload 5, 2) := by decide +kernel
theorem dX10_span_45 : decode cX10_span 45 = .ok (.if_icmp .lt 9, 3) := by decide +kernel
theorem dX10_span_48 : decode cX10_span 48 = .ok (.aload_n 0, 1) := by decide +kernel
theorem dX10_span_49 : decode cX10_span 49 = .ok (.iconst 1, 1) := by decide +kernel
theorem dX10_span_50 : decode cX10_span 50 = .ok (.invokevirtual 98, 3) := by decide +kernel
theorem dX10_span_53 : decode cX10_span 53 = .ok (.ireturn, 1) := by decide +kernel
theorem dX10_span_54 : decode cX10_span 54 = .ok (.aload_n 0, 1) := by decide +kernel
theorem dX10_span_55 : decode cX10_span 55 = .ok (.aload_n 0, 1) := by decide +kernel
theorem dX10_span_56 : decode cX10_span 56 = .ok (.getfield 86, 3) := by decide +kernel
theorem dX10_span_59 : decode cX10_span 59 = .ok (.iconst 2, 1) := by decide +kernel
theorem dX10_span_60 : decode cX10_span 60 = .ok (.iload_n 3, 1) := by decide +kernel
theorem dX10_span_61 : decode cX10_span 61 = .ok (.imul, 1) := by decide +kernel
theorem dX10_span_62 : decode cX10_span 62 = .ok (.iload 4, 2) := by decide +kernel
theorem dX10_span_64 : decode cX10_span 64 = .ok (.ifCond .eq 7, 3) := by decide +kernel
theorem dX10_span_67 : decode cX10_span 67 = .ok (.iconst 1, 1) := by decide +kernel
theorem dX10_span_68 : decode cX10_span 68 = .ok (.goto 4, 3) := by decide +kernel
theorem dX10_span_71 : decode cX10_span 71 = .ok (.iconst 0, 1) := by decide +kernel
theorem dX10_span_72 : decode cX10_span 72 = .ok (.iadd, 1) := by decide +kernel
theorem dX10_span_73 : decode cX10_span 73 = .ok (.iaload, 1) := by decide +kernel
theorem dX10_span_74 : decode cX10_span 74 = .ok (.invokevirtual 135, 3) := by decide +kernel
theorem dX10_span_77 : decode cX10_span 77 = .ok (.ireturn, 1) := by decide +kernel
theorem dX10_says_0 : decode cX10_says 0 = .ok (.aload_n 0, 1) := by decide +kernel
theorem dX10_says_1 : decode cX10_says 1 = .ok (.iload_n 1, 1) := by decide +kernel
theorem dX10_says_2 : decode cX10_says 2 = .ok (.iload_n 2, 1) := by decide +kernel
theorem dX10_says_3 : decode cX10_says 3 = .ok (.invokevirtual 167, 3) := by decide +kernel
theorem dX10_says_6 : decode cX10_says 6 = .ok (.istore_n 3, 1) := by decide +kernel
theorem dX10_says_7 : decode cX10_says 7 = .ok (.iload_n 3, 1) := by decide +kernel
theorem dX10_says_8 : decode cX10_says 8 = .ok (.ifCond .eq 9, 3) := by decide +kernel
theorem dX10_says_11 : decode cX10_says 11 = .ok (.aload_n 0, 1) := by decide +kernel
theorem dX10_says_12 : decode cX10_says 12 = .ok (.iload_n 3, 1) := by decide +kernel
theorem dX10_says_13 : decode cX10_says 13 = .ok (.invokevirtual 98, 3) := by decide +kernel
theorem dX10_says_16 : decode cX10_says 16 = .ok (.ireturn, 1) := by decide +kernel
theorem dX10_says_17 : decode cX10_says 17 = .ok (.aload_n 0, 1) := by decide +kernel
theorem dX10_says_18 : decode cX10_says 18 = .ok (.iload_n 1, 1) := by decide +kernel
theorem dX10_says_19 : decode cX10_says 19 = .ok (.iload_n 2, 1) := by decide +kernel
theorem dX10_says_20 : decode cX10_says 20 = .ok (.invokevirtual 170, 3) := by decide +kernel
theorem dX10_says_23 : decode cX10_says 23 = .ok (.iconst 0, 1) := by decide +kernel
theorem dX10_says_24 : decode cX10_says 24 = .ok (.istore 4, 2) := by decide +kernel
theorem dX10_says_26 : decode cX10_says 26 = .ok (.iconst 0, 1) := by decide +kernel
theorem dX10_says_27 : decode cX10_says 27 = .ok (.istore 5, 2) := by decide +kernel
theorem dX10_says_29 : decode cX10_says 29 = .ok (.iload 5, 2) := by decide +kernel
theorem dX10_says_31 : decode cX10_says 31 = .ok (.aload_n 0, 1) := by decide +kernel
theorem dX10_says_32 : decode cX10_says 32 = .ok (.getfield 26, 3) := by decide +kernel
theorem dX10_says_35 : decode cX10_says 35 = .ok (.getfield 223, 3) := by decide +kernel
theorem dX10_says_38 : decode cX10_says 38 = .ok (.if_icmp .ge 38, 3) := by decide +kernel
theorem dX10_says_41 : decode cX10_says 41 = .ok (.aload_n 0, 1) := by decide +kernel
theorem dX10_says_42 : decode cX10_says 42 = .ok (.getfield 51, 3) := by decide +kernel
theorem dX10_says_45 : decode cX10_says 45 = .ok (.aload_n 0, 1) := by decide +kernel
theorem dX10_says_46 : decode cX10_says 46 = .ok (.getfield 26, 3) := by decide +kernel
theorem dX10_says_49 : decode cX10_says 49 = .ok (.getfield 202, 3) := by decide +kernel
theorem dX10_says_52 : decode cX10_says 52 = .ok (.iload 5, 2) := by decide +kernel
theorem dX10_says_54 : decode cX10_says 54 = .ok (.aaload, 1) := by decide +kernel
theorem dX10_says_55 : decode cX10_says 55 = .ok (.invokevirtual 226, 3) := by decide +kernel
theorem dX10_says_58 : decode cX10_says 58 = .ok (.ifCond .eq 12, 3) := by decide +kernel
theorem dX10_says_61 : decode cX10_says 61 = .ok (.iload 4, 2) := by decide +kernel
theorem dX10_says_63 : decode cX10_says 63 = .ok (.iconst 1, 1) := by decide +kernel
theorem dX10_says_64 : decode cX10_says 64 = .ok (.iload 5, 2) := by decide +kernel
theorem dX10_says_66 : decode cX10_says 66 = .ok (.ishl, 1) := by decide +kernel
theorem dX10_says_67 : decode cX10_says 67 = .ok (.ior, 1) := by decide +kernel
theorem dX10_says_68 : decode cX10_says 68 = .ok (.istore 4, 2) := by decide +kernel
theorem dX10_says_70 : decode cX10_says 70 = .ok (.iinc 5 1, 3) := by decide +kernel
theorem dX10_says_73 : decode cX10_says 73 = .ok (.goto (-44), 3) := by decide +kernel
theorem dX10_says_76 : decode cX10_says 76 = .ok (.aload_n 0, 1) := by decide +kernel
theorem dX10_says_77 : decode cX10_says 77 = .ok (.iload 4, 2) := by decide +kernel
theorem dX10_says_79 : decode cX10_says 79 = .ok (.invokevirtual 135, 3) := by decide +kernel
theorem dX10_says_82 : decode cX10_says 82 = .ok (.ireturn, 1) := by decide +kernel
theorem dX10_kept_0 : decode cX10_kept 0 = .ok (.aload_n 0, 1) := by decide +kernel
theorem dX10_kept_1 : decode cX10_kept 1 = .ok (.iload_n 1, 1) := by decide +kernel
theorem dX10_kept_2 : decode cX10_kept 2 = .ok (.invokevirtual 230, 3) := by decide +kernel
theorem dX10_kept_5 : decode cX10_kept 5 = .ok (.ifCond .eq 9, 3) := by decide +kernel
theorem dX10_kept_8 : decode cX10_kept 8 = .ok (.aload_n 0, 1) := by decide +kernel
theorem dX10_kept_9 : decode cX10_kept 9 = .ok (.iconst 1, 1) := by decide +kernel
theorem dX10_kept_10 : decode cX10_kept 10 = .ok (.invokevirtual 98, 3) := by decide +kernel
theorem dX10_kept_13 : decode cX10_kept 13 = .ok (.ireturn, 1) := by decide +kernel
theorem dX10_kept_14 : decode cX10_kept 14 = .ok (.aload_n 0, 1) := by decide +kernel
theorem dX10_kept_15 : decode cX10_kept 15 = .ok (.aload_n 0, 1) := by decide +kernel
theorem dX10_kept_16 : decode cX10_kept 16 = .ok (.aload_n 0, 1) := by decide +kernel
theorem dX10_kept_17 : decode cX10_kept 17 = .ok (.getfield 33, 3) := by decide +kernel
theorem dX10_kept_20 : decode cX10_kept 20 = .ok (.getfield 233, 3) := by decide +kernel
theorem dX10_kept_23 : decode cX10_kept 23 = .ok (.invokevirtual 236, 3) := by decide +kernel
theorem dX10_kept_26 : decode cX10_kept 26 = .ok (.iload_n 1, 1) := by decide +kernel
theorem dX10_kept_27 : decode cX10_kept 27 = .ok (.ishr, 1) := by decide +kernel
theorem dX10_kept_28 : decode cX10_kept 28 = .ok (.iconst 1, 1) := by decide +kernel
theorem dX10_kept_29 : decode cX10_kept 29 = .ok (.iand, 1) := by decide +kernel
theorem dX10_kept_30 : decode cX10_kept 30 = .ok (.invokevirtual 135, 3) := by decide +kernel
theorem dX10_kept_33 : decode cX10_kept 33 = .ok (.ireturn, 1) := by decide +kernel
theorem dX10_allKept_0 : decode cX10_allKept 0 = .ok (.aload_n 0, 1) := by decide +kernel
theorem dX10_allKept_1 : decode cX10_allKept 1 = .ok (.getfield 110, 3) := by decide +kernel
theorem dX10_allKept_4 : decode cX10_allKept 4 = .ok (.ifCond .eq 21, 3) := by decide +kernel
theorem dX10_allKept_7 : decode cX10_allKept 7 = .ok (.aload_n 0, 1) := by decide +kernel
theorem dX10_allKept_8 : decode cX10_allKept 8 = .ok (.aload_n 0, 1) := by decide +kernel
theorem dX10_allKept_9 : decode cX10_allKept 9 = .ok (.aload_n 0, 1) := by decide +kernel
theorem dX10_allKept_10 : decode cX10_allKept 10 = .ok (.getfield 33, 3) := by decide +kernel
theorem dX10_allKept_13 : decode cX10_allKept 13 = .ok (.getfield 233, 3) := by decide +kernel
theorem dX10_allKept_16 : decode cX10_allKept 16 = .ok (.invokevirtual 236, 3) := by decide +kernel
theorem dX10_allKept_19 : decode cX10_allKept 19 = .ok (.invokevirtual 135, 3) := by decide +kernel
theorem dX10_allKept_22 : decode cX10_allKept 22 = .ok (.goto 8, 3) := by decide +kernel
theorem dX10_allKept_25 : decode cX10_allKept 25 = .ok (.aload_n 0, 1) := by decide +kernel
theorem dX10_allKept_26 : decode cX10_allKept 26 = .ok (.iconst 1, 1) := by decide +kernel
theorem dX10_allKept_27 : decode cX10_allKept 27 = .ok (.invokevirtual 98, 3) := by decide +kernel
theorem dX10_allKept_30 : decode cX10_allKept 30 = .ok (.ireturn, 1) := by decide +kernel
theorem dX10_mistakes_0 : decode cX10_mistakes 0 = .ok (.aload_n 0, 1) := by decide +kernel
theorem dX10_mistakes_1 : decode cX10_mistakes 1 = .ok (.getfield 110, 3) := by decide +kernel
theorem dX10_mistakes_4 : decode cX10_mistakes 4 = .ok (.ifCond .eq 14, 3) := by decide +kernel
theorem dX10_mistakes_7 : decode cX10_mistakes 7 = .ok (.aload_n 0, 1) := by decide +kernel
theorem dX10_mistakes_8 : decode cX10_mistakes 8 = .ok (.aload_n 0, 1) := by decide +kernel
theorem dX10_mistakes_9 : decode cX10_mistakes 9 = .ok (.invokevirtual 239, 3) := by decide +kernel
theorem dX10_mistakes_12 : decode cX10_mistakes 12 = .ok (.invokevirtual 135, 3) := by decide +kernel
theorem dX10_mistakes_15 : decode cX10_mistakes 15 = .ok (.goto 8, 3) := by decide +kernel
theorem dX10_mistakes_18 : decode cX10_mistakes 18 = .ok (.aload_n 0, 1) := by decide +kernel
theorem dX10_mistakes_19 : decode cX10_mistakes 19 = .ok (.iconst 1, 1) := by decide +kernel
theorem dX10_mistakes_20 : decode cX10_mistakes 20 = .ok (.invokevirtual 98, 3) := by decide +kernel
theorem dX10_mistakes_23 : decode cX10_mistakes 23 = .ok (.ireturn, 1) := by decide +kernel
theorem dX10_mistake_0 : decode cX10_mistake 0 = .ok (.aload_n 0, 1) := by decide +kernel
theorem dX10_mistake_1 : decode cX10_mistake 1 = .ok (.getfield 110, 3) := by decide +kernel
theorem dX10_mistake_4 : decode cX10_mistake 4 = .ok (.ifCond .eq 15, 3) := by decide +kernel
theorem dX10_mistake_7 : decode cX10_mistake 7 = .ok (.iload_n 1, 1) := by decide +kernel
theorem dX10_mistake_8 : decode cX10_mistake 8 = .ok (.ifCond .lt 11, 3) := by decide +kernel
theorem dX10_mistake_11 : decode cX10_mistake 11 = .ok (.iload_n 1, 1) := by decide +kernel
theorem dX10_mistake_12 : decode cX10_mistake 12 = .ok (.aload_n 0, 1) := by decide +kernel
theorem dX10_mistake_13 : decode cX10_mistake 13 = .ok (.invokevirtual 239, 3) := by decide +kernel
theorem dX10_mistake_16 : decode cX10_mistake 16 = .ok (.if_icmp .lt 9, 3) := by decide +kernel
theorem dX10_mistake_19 : decode cX10_mistake 19 = .ok (.aload_n 0, 1) := by decide +kernel
theorem dX10_mistake_20 : decode cX10_mistake 20 = .ok (.iconst 1, 1) := by decide +kernel
theorem dX10_mistake_21 : decode cX10_mistake 21 = .ok (.invokevirtual 98, 3) := by decide +kernel
theorem dX10_mistake_24 : decode cX10_mistake 24 = .ok (.ireturn, 1) := by decide +kernel
theorem dX10_mistake_25 : decode cX10_mistake 25 = .ok (.aload_n 0, 1) := by decide +kernel
theorem dX10_mistake_26 : decode cX10_mistake 26 = .ok (.aload_n 0, 1) := by decide +kernel
theorem dX10_mistake_27 : decode cX10_mistake 27 = .ok (.getfield 86, 3) := by decide +kernel
theorem dX10_mistake_30 : decode cX10_mistake 30 = .ok (.iload_n 1, 1) := by decide +kernel
theorem dX10_mistake_31 : decode cX10_mistake 31 = .ok (.iaload, 1) := by decide +kernel
theorem dX10_mistake_32 : decode cX10_mistake 32 = .ok (.invokevirtual 135, 3) := by decide +kernel
theorem dX10_mistake_35 : decode cX10_mistake 35 = .ok (.ireturn, 1) := by decide +kernel
theorem dX10_mend_0 : decode cX10_mend 0 = .ok (.aload_n 0, 1) := by decide +kernel
theorem dX10_mend_1 : decode cX10_mend 1 = .ok (.iload_n 1, 1) := by decide +kernel
theorem dX10_mend_2 : decode cX10_mend 2 = .ok (.invokevirtual 230, 3) := by decide +kernel
theorem dX10_mend_5 : decode cX10_mend 5 = .ok (.ifCond .eq 9, 3) := by decide +kernel
theorem dX10_mend_8 : decode cX10_mend 8 = .ok (.aload_n 0, 1) := by decide +kernel
theorem dX10_mend_9 : decode cX10_mend 9 = .ok (.iconst 1, 1) := by decide +kernel
theorem dX10_mend_10 : decode cX10_mend 10 = .ok (.invokevirtual 98, 3) := by decide +kernel
theorem dX10_mend_13 : decode cX10_mend 13 = .ok (.ireturn, 1) := by decide +kernel
theorem dX10_mend_14 : decode cX10_mend 14 = .ok (.aload_n 0, 1) := by decide +kernel
theorem dX10_mend_15 : decode cX10_mend 15 = .ok (.aload_n 0, 1) := by decide +kernel
theorem dX10_mend_16 : decode cX10_mend 16 = .ok (.getfield 26, 3) := by decide +kernel
theorem dX10_mend_19 : decode cX10_mend 19 = .ok (.getfield 242, 3) := by decide +kernel
theorem dX10_mend_22 : decode cX10_mend 22 = .ok (.iload_n 1, 1) := by decide +kernel
theorem dX10_mend_23 : decode cX10_mend 23 = .ok (.aaload, 1) := by decide +kernel
theorem dX10_mend_24 : decode cX10_mend 24 = .ok (.invokevirtual 245, 3) := by decide +kernel
theorem dX10_mend_27 : decode cX10_mend 27 = .ok (.istore_n 2, 1) := by decide +kernel
theorem dX10_mend_28 : decode cX10_mend 28 = .ok (.aload_n 0, 1) := by decide +kernel
theorem dX10_mend_29 : decode cX10_mend 29 = .ok (.iload_n 2, 1) := by decide +kernel
theorem dX10_mend_30 : decode cX10_mend 30 = .ok (.bipush (-2), 2) := by decide +kernel
theorem dX10_mend_32 : decode cX10_mend 32 = .ok (.if_icmp .ne 8, 3) := by decide +kernel
theorem dX10_mend_35 : decode cX10_mend 35 = .ok (.bipush (-2), 2) := by decide +kernel
theorem dX10_mend_37 : decode cX10_mend 37 = .ok (.goto 20, 3) := by decide +kernel
theorem dX10_mend_40 : decode cX10_mend 40 = .ok (.aload_n 0, 1) := by decide +kernel
theorem dX10_mend_41 : decode cX10_mend 41 = .ok (.getfield 51, 3) := by decide +kernel
theorem dX10_mend_44 : decode cX10_mend 44 = .ok (.aload_n 0, 1) := by decide +kernel
theorem dX10_mend_45 : decode cX10_mend 45 = .ok (.getfield 26, 3) := by decide +kernel
theorem dX10_mend_48 : decode cX10_mend 48 = .ok (.getfield 242, 3) := by decide +kernel
theorem dX10_mend_51 : decode cX10_mend 51 = .ok (.iload_n 1, 1) := by decide +kernel
theorem dX10_mend_52 : decode cX10_mend 52 = .ok (.aaload, 1) := by decide +kernel
theorem dX10_mend_53 : decode cX10_mend 53 = .ok (.iload_n 2, 1) := by decide +kernel
theorem dX10_mend_54 : decode cX10_mend 54 = .ok (.invokevirtual 248, 3) := by decide +kernel
theorem dX10_mend_57 : decode cX10_mend 57 = .ok (.invokevirtual 135, 3) := by decide +kernel
theorem dX10_mend_60 : decode cX10_mend 60 = .ok (.ireturn, 1) := by decide +kernel
theorem dX10_mendAt_0 : decode cX10_mendAt 0 = .ok (.aload_n 0, 1) := by decide +kernel
theorem dX10_mendAt_1 : decode cX10_mendAt 1 = .ok (.iload_n 1, 1) := by decide +kernel
theorem dX10_mendAt_2 : decode cX10_mendAt 2 = .ok (.invokevirtual 230, 3) := by decide +kernel
theorem dX10_mendAt_5 : decode cX10_mendAt 5 = .ok (.ifCond .eq 9, 3) := by decide +kernel
theorem dX10_mendAt_8 : decode cX10_mendAt 8 = .ok (.aload_n 0, 1) := by decide +kernel
theorem dX10_mendAt_9 : decode cX10_mendAt 9 = .ok (.iconst 1, 1) := by decide +kernel
theorem dX10_mendAt_10 : decode cX10_mendAt 10 = .ok (.invokevirtual 98, 3) := by decide +kernel
theorem dX10_mendAt_13 : decode cX10_mendAt 13 = .ok (.ireturn, 1) := by decide +kernel
theorem dX10_mendAt_14 : decode cX10_mendAt 14 = .ok (.aload_n 0, 1) := by decide +kernel
theorem dX10_mendAt_15 : decode cX10_mendAt 15 = .ok (.aload_n 0, 1) := by decide +kernel
theorem dX10_mendAt_16 : decode cX10_mendAt 16 = .ok (.aload_n 0, 1) := by decide +kernel
theorem dX10_mendAt_17 : decode cX10_mendAt 17 = .ok (.getfield 26, 3) := by decide +kernel
theorem dX10_mendAt_20 : decode cX10_mendAt 20 = .ok (.getfield 242, 3) := by decide +kernel
theorem dX10_mendAt_23 : decode cX10_mendAt 23 = .ok (.iload_n 1, 1) := by decide +kernel
theorem dX10_mendAt_24 : decode cX10_mendAt 24 = .ok (.aaload, 1) := by decide +kernel
theorem dX10_mendAt_25 : decode cX10_mendAt 25 = .ok (.invokevirtual 245, 3) := by decide +kernel
theorem dX10_mendAt_28 : decode cX10_mendAt 28 = .ok (.invokevirtual 135, 3) := by decide +kernel
theorem dX10_mendAt_31 : decode cX10_mendAt 31 = .ok (.ireturn, 1) := by decide +kernel
theorem dX10_mendAll_0 : decode cX10_mendAll 0 = .ok (.aload_n 0, 1) := by decide +kernel
theorem dX10_mendAll_1 : decode cX10_mendAll 1 = .ok (.getfield 110, 3) := by decide +kernel
theorem dX10_mendAll_4 : decode cX10_mendAll 4 = .ok (.ifCond .eq 25, 3) := by decide +kernel
theorem dX10_mendAll_7 : decode cX10_mendAll 7 = .ok (.aload_n 0, 1) := by decide +kernel
theorem dX10_mendAll_8 : decode cX10_mendAll 8 = .ok (.aload_n 0, 1) := by decide +kernel
theorem dX10_mendAll_9 : decode cX10_mendAll 9 = .ok (.getfield 68, 3) := by decide +kernel
theorem dX10_mendAll_12 : decode cX10_mendAll 12 = .ok (.aload_n 0, 1) := by decide +kernel
theorem dX10_mendAll_13 : decode cX10_mendAll 13 = .ok (.getfield 26, 3) := by decide +kernel
theorem dX10_mendAll_16 : decode cX10_mendAll 16 = .ok (.aload_n 0, 1) := by decide +kernel
theorem dX10_mendAll_17 : decode cX10_mendAll 17 = .ok (.getfield 33, 3) := by decide +kernel
theorem dX10_mendAll_20 : decode cX10_mendAll 20 = .ok (.invokevirtual 251, 3) := by decide +kernel
theorem dX10_mendAll_23 : decode cX10_mendAll 23 = .ok (.invokevirtual 135, 3) := by decide +kernel
theorem dX10_mendAll_26 : decode cX10_mendAll 26 = .ok (.goto 8, 3) := by decide +kernel
theorem dX10_mendAll_29 : decode cX10_mendAll 29 = .ok (.aload_n 0, 1) := by decide +kernel
theorem dX10_mendAll_30 : decode cX10_mendAll 30 = .ok (.iconst 1, 1) := by decide +kernel
theorem dX10_mendAll_31 : decode cX10_mendAll 31 = .ok (.invokevirtual 98, 3) := by decide +kernel
theorem dX10_mendAll_34 : decode cX10_mendAll 34 = .ok (.ireturn, 1) := by decide +kernel
theorem dX10_loses_0 : decode cX10_loses 0 = .ok (.aload_n 0, 1) := by decide +kernel
theorem dX10_loses_1 : decode cX10_loses 1 = .ok (.iload_n 1, 1) := by decide +kernel
theorem dX10_loses_2 : decode cX10_loses 2 = .ok (.invokevirtual 161, 3) := by decide +kernel
theorem dX10_loses_5 : decode cX10_loses 5 = .ok (.ifCond .eq 9, 3) := by decide +kernel
theorem dX10_loses_8 : decode cX10_loses 8 = .ok (.aload_n 0, 1) := by decide +kernel
theorem dX10_loses_9 : decode cX10_loses 9 = .ok (.iconst 1, 1) := by decide +kernel
theorem dX10_loses_10 : decode cX10_loses 10 = .ok (.invokevirtual 98, 3) := by decide +kernel
theorem dX10_loses_13 : decode cX10_loses 13 = .ok (.ireturn, 1) := by decide +kernel
theorem dX10_loses_14 : decode cX10_loses 14 = .ok (.aload_n 0, 1) := by decide +kernel
theorem dX10_loses_15 : decode cX10_loses 15 = .ok (.getfield 33, 3) := by decide +kernel
theorem dX10_loses_18 : decode cX10_loses 18 = .ok (.iload_n 1, 1) := by decide +kernel
theorem dX10_loses_19 : decode cX10_loses 19 = .ok (.invokevirtual 164, 3) := by decide +kernel
theorem dX10_loses_22 : decode cX10_loses 22 = .ok (.ifCond .eq 9, 3) := by decide +kernel
theorem dX10_loses_25 : decode cX10_loses 25 = .ok (.aload_n 0, 1) := by decide +kernel
theorem dX10_loses_26 : decode cX10_loses 26 = .ok (.iconst 5, 1) := by decide +kernel
theorem dX10_loses_27 : decode cX10_loses 27 = .ok (.invokevirtual 98, 3) := by decide +kernel
theorem dX10_loses_30 : decode cX10_loses 30 = .ok (.ireturn, 1) := by decide +kernel
theorem dX10_loses_31 : decode cX10_loses 31 = .ok (.aload_n 0, 1) := by decide +kernel
theorem dX10_loses_32 : decode cX10_loses 32 = .ok (.aload_n 0, 1) := by decide +kernel
theorem dX10_loses_33 : decode cX10_loses 33 = .ok (.getfield 33, 3) := by decide +kernel
theorem dX10_loses_36 : decode cX10_loses 36 = .ok (.getfield 233, 3) := by decide +kernel
theorem dX10_loses_39 : decode cX10_loses 39 = .ok (.invokevirtual 236, 3) := by decide +kernel
theorem dX10_loses_42 : decode cX10_loses 42 = .ok (.istore_n 2, 1) := by decide +kernel
theorem dX10_loses_43 : decode cX10_loses 43 = .ok (.aload_n 0, 1) := by decide +kernel
theorem dX10_loses_44 : decode cX10_loses 44 = .ok (.aload_n 0, 1) := by decide +kernel
theorem dX10_loses_45 : decode cX10_loses 45 = .ok (.getfield 33, 3) := by decide +kernel
theorem dX10_loses_48 : decode cX10_loses 48 = .ok (.getfield 233, 3) := by decide +kernel
theorem dX10_loses_51 : decode cX10_loses 51 = .ok (.iconst 1, 1) := by decide +kernel
theorem dX10_loses_52 : decode cX10_loses 52 = .ok (.iload_n 1, 1) := by decide +kernel
theorem dX10_loses_53 : decode cX10_loses 53 = .ok (.ishl, 1) := by decide +kernel
theorem dX10_loses_54 : decode cX10_loses 54 = .ok (.ior, 1) := by decide +kernel
theorem dX10_loses_55 : decode cX10_loses 55 = .ok (.invokevirtual 236, 3) := by decide +kernel
theorem dX10_loses_58 : decode cX10_loses 58 = .ok (.istore_n 3, 1) := by decide +kernel
theorem dX10_loses_59 : decode cX10_loses 59 = .ok (.aload_n 0, 1) := by decide +kernel
theorem dX10_loses_60 : decode cX10_loses 60 = .ok (.iload_n 2, 1) := by decide +kernel
theorem dX10_loses_61 : decode cX10_loses 61 = .ok (.iload_n 3, 1) := by decide +kernel
theorem dX10_loses_62 : decode cX10_loses 62 = .ok (.iconst (-1), 1) := by decide +kernel
theorem dX10_loses_63 : decode cX10_loses 63 = .ok (.ixor, 1) := by decide +kernel
theorem dX10_loses_64 : decode cX10_loses 64 = .ok (.iand, 1) := by decide +kernel
theorem dX10_loses_65 : decode cX10_loses 65 = .ok (.invokevirtual 135, 3) := by decide +kernel
theorem dX10_loses_68 : decode cX10_loses 68 = .ok (.ireturn, 1) := by decide +kernel
theorem dX10_treaty_0 : decode cX10_treaty 0 = .ok (.aload_n 0, 1) := by decide +kernel
theorem dX10_treaty_1 : decode cX10_treaty 1 = .ok (.iload_n 1, 1) := by decide +kernel
theorem dX10_treaty_2 : decode cX10_treaty 2 = .ok (.invokevirtual 213, 3) := by decide +kernel
theorem dX10_treaty_5 : decode cX10_treaty 5 = .ok (.ifCond .eq 9, 3) := by decide +kernel
theorem dX10_treaty_8 : decode cX10_treaty 8 = .ok (.aload_n 0, 1) := by decide +kernel
theorem dX10_treaty_9 : decode cX10_treaty 9 = .ok (.iconst 1, 1) := by decide +kernel
theorem dX10_treaty_10 : decode cX10_treaty 10 = .ok (.invokevirtual 98, 3) := by decide +kernel
theorem dX10_treaty_13 : decode cX10_treaty 13 = .ok (.ireturn, 1) := by decide +kernel
theorem dX10_treaty_14 : decode cX10_treaty 14 = .ok (.iconst 0, 1) := by decide +kernel
theorem dX10_treaty_15 : decode cX10_treaty 15 = .ok (.istore_n 3, 1) := by decide +kernel
theorem dX10_treaty_16 : decode cX10_treaty 16 = .ok (.iload_n 3, 1) := by decide +kernel
theorem dX10_treaty_17 : decode cX10_treaty 17 = .ok (.aload_n 0, 1) := by decide +kernel
theorem dX10_treaty_18 : decode cX10_treaty 18 = .ok (.getfield 26, 3) := by decide +kernel
theorem dX10_treaty_21 : decode cX10_treaty 21 = .ok (.getfield 190, 3) := by decide +kernel
theorem dX10_treaty_24 : decode cX10_treaty 24 = .ok (.if_icmp .ge 47, 3) := by decide +kernel
theorem dX10_treaty_27 : decode cX10_treaty 27 = .ok (.aload_n 0, 1) := by decide +kernel
theorem dX10_treaty_28 : decode cX10_treaty 28 = .ok (.iload_n 3, 1) := by decide +kernel
theorem dX10_treaty_29 : decode cX10_treaty 29 = .ok (.aload_n 0, 1) := by decide +kernel
theorem dX10_treaty_30 : decode cX10_treaty 30 = .ok (.getfield 26, 3) := by decide +kernel
theorem dX10_treaty_33 : decode cX10_treaty 33 = .ok (.getfield 202, 3) := by decide +kernel
theorem dX10_treaty_36 : decode cX10_treaty 36 = .ok (.iload_n 1, 1) := by decide +kernel
theorem dX10_treaty_37 : decode cX10_treaty 37 = .ok (.aaload, 1) := by decide +kernel
theorem dX10_treaty_38 : decode cX10_treaty 38 = .ok (.invokevirtual 255, 3) := by decide +kernel
theorem dX10_treaty_41 : decode cX10_treaty 41 = .ok (.istore 4, 2) := by decide +kernel
theorem dX10_treaty_43 : decode cX10_treaty 43 = .ok (.iload 4, 2) := by decide +kernel
theorem dX10_treaty_45 : decode cX10_treaty 45 = .ok (.bipush (-2), 2) := by decide +kernel
theorem dX10_treaty_47 : decode cX10_treaty 47 = .ok (.if_icmp .eq 18, 3) := by decide +kernel
theorem dX10_treaty_50 : decode cX10_treaty 50 = .ok (.aload_n 0, 1) := by decide +kernel
theorem dX10_treaty_51 : decode cX10_treaty 51 = .ok (.iload_n 2, 1) := by decide +kernel
theorem dX10_treaty_52 : decode cX10_treaty 52 = .ok (.ifCond .eq 8, 3) := by decide +kernel
theorem dX10_treaty_55 : decode cX10_treaty 55 = .ok (.iload 4, 2) := by decide +kernel
theorem dX10_treaty_57 : decode cX10_treaty 57 = .ok (.goto 4, 3) := by decide +kernel
theorem dX10_treaty_60 : decode cX10_treaty 60 = .ok (.iload_n 3, 1) := by decide +kernel
theorem dX10_treaty_61 : decode cX10_treaty 61 = .ok (.invokevirtual 135, 3) := by decide +kernel
theorem dX10_treaty_64 : decode cX10_treaty 64 = .ok (.ireturn, 1) := by decide +kernel
theorem dX10_treaty_65 : decode cX10_treaty 65 = .ok (.iinc 3 1, 3) := by decide +kernel
theorem dX10_treaty_68 : decode cX10_treaty 68 = .ok (.goto (-52), 3) := by decide +kernel
theorem dX10_treaty_71 : decode cX10_treaty 71 = .ok (.aload_n 0, 1) := by decide +kernel
theorem dX10_treaty_72 : decode cX10_treaty 72 = .ok (.bipush (-2), 2) := by decide +kernel
theorem dX10_treaty_74 : decode cX10_treaty 74 = .ok (.invokevirtual 135, 3) := by decide +kernel
theorem dX10_treaty_77 : decode cX10_treaty 77 = .ok (.ireturn, 1) := by decide +kernel
theorem dX10_sever_0 : decode cX10_sever 0 = .ok (.aload_n 0, 1) := by decide +kernel
theorem dX10_sever_1 : decode cX10_sever 1 = .ok (.iload_n 1, 1) := by decide +kernel
theorem dX10_sever_2 : decode cX10_sever 2 = .ok (.iload_n 2, 1) := by decide +kernel
theorem dX10_sever_3 : decode cX10_sever 3 = .ok (.iload_n 3, 1) := by decide +kernel
theorem dX10_sever_4 : decode cX10_sever 4 = .ok (.invokevirtual 199, 3) := by decide +kernel
theorem dX10_sever_7 : decode cX10_sever 7 = .ok (.istore 5, 2) := by decide +kernel
theorem dX10_sever_9 : decode cX10_sever 9 = .ok (.iload 5, 2) := by decide +kernel
theorem dX10_sever_11 : decode cX10_sever 11 = .ok (.ifCond .eq 10, 3) := by decide +kernel
theorem dX10_sever_14 : decode cX10_sever 14 = .ok (.aload_n 0, 1) := by decide +kernel
theorem dX10_sever_15 : decode cX10_sever 15 = .ok (.iload 5, 2) := by decide +kernel
theorem dX10_sever_17 : decode cX10_sever 17 = .ok (.invokevirtual 98, 3) := by decide +kernel
theorem dX10_sever_20 : decode cX10_sever 20 = .ok (.ireturn, 1) := by decide +kernel
theorem dX10_sever_21 : decode cX10_sever 21 = .ok (.aload_n 0, 1) := by decide +kernel
theorem dX10_sever_22 : decode cX10_sever 22 = .ok (.aload_n 0, 1) := by decide +kernel
theorem dX10_sever_23 : decode cX10_sever 23 = .ok (.getfield 26, 3) := by decide +kernel
theorem dX10_sever_26 : decode cX10_sever 26 = .ok (.getfield 202, 3) := by decide +kernel
theorem dX10_sever_29 : decode cX10_sever 29 = .ok (.iload_n 1, 1) := by decide +kernel
theorem dX10_sever_30 : decode cX10_sever 30 = .ok (.aaload, 1) := by decide +kernel
theorem dX10_sever_31 : decode cX10_sever 31 = .ok (.iload_n 2, 1) := by decide +kernel
theorem dX10_sever_32 : decode cX10_sever 32 = .ok (.iload_n 3, 1) := by decide +kernel
theorem dX10_sever_33 : decode cX10_sever 33 = .ok (.invokevirtual 259, 3) := by decide +kernel
theorem dX10_sever_36 : decode cX10_sever 36 = .ok (.istore 6, 2) := by decide +kernel
theorem dX10_sever_38 : decode cX10_sever 38 = .ok (.aload_n 0, 1) := by decide +kernel
theorem dX10_sever_39 : decode cX10_sever 39 = .ok (.iload 4, 2) := by decide +kernel
theorem dX10_sever_41 : decode cX10_sever 41 = .ok (.ifCond .ne 10, 3) := by decide +kernel
theorem dX10_sever_44 : decode cX10_sever 44 = .ok (.iload 6, 2) := by decide +kernel
theorem dX10_sever_46 : decode cX10_sever 46 = .ok (.bipush (-2), 2) := by decide +kernel
theorem dX10_sever_48 : decode cX10_sever 48 = .ok (.if_icmp .ne 8, 3) := by decide +kernel
theorem dX10_sever_51 : decode cX10_sever 51 = .ok (.iload 6, 2) := by decide +kernel
theorem dX10_sever_53 : decode cX10_sever 53 = .ok (.goto 8, 3) := by decide +kernel
theorem dX10_sever_56 : decode cX10_sever 56 = .ok (.iload 6, 2) := by decide +kernel
theorem dX10_sever_58 : decode cX10_sever 58 = .ok (.invokestatic 263, 3) := by decide +kernel
theorem dX10_sever_61 : decode cX10_sever 61 = .ok (.invokevirtual 135, 3) := by decide +kernel
theorem dX10_sever_64 : decode cX10_sever 64 = .ok (.ireturn, 1) := by decide +kernel
theorem dX10_pack_0 : decode cX10_pack 0 = .ok (.aload_n 0, 1) := by decide +kernel
theorem dX10_pack_1 : decode cX10_pack 1 = .ok (.getfield 110, 3) := by decide +kernel
theorem dX10_pack_4 : decode cX10_pack 4 = .ok (.ifCond .eq 12, 3) := by decide +kernel
theorem dX10_pack_7 : decode cX10_pack 7 = .ok (.iload_n 1, 1) := by decide +kernel
theorem dX10_pack_8 : decode cX10_pack 8 = .ok (.ifCond .lt 8, 3) := by decide +kernel
theorem dX10_pack_11 : decode cX10_pack 11 = .ok (.iload_n 1, 1) := by decide +kernel
theorem dX10_pack_12 : decode cX10_pack 12 = .ok (.iconst 2, 1) := by decide +kernel
theorem dX10_pack_13 : decode cX10_pack 13 = .ok (.if_icmp .le 9, 3) := by decide +kernel
theorem dX10_pack_16 : decode cX10_pack 16 = .ok (.aload_n 0, 1) := by decide +kernel
theorem dX10_pack_17 : decode cX10_pack 17 = .ok (.iconst 1, 1) := by decide +kernel
theorem dX10_pack_18 : decode cX10_pack 18 = .ok (.invokevirtual 98, 3) := by decide +kernel
theorem dX10_pack_21 : decode cX10_pack 21 = .ok (.ireturn, 1) := by decide +kernel
theorem dX10_pack_22 : decode cX10_pack 22 = .ok (.aload_n 0, 1) := by decide +kernel
theorem dX10_pack_23 : decode cX10_pack 23 = .ok (.getfield 75, 3) := by decide +kernel
theorem dX10_pack_26 : decode cX10_pack 26 = .ok (.aload_n 0, 1) := by decide +kernel
theorem dX10_pack_27 : decode cX10_pack 27 = .ok (.getfield 26, 3) := by decide +kernel
theorem dX10_pack_30 : decode cX10_pack 30 = .ok (.invokevirtual 268, 3) := by decide +kernel
theorem dX10_pack_33 : decode cX10_pack 33 = .ok (.iload_n 1, 1) := by decide +kernel
theorem dX10_pack_34 : decode cX10_pack 34 = .ok (.ifCond .ne 18, 3) := by decide +kernel
theorem dX10_pack_37 : decode cX10_pack 37 = .ok (.aload_n 0, 1) := by decide +kernel
theorem dX10_pack_38 : decode cX10_pack 38 = .ok (.aload_n 0, 1) := by decide +kernel
theorem dX10_pack_39 : decode cX10_pack 39 = .ok (.getfield 75, 3) := by decide +kernel
theorem dX10_pack_42 : decode cX10_pack 42 = .ok (.getfield 272, 3) := by decide +kernel
theorem dX10_pack_45 : decode cX10_pack 45 = .ok (.invokestatic 263, 3) := by decide +kernel
theorem dX10_pack_48 : decode cX10_pack 48 = .ok (.invokevirtual 135, 3) := by decide +kernel
theorem dX10_pack_51 : decode cX10_pack 51 = .ok (.ireturn, 1) := by decide +kernel
theorem dX10_pack_52 : decode cX10_pack 52 = .ok (.aload_n 0, 1) := by decide +kernel
theorem dX10_pack_53 : decode cX10_pack 53 = .ok (.iload_n 1, 1) := by decide +kernel
theorem dX10_pack_54 : decode cX10_pack 54 = .ok (.iconst 1, 1) := by decide +kernel
theorem dX10_pack_55 : decode cX10_pack 55 = .ok (.if_icmp .ne 13, 3) := by decide +kernel
theorem dX10_pack_58 : decode cX10_pack 58 = .ok (.aload_n 0, 1) := by decide +kernel
theorem dX10_pack_59 : decode cX10_pack 59 = .ok (.getfield 75, 3) := by decide +kernel
theorem dX10_pack_62 : decode cX10_pack 62 = .ok (.getfield 272, 3) := by decide +kernel
theorem dX10_pack_65 : decode cX10_pack 65 = .ok (.goto 10, 3) := by decide +kernel
theorem dX10_pack_68 : decode cX10_pack 68 = .ok (.aload_n 0, 1) := by decide +kernel
theorem dX10_pack_69 : decode cX10_pack 69 = .ok (.getfield 75, 3) := by decide +kernel
theorem dX10_pack_72 : decode cX10_pack 72 = .ok (.getfield 275, 3) := by decide +kernel
theorem dX10_pack_75 : decode cX10_pack 75 = .ok (.invokevirtual 135, 3) := by decide +kernel
theorem dX10_pack_78 : decode cX10_pack 78 = .ok (.ireturn, 1) := by decide +kernel
theorem dX10_clash_0 : decode cX10_clash 0 = .ok (.aload_n 0, 1) := by decide +kernel
theorem dX10_clash_1 : decode cX10_clash 1 = .ok (.getfield 110, 3) := by decide +kernel
theorem dX10_clash_4 : decode cX10_clash 4 = .ok (.ifCond .eq 17, 3) := by decide +kernel
theorem dX10_clash_7 : decode cX10_clash 7 = .ok (.aload_n 0, 1) := by decide +kernel
theorem dX10_clash_8 : decode cX10_clash 8 = .ok (.aload_n 0, 1) := by decide +kernel
theorem dX10_clash_9 : decode cX10_clash 9 = .ok (.getfield 61, 3) := by decide +kernel
theorem dX10_clash_12 : decode cX10_clash 12 = .ok (.getfield 278, 3) := by decide +kernel
theorem dX10_clash_15 : decode cX10_clash 15 = .ok (.invokevirtual 135, 3) := by decide +kernel
theorem dX10_clash_18 : decode cX10_clash 18 = .ok (.goto 8, 3) := by decide +kernel
theorem dX10_clash_21 : decode cX10_clash 21 = .ok (.aload_n 0, 1) := by decide +kernel
theorem dX10_clash_22 : decode cX10_clash 22 = .ok (.iconst 1, 1) := by decide +kernel
theorem dX10_clash_23 : decode cX10_clash 23 = .ok (.invokevirtual 98, 3) := by decide +kernel
theorem dX10_clash_26 : decode cX10_clash 26 = .ok (.ireturn, 1) := by decide +kernel
theorem dX10_sure_0 : decode cX10_sure 0 = .ok (.aload_n 0, 1) := by decide +kernel
theorem dX10_sure_1 : decode cX10_sure 1 = .ok (.iload_n 1, 1) := by decide +kernel
theorem dX10_sure_2 : decode cX10_sure 2 = .ok (.iload_n 2, 1) := by decide +kernel
theorem dX10_sure_3 : decode cX10_sure 3 = .ok (.iload_n 3, 1) := by decide +kernel
theorem dX10_sure_4 : decode cX10_sure 4 = .ok (.invokevirtual 147, 3) := by decide +kernel
theorem dX10_sure_7 : decode cX10_sure 7 = .ok (.ifCond .eq 9, 3) := by decide +kernel
theorem dX10_sure_10 : decode cX10_sure 10 = .ok (.aload_n 0, 1) := by decide +kernel
theorem dX10_sure_11 : decode cX10_sure 11 = .ok (.iconst 1, 1) := by decide +kernel
theorem dX10_sure_12 : decode cX10_sure 12 = .ok (.invokevirtual 98, 3) := by decide +kernel
theorem dX10_sure_15 : decode cX10_sure 15 = .ok (.ireturn, 1) := by decide +kernel
theorem dX10_sure_16 : decode cX10_sure 16 = .ok (.aload_n 0, 1) := by decide +kernel
theorem dX10_sure_17 : decode cX10_sure 17 = .ok (.getfield 61, 3) := by decide +kernel
theorem dX10_sure_20 : decode cX10_sure 20 = .ok (.iload_n 1, 1) := by decide +kernel
theorem dX10_sure_21 : decode cX10_sure 21 = .ok (.aload_n 0, 1) := by decide +kernel
theorem dX10_sure_22 : decode cX10_sure 22 = .ok (.getfield 26, 3) := by decide +kernel
theorem dX10_sure_25 : decode cX10_sure 25 = .ok (.getfield 151, 3) := by decide +kernel
theorem dX10_sure_28 : decode cX10_sure 28 = .ok (.iload_n 2, 1) := by decide +kernel
theorem dX10_sure_29 : decode cX10_sure 29 = .ok (.imul, 1) := by decide +kernel
theorem dX10_sure_30 : decode cX10_sure 30 = .ok (.iload_n 3, 1) := by decide +kernel
theorem dX10_sure_31 : decode cX10_sure 31 = .ok (.iadd, 1) := by decide +kernel
theorem dX10_sure_32 : decode cX10_sure 32 = .ok (.invokevirtual 281, 3) := by decide +kernel
theorem dX10_sure_35 : decode cX10_sure 35 = .ok (.istore 4, 2) := by decide +kernel
theorem dX10_sure_37 : decode cX10_sure 37 = .ok (.aload_n 0, 1) := by decide +kernel
theorem dX10_sure_38 : decode cX10_sure 38 = .ok (.iload 4, 2) := by decide +kernel
theorem dX10_sure_40 : decode cX10_sure 40 = .ok (.bipush (-3), 2) := by decide +kernel
theorem dX10_sure_42 : decode cX10_sure 42 = .ok (.if_icmp .ne 8, 3) := by decide +kernel
theorem dX10_sure_45 : decode cX10_sure 45 = .ok (.bipush (-3), 2) := by decide +kernel
theorem dX10_sure_47 : decode cX10_sure 47 = .ok (.goto 8, 3) := by decide +kernel
theorem dX10_sure_50 : decode cX10_sure 50 = .ok (.iload 4, 2) := by decide +kernel
theorem dX10_sure_52 : decode cX10_sure 52 = .ok (.invokestatic 158, 3) := by decide +kernel
theorem dX10_sure_55 : decode cX10_sure 55 = .ok (.invokevirtual 135, 3) := by decide +kernel
theorem dX10_sure_58 : decode cX10_sure 58 = .ok (.ireturn, 1) := by decide +kernel
theorem dX10_sureCells_0 : decode cX10_sureCells 0 = .ok (.aload_n 0, 1) := by decide +kernel
theorem dX10_sureCells_1 : decode cX10_sureCells 1 = .ok (.getfield 110, 3) := by decide +kernel
theorem dX10_sureCells_4 : decode cX10_sureCells 4 = .ok (.ifCond .eq 17, 3) := by decide +kernel
theorem dX10_sureCells_7 : decode cX10_sureCells 7 = .ok (.aload_n 0, 1) := by decide +kernel
theorem dX10_sureCells_8 : decode cX10_sureCells 8 = .ok (.aload_n 0, 1) := by decide +kernel
theorem dX10_sureCells_9 : decode cX10_sureCells 9 = .ok (.getfield 61, 3) := by decide +kernel
theorem dX10_sureCells_12 : decode cX10_sureCells 12 = .ok (.invokevirtual 284, 3) := by decide +kernel
theorem dX10_sureCells_15 : decode cX10_sureCells 15 = .ok (.invokevirtual 135, 3) := by decide +kernel
theorem dX10_sureCells_18 : decode cX10_sureCells 18 = .ok (.goto 8, 3) := by decide +kernel
theorem dX10_sureCells_21 : decode cX10_sureCells 21 = .ok (.aload_n 0, 1) := by decide +kernel
theorem dX10_sureCells_22 : decode cX10_sureCells 22 = .ok (.iconst 1, 1) := by decide +kernel
theorem dX10_sureCells_23 : decode cX10_sureCells 23 = .ok (.invokevirtual 98, 3) := by decide +kernel
theorem dX10_sureCells_26 : decode cX10_sureCells 26 = .ok (.ireturn, 1) := by decide +kernel
theorem dX10_fits_0 : decode cX10_fits 0 = .ok (.aload_n 0, 1) := by decide +kernel
theorem dX10_fits_1 : decode cX10_fits 1 = .ok (.getfield 110, 3) := by decide +kernel
theorem dX10_fits_4 : decode cX10_fits 4 = .ok (.ifCond .ne 9, 3) := by decide +kernel
theorem dX10_fits_7 : decode cX10_fits 7 = .ok (.aload_n 0, 1) := by decide +kernel
theorem dX10_fits_8 : decode cX10_fits 8 = .ok (.iconst 1, 1) := by decide +kernel
theorem dX10_fits_9 : decode cX10_fits 9 = .ok (.invokevirtual 98, 3) := by decide +kernel
theorem dX10_fits_12 : decode cX10_fits 12 = .ok (.ireturn, 1) := by decide +kernel
theorem dX10_fits_13 : decode cX10_fits 13 = .ok (.iconst 0, 1) := by decide +kernel
theorem dX10_fits_14 : decode cX10_fits 14 = .ok (.istore_n 1, 1) := by decide +kernel
theorem dX10_fits_15 : decode cX10_fits 15 = .ok (.iload_n 1, 1) := by decide +kernel
theorem dX10_fits_16 : decode cX10_fits 16 = .ok (.aload_n 0, 1) := by decide +kernel
theorem dX10_fits_17 : decode cX10_fits 17 = .ok (.getfield 26, 3) := by decide +kernel
theorem dX10_fits_20 : decode cX10_fits 20 = .ok (.getfield 287, 3) := by decide +kernel
theorem dX10_fits_23 : decode cX10_fits 23 = .ok (.if_icmp .ge 64, 3) := by decide +kernel
theorem dX10_fits_26 : decode cX10_fits 26 = .ok (.aload_n 0, 1) := by decide +kernel
theorem dX10_fits_27 : decode cX10_fits 27 = .ok (.getfield 26, 3) := by decide +kernel
theorem dX10_fits_30 : decode cX10_fits 30 = .ok (.getfield 290, 3) := by decide +kernel
theorem dX10_fits_33 : decode cX10_fits 33 = .ok (.iload_n 1, 1) := by decide +kernel
theorem dX10_fits_34 : decode cX10_fits 34 = .ok (.aaload, 1) := by decide +kernel
theorem dX10_fits_35 : decode cX10_fits 35 = .ok (.astore_n 2, 1) := by decide +kernel
theorem dX10_fits_36 : decode cX10_fits 36 = .ok (.aload_n 0, 1) := by decide +kernel
theorem dX10_fits_37 : decode cX10_fits 37 = .ok (.getfield 51, 3) := by decide +kernel
theorem dX10_fits_40 : decode cX10_fits 40 = .ok (.aload_n 0, 1) := by decide +kernel
theorem dX10_fits_41 : decode cX10_fits 41 = .ok (.getfield 26, 3) := by decide +kernel
theorem dX10_fits_44 : decode cX10_fits 44 = .ok (.aload_n 0, 1) := by decide +kernel
theorem dX10_fits_45 : decode cX10_fits 45 = .ok (.getfield 33, 3) := by decide +kernel
theorem dX10_fits_48 : decode cX10_fits 48 = .ok (.iconst 0, 1) := by decide +kernel
theorem dX10_fits_49 : decode cX10_fits 49 = .ok (.aload_n 2, 1) := by decide +kernel
theorem dX10_fits_50 : decode cX10_fits 50 = .ok (.getfield 293, 3) := by decide +kernel
theorem dX10_fits_53 : decode cX10_fits 53 = .ok (.aload_n 2, 1) := by decide +kernel
theorem dX10_fits_54 : decode cX10_fits 54 = .ok (.getfield 298, 3) := by decide +kernel
theorem dX10_fits_57 : decode cX10_fits 57 = .ok (.invokevirtual 301, 3) := by decide +kernel
theorem dX10_fits_60 : decode cX10_fits 60 = .ok (.aload_n 0, 1) := by decide +kernel
theorem dX10_fits_61 : decode cX10_fits 61 = .ok (.getfield 51, 3) := by decide +kernel
theorem dX10_fits_64 : decode cX10_fits 64 = .ok (.aload_n 2, 1) := by decide +kernel
theorem dX10_fits_65 : decode cX10_fits 65 = .ok (.aload_n 2, 1) := by decide +kernel
theorem dX10_fits_66 : decode cX10_fits 66 = .ok (.getfield 305, 3) := by decide +kernel
theorem dX10_fits_69 : decode cX10_fits 69 = .ok (.invokevirtual 248, 3) := by decide +kernel
theorem dX10_fits_72 : decode cX10_fits 72 = .ok (.ifCond .eq 9, 3) := by decide +kernel
theorem dX10_fits_75 : decode cX10_fits 75 = .ok (.aload_n 0, 1) := by decide +kernel
theorem dX10_fits_76 : decode cX10_fits 76 = .ok (.iconst 0, 1) := by decide +kernel
theorem dX10_fits_77 : decode cX10_fits 77 = .ok (.invokevirtual 135, 3) := by decide +kernel
theorem dX10_fits_80 : decode cX10_fits 80 = .ok (.ireturn, 1) := by decide +kernel
theorem dX10_fits_81 : decode cX10_fits 81 = .ok (.iinc 1 1, 3) := by decide +kernel
theorem dX10_fits_84 : decode cX10_fits 84 = .ok (.goto (-69), 3) := by decide +kernel
theorem dX10_fits_87 : decode cX10_fits 87 = .ok (.aload_n 0, 1) := by decide +kernel
theorem dX10_fits_88 : decode cX10_fits 88 = .ok (.iconst 1, 1) := by decide +kernel
theorem dX10_fits_89 : decode cX10_fits 89 = .ok (.invokevirtual 135, 3) := by decide +kernel
theorem dX10_fits_92 : decode cX10_fits 92 = .ok (.ireturn, 1) := by decide +kernel
theorem dX10_ask_0 : decode cX10_ask 0 = .ok (.aload_n 0, 1) := by decide +kernel
theorem dX10_ask_1 : decode cX10_ask 1 = .ok (.getfield 110, 3) := by decide +kernel
theorem dX10_ask_4 : decode cX10_ask 4 = .ok (.ifCond .ne 9, 3) := by decide +kernel
theorem dX10_ask_7 : decode cX10_ask 7 = .ok (.aload_n 0, 1) := by decide +kernel
theorem dX10_ask_8 : decode cX10_ask 8 = .ok (.iconst 1, 1) := by decide +kernel
theorem dX10_ask_9 : decode cX10_ask 9 = .ok (.invokevirtual 98, 3) := by decide +kernel
theorem dX10_ask_12 : decode cX10_ask 12 = .ok (.ireturn, 1) := by decide +kernel
theorem dX10_ask_13 : decode cX10_ask 13 = .ok (.bipush (-2), 2) := by decide +kernel
theorem dX10_ask_15 : decode cX10_ask 15 = .ok (.istore_n 1, 1) := by decide +kernel
theorem dX10_ask_16 : decode cX10_ask 16 = .ok (.iconst 0, 1) := by decide +kernel
theorem dX10_ask_17 : decode cX10_ask 17 = .ok (.istore_n 2, 1) := by decide +kernel
theorem dX10_ask_18 : decode cX10_ask 18 = .ok (.iconst 0, 1) := by decide +kernel
theorem dX10_ask_19 : decode cX10_ask 19 = .ok (.istore_n 3, 1) := by decide +kernel
theorem dX10_ask_20 : decode cX10_ask 20 = .ok (.iload_n 3, 1) := by decide +kernel
theorem dX10_ask_21 : decode cX10_ask 21 = .ok (.iconst 1, 1) := by decide +kernel
theorem dX10_ask_22 : decode cX10_ask 22 = .ok (.if_icmp .gt 80, 3) := by decide +kernel
theorem dX10_ask_25 : decode cX10_ask 25 = .ok (.iconst 0, 1) := by decide +kernel
theorem dX10_ask_26 : decode cX10_ask 26 = .ok (.istore 4, 2) := by decide +kernel
theorem dX10_ask_28 : decode cX10_ask 28 = .ok (.iload 4, 2) := by decide +kernel
theorem dX10_ask_30 : decode cX10_ask 30 = .ok (.aload_n 0, 1) := by decide +kernel
theorem dX10_ask_31 : decode cX10_ask 31 = .ok (.getfield 26, 3) := by decide +kernel
theorem dX10_ask_34 : decode cX10_ask 34 = .ok (.invokevirtual 131, 3) := by decide +kernel
theorem dX10_ask_37 : decode cX10_ask 37 = .ok (.if_icmp .ge 59, 3) := by decide +kernel
theorem dX10_ask_40 : decode cX10_ask 40 = .ok (.aload_n 0, 1) := by decide +kernel
theorem dX10_ask_41 : decode cX10_ask 41 = .ok (.getfield 51, 3) := by decide +kernel
theorem dX10_ask_44 : decode cX10_ask 44 = .ok (.aload_n 0, 1) := by decide +kernel
theorem dX10_ask_45 : decode cX10_ask 45 = .ok (.getfield 26, 3) := by decide +kernel
theorem dX10_ask_48 : decode cX10_ask 48 = .ok (.aload_n 0, 1) := by decide +kernel
theorem dX10_ask_49 : decode cX10_ask 49 = .ok (.getfield 33, 3) := by decide +kernel
theorem dX10_ask_52 : decode cX10_ask 52 = .ok (.iconst 0, 1) := by decide +kernel
theorem dX10_ask_53 : decode cX10_ask 53 = .ok (.iload_n 3, 1) := by decide +kernel
theorem dX10_ask_54 : decode cX10_ask 54 = .ok (.iload 4, 2) := by decide +kernel
theorem dX10_ask_56 : decode cX10_ask 56 = .ok (.invokevirtual 301, 3) := by decide +kernel
theorem dX10_ask_59 : decode cX10_ask 59 = .ok (.aload_n 0, 1) := by decide +kernel
theorem dX10_ask_60 : decode cX10_ask 60 = .ok (.getfield 61, 3) := by decide +kernel
theorem dX10_ask_63 : decode cX10_ask 63 = .ok (.aload_n 0, 1) := by decide +kernel
theorem dX10_ask_64 : decode cX10_ask 64 = .ok (.getfield 51, 3) := by decide +kernel
theorem dX10_ask_67 : decode cX10_ask 67 = .ok (.iload_n 3, 1) := by decide +kernel
theorem dX10_ask_68 : decode cX10_ask 68 = .ok (.invokevirtual 308, 3) := by decide +kernel
theorem dX10_ask_71 : decode cX10_ask 71 = .ok (.istore 5, 2) := by decide +kernel
theorem dX10_ask_73 : decode cX10_ask 73 = .ok (.iload 5, 2) := by decide +kernel
theorem dX10_ask_75 : decode cX10_ask 75 = .ok (.iload_n 2, 1) := by decide +kernel
theorem dX10_ask_76 : decode cX10_ask 76 = .ok (.if_icmp .le 14, 3) := by decide +kernel
theorem dX10_ask_79 : decode cX10_ask 79 = .ok (.iload 5, 2) := by decide +kernel
theorem dX10_ask_81 : decode cX10_ask 81 = .ok (.istore_n 2, 1) := by decide +kernel
theorem dX10_ask_82 : decode cX10_ask 82 = .ok (.bipush 50, 2) := by decide +kernel
theorem dX10_ask_84 : decode cX10_ask 84 = .ok (.iload_n 3, 1) := by decide +kernel
theorem dX10_ask_85 : decode cX10_ask 85 = .ok (.imul, 1) := by decide +kernel
theorem dX10_ask_86 : decode cX10_ask 86 = .ok (.iload 4, 2) := by decide +kernel
theorem dX10_ask_88 : decode cX10_ask 88 = .ok (.iadd, 1) := by decide +kernel
theorem dX10_ask_89 : decode cX10_ask 89 = .ok (.istore_n 1, 1) := by decide +kernel
theorem dX10_ask_90 : decode cX10_ask 90 = .ok (.iinc 4 1, 3) := by decide +kernel
theorem dX10_ask_93 : decode cX10_ask 93 = .ok (.goto (-65), 3) := by decide +kernel
theorem dX10_ask_96 : decode cX10_ask 96 = .ok (.iinc 3 1, 3) := by decide +kernel
theorem dX10_ask_99 : decode cX10_ask 99 = .ok (.goto (-79), 3) := by decide +kernel
theorem dX10_ask_102 : decode cX10_ask 102 = .ok (.aload_n 0, 1) := by decide +kernel
theorem dX10_ask_103 : decode cX10_ask 103 = .ok (.iload_n 1, 1) := by decide +kernel
theorem dX10_ask_104 : decode cX10_ask 104 = .ok (.invokevirtual 135, 3) := by decide +kernel
theorem dX10_ask_107 : decode cX10_ask 107 = .ok (.ireturn, 1) := by decide +kernel
theorem dX10_smear_0 : decode cX10_smear 0 = .ok (.aload_n 0, 1) := by decide +kernel
theorem dX10_smear_1 : decode cX10_smear 1 = .ok (.iload_n 1, 1) := by decide +kernel
theorem dX10_smear_2 : decode cX10_smear 2 = .ok (.iload_n 2, 1) := by decide +kernel
theorem dX10_smear_3 : decode cX10_smear 3 = .ok (.invokevirtual 167, 3) := by decide +kernel
theorem dX10_smear_6 : decode cX10_smear 6 = .ok (.istore 4, 2) := by decide +kernel
theorem dX10_smear_8 : decode cX10_smear 8 = .ok (.iload 4, 2) := by decide +kernel
theorem dX10_smear_10 : decode cX10_smear 10 = .ok (.ifCond .ne 11, 3) := by decide +kernel
theorem dX10_smear_13 : decode cX10_smear 13 = .ok (.aload_n 0, 1) := by decide +kernel
theorem dX10_smear_14 : decode cX10_smear 14 = .ok (.iload_n 1, 1) := by decide +kernel
theorem dX10_smear_15 : decode cX10_smear 15 = .ok (.iload_n 3, 1) := by decide +kernel
theorem dX10_smear_16 : decode cX10_smear 16 = .ok (.invokevirtual 167, 3) := by decide +kernel
theorem dX10_smear_19 : decode cX10_smear 19 = .ok (.istore 4, 2) := by decide +kernel
theorem dX10_smear_21 : decode cX10_smear 21 = .ok (.iload 4, 2) := by decide +kernel
theorem dX10_smear_23 : decode cX10_smear 23 = .ok (.ifCond .ne 17, 3) := by decide +kernel
theorem dX10_smear_26 : decode cX10_smear 26 = .ok (.aload_n 0, 1) := by decide +kernel
theorem dX10_smear_27 : decode cX10_smear 27 = .ok (.aload_n 0, 1) := by decide +kernel
theorem dX10_smear_28 : decode cX10_smear 28 = .ok (.iload_n 1, 1) := by decide +kernel
theorem dX10_smear_29 : decode cX10_smear 29 = .ok (.iload_n 2, 1) := by decide +kernel
theorem dX10_smear_30 : decode cX10_smear 30 = .ok (.iload_n 3, 1) := by decide +kernel
theorem dX10_smear_31 : decode cX10_smear 31 = .ok (.invokevirtual 312, 3) := by decide +kernel
theorem dX10_smear_34 : decode cX10_smear 34 = .ok (.invokevirtual 135, 3) := by decide +kernel
theorem dX10_smear_37 : decode cX10_smear 37 = .ok (.goto 9, 3) := by decide +kernel
theorem dX10_smear_40 : decode cX10_smear 40 = .ok (.aload_n 0, 1) := by decide +kernel
theorem dX10_smear_41 : decode cX10_smear 41 = .ok (.iload 4, 2) := by decide +kernel
theorem dX10_smear_43 : decode cX10_smear 43 = .ok (.invokevirtual 98, 3) := by decide +kernel
theorem dX10_smear_46 : decode cX10_smear 46 = .ok (.ireturn, 1) := by decide +kernel
theorem dX10_beats_0 : decode cX10_beats 0 = .ok (.aload_n 0, 1) := by decide +kernel
theorem dX10_beats_1 : decode cX10_beats 1 = .ok (.invokevirtual 315, 3) := by decide +kernel
theorem dX10_beats_4 : decode cX10_beats 4 = .ok (.istore_n 1, 1) := by decide +kernel
theorem dX10_beats_5 : decode cX10_beats 5 = .ok (.iload_n 1, 1) := by decide +kernel
theorem dX10_beats_6 : decode cX10_beats 6 = .ok (.ifCond .ne 14, 3) := by decide +kernel
theorem dX10_beats_9 : decode cX10_beats 9 = .ok (.aload_n 0, 1) := by decide +kernel
theorem dX10_beats_10 : decode cX10_beats 10 = .ok (.aload_n 0, 1) := by decide +kernel
theorem dX10_beats_11 : decode cX10_beats 11 = .ok (.invokevirtual 318, 3) := by decide +kernel
theorem dX10_beats_14 : decode cX10_beats 14 = .ok (.invokevirtual 135, 3) := by decide +kernel
theorem dX10_beats_17 : decode cX10_beats 17 = .ok (.goto 8, 3) := by decide +kernel
theorem dX10_beats_20 : decode cX10_beats 20 = .ok (.aload_n 0, 1) := by decide +kernel
theorem dX10_beats_21 : decode cX10_beats 21 = .ok (.iload_n 1, 1) := by decide +kernel
theorem dX10_beats_22 : decode cX10_beats 22 = .ok (.invokevirtual 98, 3) := by decide +kernel
theorem dX10_beats_25 : decode cX10_beats 25 = .ok (.ireturn, 1) := by decide +kernel
theorem dX10_calm_0 : decode cX10_calm 0 = .ok (.aload_n 0, 1) := by decide +kernel
theorem dX10_calm_1 : decode cX10_calm 1 = .ok (.invokevirtual 315, 3) := by decide +kernel
theorem dX10_calm_4 : decode cX10_calm 4 = .ok (.istore_n 1, 1) := by decide +kernel
theorem dX10_calm_5 : decode cX10_calm 5 = .ok (.iload_n 1, 1) := by decide +kernel
theorem dX10_calm_6 : decode cX10_calm 6 = .ok (.ifCond .eq 9, 3) := by decide +kernel
theorem dX10_calm_9 : decode cX10_calm 9 = .ok (.aload_n 0, 1) := by decide +kernel
theorem dX10_calm_10 : decode cX10_calm 10 = .ok (.iload_n 1, 1) := by decide +kernel
theorem dX10_calm_11 : decode cX10_calm 11 = .ok (.invokevirtual 98, 3) := by decide +kernel
theorem dX10_calm_14 : decode cX10_calm 14 = .ok (.ireturn, 1) := by decide +kernel
theorem dX10_calm_15 : decode cX10_calm 15 = .ok (.aload_n 0, 1) := by decide +kernel
theorem dX10_calm_16 : decode cX10_calm 16 = .ok (.invokevirtual 321, 3) := by decide +kernel
theorem dX10_calm_19 : decode cX10_calm 19 = .ok (.aload_n 0, 1) := by decide +kernel
theorem dX10_calm_20 : decode cX10_calm 20 = .ok (.aload_n 0, 1) := by decide +kernel
theorem dX10_calm_21 : decode cX10_calm 21 = .ok (.getfield 82, 3) := by decide +kernel
theorem dX10_calm_24 : decode cX10_calm 24 = .ok (.getfield 324, 3) := by decide +kernel
theorem dX10_calm_27 : decode cX10_calm 27 = .ok (.invokevirtual 135, 3) := by decide +kernel
theorem dX10_calm_30 : decode cX10_calm 30 = .ok (.ireturn, 1) := by decide +kernel
theorem dX10_calmAt_0 : decode cX10_calmAt 0 = .ok (.aload_n 0, 1) := by decide +kernel
theorem dX10_calmAt_1 : decode cX10_calmAt 1 = .ok (.invokevirtual 315, 3) := by decide +kernel
theorem dX10_calmAt_4 : decode cX10_calmAt 4 = .ok (.istore_n 2, 1) := by decide +kernel
theorem dX10_calmAt_5 : decode cX10_calmAt 5 = .ok (.iload_n 2, 1) := by decide +kernel
theorem dX10_calmAt_6 : decode cX10_calmAt 6 = .ok (.ifCond .eq 9, 3) := by decide +kernel
theorem dX10_calmAt_9 : decode cX10_calmAt 9 = .ok (.aload_n 0, 1) := by decide +kernel
theorem dX10_calmAt_10 : decode cX10_calmAt 10 = .ok (.iload_n 2, 1) := by decide +kernel
theorem dX10_calmAt_11 : decode cX10_calmAt 11 = .ok (.invokevirtual 98, 3) := by decide +kernel
theorem dX10_calmAt_14 : decode cX10_calmAt 14 = .ok (.ireturn, 1) := by decide +kernel
theorem dX10_calmAt_15 : decode cX10_calmAt 15 = .ok (.iload_n 1, 1) := by decide +kernel
theorem dX10_calmAt_16 : decode cX10_calmAt 16 = .ok (.ifCond .lt 14, 3) := by decide +kernel
theorem dX10_calmAt_19 : decode cX10_calmAt 19 = .ok (.iload_n 1, 1) := by decide +kernel
theorem dX10_calmAt_20 : decode cX10_calmAt 20 = .ok (.aload_n 0, 1) := by decide +kernel
theorem dX10_calmAt_21 : decode cX10_calmAt 21 = .ok (.getfield 26, 3) := by decide +kernel
theorem dX10_calmAt_24 : decode cX10_calmAt 24 = .ok (.getfield 327, 3) := by decide +kernel
theorem dX10_calmAt_27 : decode cX10_calmAt 27 = .ok (.if_icmp .lt 9, 3) := by decide +kernel
theorem dX10_calmAt_30 : decode cX10_calmAt 30 = .ok (.aload_n 0, 1) := by decide +kernel
theorem dX10_calmAt_31 : decode cX10_calmAt 31 = .ok (.iconst 1, 1) := by decide +kernel
theorem dX10_calmAt_32 : decode cX10_calmAt 32 = .ok (.invokevirtual 98, 3) := by decide +kernel
theorem dX10_calmAt_35 : decode cX10_calmAt 35 = .ok (.ireturn, 1) := by decide +kernel
theorem dX10_calmAt_36 : decode cX10_calmAt 36 = .ok (.aload_n 0, 1) := by decide +kernel
theorem dX10_calmAt_37 : decode cX10_calmAt 37 = .ok (.invokevirtual 321, 3) := by decide +kernel
theorem dX10_calmAt_40 : decode cX10_calmAt 40 = .ok (.aload_n 0, 1) := by decide +kernel
theorem dX10_calmAt_41 : decode cX10_calmAt 41 = .ok (.aload_n 0, 1) := by decide +kernel
theorem dX10_calmAt_42 : decode cX10_calmAt 42 = .ok (.getfield 82, 3) := by decide +kernel
theorem dX10_calmAt_45 : decode cX10_calmAt 45 = .ok (.getfield 330, 3) := by decide +kernel
theorem dX10_calmAt_48 : decode cX10_calmAt 48 = .ok (.iload_n 1, 1) := by decide +kernel
theorem dX10_calmAt_49 : decode cX10_calmAt 49 = .ok (.iaload, 1) := by decide +kernel
theorem dX10_calmAt_50 : decode cX10_calmAt 50 = .ok (.invokevirtual 135, 3) := by decide +kernel
theorem dX10_calmAt_53 : decode cX10_calmAt 53 = .ok (.ireturn, 1) := by decide +kernel
theorem dX10_flutters_0 : decode cX10_flutters 0 = .ok (.aload_n 0, 1) := by decide +kernel
theorem dX10_flutters_1 : decode cX10_flutters 1 = .ok (.iload_n 1, 1) := by decide +kernel
theorem dX10_flutters_2 : decode cX10_flutters 2 = .ok (.invokevirtual 213, 3) := by decide +kernel
theorem dX10_flutters_5 : decode cX10_flutters 5 = .ok (.ifCond .eq 9, 3) := by decide +kernel
theorem dX10_flutters_8 : decode cX10_flutters 8 = .ok (.aload_n 0, 1) := by decide +kernel
theorem dX10_flutters_9 : decode cX10_flutters 9 = .ok (.iconst 1, 1) := by decide +kernel
theorem dX10_flutters_10 : decode cX10_flutters 10 = .ok (.invokevirtual 98, 3) := by decide +kernel
theorem dX10_flutters_13 : decode cX10_flutters 13 = .ok (.ireturn, 1) := by decide +kernel
theorem dX10_flutters_14 : decode cX10_flutters 14 = .ok (.aload_n 0, 1) := by decide +kernel
theorem dX10_flutters_15 : decode cX10_flutters 15 = .ok (.getfield 26, 3) := by decide +kernel
theorem dX10_flutters_18 : decode cX10_flutters 18 = .ok (.getfield 327, 3) := by decide +kernel
theorem dX10_flutters_21 : decode cX10_flutters 21 = .ok (.ifCond .ne 10, 3) := by decide +kernel
theorem dX10_flutters_24 : decode cX10_flutters 24 = .ok (.aload_n 0, 1) := by decide +kernel
theorem dX10_flutters_25 : decode cX10_flutters 25 = .ok (.bipush 6, 2) := by decide +kernel
theorem dX10_flutters_27 : decode cX10_flutters 27 = .ok (.invokevirtual 98, 3) := by decide +kernel
theorem dX10_flutters_30 : decode cX10_flutters 30 = .ok (.ireturn, 1) := by decide +kernel
theorem dX10_flutters_31 : decode cX10_flutters 31 = .ok (.iconst 0, 1) := by decide +kernel
theorem dX10_flutters_32 : decode cX10_flutters 32 = .ok (.istore_n 2, 1) := by decide +kernel
theorem dX10_flutters_33 : decode cX10_flutters 33 = .ok (.iconst 0, 1) := by decide +kernel
theorem dX10_flutters_34 : decode cX10_flutters 34 = .ok (.istore_n 3, 1) := by decide +kernel
theorem dX10_flutters_35 : decode cX10_flutters 35 = .ok (.iload_n 3, 1) := by decide +kernel
theorem dX10_flutters_36 : decode cX10_flutters 36 = .ok (.aload_n 0, 1) := by decide +kernel
theorem dX10_flutters_37 : decode cX10_flutters 37 = .ok (.getfield 26, 3) := by decide +kernel
theorem dX10_flutters_40 : decode cX10_flutters 40 = .ok (.getfield 327, 3) := by decide +kernel
theorem dX10_flutters_43 : decode cX10_flutters 43 = .ok (.if_icmp .ge 48, 3) := by decide +kernel
theorem dX10_flutters_46 : decode cX10_flutters 46 = .ok (.aload_n 0, 1) := by decide +kernel
theorem dX10_flutters_47 : decode cX10_flutters 47 = .ok (.iconst 0, 1) := by decide +kernel
theorem dX10_flutters_48 : decode cX10_flutters 48 = .ok (.aload_n 0, 1) := by decide +kernel
theorem dX10_flutters_49 : decode cX10_flutters 49 = .ok (.getfield 26, 3) := by decide +kernel
theorem dX10_flutters_52 : decode cX10_flutters 52 = .ok (.getfield 333, 3) := by decide +kernel
theorem dX10_flutters_55 : decode cX10_flutters 55 = .ok (.iload_n 3, 1) := by decide +kernel
theorem dX10_flutters_56 : decode cX10_flutters 56 = .ok (.iaload, 1) := by decide +kernel
theorem dX10_flutters_57 : decode cX10_flutters 57 = .ok (.invokevirtual 170, 3) := by decide +kernel
theorem dX10_flutters_60 : decode cX10_flutters 60 = .ok (.aload_n 0, 1) := by decide +kernel
theorem dX10_flutters_61 : decode cX10_flutters 61 = .ok (.getfield 51, 3) := by decide +kernel
theorem dX10_flutters_64 : decode cX10_flutters 64 = .ok (.aload_n 0, 1) := by decide +kernel
theorem dX10_flutters_65 : decode cX10_flutters 65 = .ok (.getfield 26, 3) := by decide +kernel
theorem dX10_flutters_68 : decode cX10_flutters 68 = .ok (.getfield 202, 3) := by decide +kernel
theorem dX10_flutters_71 : decode cX10_flutters 71 = .ok (.iload_n 1, 1) := by decide +kernel
theorem dX10_flutters_72 : decode cX10_flutters 72 = .ok (.aaload, 1) := by decide +kernel
theorem dX10_flutters_73 : decode cX10_flutters 73 = .ok (.invokevirtual 226, 3) := by decide +kernel
theorem dX10_flutters_76 : decode cX10_flutters 76 = .ok (.ifCond .eq 9, 3) := by decide +kernel
theorem dX10_flutters_79 : decode cX10_flutters 79 = .ok (.iload_n 2, 1) := by decide +kernel
theorem dX10_flutters_80 : decode cX10_flutters 80 = .ok (.iconst 1, 1) := by decide +kernel
theorem dX10_flutters_81 : decode cX10_flutters 81 = .ok (.iload_n 3, 1) := by decide +kernel
theorem dX10_flutters_82 : decode cX10_flutters 82 = .ok (.ishl, 1) := by decide +kernel
theorem dX10_flutters_83 : decode cX10_flutters 83 = .ok (.ior, 1) := by decide +kernel
theorem dX10_flutters_84 : decode cX10_flutters 84 = .ok (.istore_n 2, 1) := by decide +kernel
theorem dX10_flutters_85 : decode cX10_flutters 85 = .ok (.iinc 3 1, 3) := by decide +kernel
theorem dX10_flutters_88 : decode cX10_flutters 88 = .ok (.goto (-53), 3) := by decide +kernel
theorem dX10_flutters_91 : decode cX10_flutters 91 = .ok (.aload_n 0, 1) := by decide +kernel
theorem dX10_flutters_92 : decode cX10_flutters 92 = .ok (.iload_n 2, 1) := by decide +kernel
theorem dX10_flutters_93 : decode cX10_flutters 93 = .ok (.invokevirtual 135, 3) := by decide +kernel
theorem dX10_flutters_96 : decode cX10_flutters 96 = .ok (.ireturn, 1) := by decide +kernel
theorem dX10_paint_0 : decode cX10_paint 0 = .ok (.aload_n 0, 1) := by decide +kernel
theorem dX10_paint_1 : decode cX10_paint 1 = .ok (.iload_n 1, 1) := by decide +kernel
theorem dX10_paint_2 : decode cX10_paint 2 = .ok (.iload_n 2, 1) := by decide +kernel
theorem dX10_paint_3 : decode cX10_paint 3 = .ok (.iload_n 3, 1) := by decide +kernel
theorem dX10_paint_4 : decode cX10_paint 4 = .ok (.invokevirtual 147, 3) := by decide +kernel
theorem dX10_paint_7 : decode cX10_paint 7 = .ok (.ifCond .eq 9, 3) := by decide +kernel
theorem dX10_paint_10 : decode cX10_paint 10 = .ok (.aload_n 0, 1) := by decide +kernel
theorem dX10_paint_11 : decode cX10_paint 11 = .ok (.iconst 1, 1) := by decide +kernel
theorem dX10_paint_12 : decode cX10_paint 12 = .ok (.invokevirtual 336, 3) := by decide +kernel
theorem dX10_paint_15 : decode cX10_paint 15 = .ok (.ireturn, 1) := by decide +kernel
theorem dX10_paint_16 : decode cX10_paint 16 = .ok (.iload 4, 2) := by decide +kernel
theorem dX10_paint_18 : decode cX10_paint 18 = .ok (.ifCond .lt 10, 3) := by decide +kernel
theorem dX10_paint_21 : decode cX10_paint 21 = .ok (.iload 4, 2) := by decide +kernel
theorem dX10_paint_23 : decode cX10_paint 23 = .ok (.bipush 25, 2) := by decide +kernel
theorem dX10_paint_25 : decode cX10_paint 25 = .ok (.if_icmp .le 9, 3) := by decide +kernel
theorem dX10_paint_28 : decode cX10_paint 28 = .ok (.aload_n 0, 1) := by decide +kernel
theorem dX10_paint_29 : decode cX10_paint 29 = .ok (.iconst 2, 1) := by decide +kernel
theorem dX10_paint_30 : decode cX10_paint 30 = .ok (.invokevirtual 336, 3) := by decide +kernel
theorem dX10_paint_33 : decode cX10_paint 33 = .ok (.ireturn, 1) := by decide +kernel
theorem dX10_paint_34 : decode cX10_paint 34 = .ok (.iload_n 1, 1) := by decide +kernel
theorem dX10_paint_35 : decode cX10_paint 35 = .ok (.aload_n 0, 1) := by decide +kernel
theorem dX10_paint_36 : decode cX10_paint 36 = .ok (.getfield 26, 3) := by decide +kernel
theorem dX10_paint_39 : decode cX10_paint 39 = .ok (.getfield 151, 3) := by decide +kernel
theorem dX10_paint_42 : decode cX10_paint 42 = .ok (.iload_n 2, 1) := by decide +kernel
theorem dX10_paint_43 : decode cX10_paint 43 = .ok (.imul, 1) := by decide +kernel
theorem dX10_paint_44 : decode cX10_paint 44 = .ok (.iload_n 3, 1) := by decide +kernel
theorem dX10_paint_45 : decode cX10_paint 45 = .ok (.iadd, 1) := by decide +kernel
theorem dX10_paint_46 : decode cX10_paint 46 = .ok (.invokestatic 339, 3) := by decide +kernel
theorem dX10_paint_49 : decode cX10_paint 49 = .ok (.istore 5, 2) := by decide +kernel
theorem dX10_paint_51 : decode cX10_paint 51 = .ok (.aload_n 0, 1) := by decide +kernel
theorem dX10_paint_52 : decode cX10_paint 52 = .ok (.getfield 33, 3) := by decide +kernel
theorem dX10_paint_55 : decode cX10_paint 55 = .ok (.getfield 342, 3) := by decide +kernel
theorem dX10_paint_58 : decode cX10_paint 58 = .ok (.iload 5, 2) := by decide +kernel
theorem dX10_paint_60 : decode cX10_paint 60 = .ok (.iaload, 1) := by decide +kernel
theorem dX10_paint_61 : decode cX10_paint 61 = .ok (.iload 4, 2) := by decide +kernel
theorem dX10_paint_63 : decode cX10_paint 63 = .ok (.if_icmp .ne 9, 3) := by decide +kernel
theorem dX10_paint_66 : decode cX10_paint 66 = .ok (.aload_n 0, 1) := by decide +kernel
theorem dX10_paint_67 : decode cX10_paint 67 = .ok (.iconst 5, 1) := by decide +kernel
theorem dX10_paint_68 : decode cX10_paint 68 = .ok (.invokevirtual 336, 3) := by decide +kernel
theorem dX10_paint_71 : decode cX10_paint 71 = .ok (.ireturn, 1) := by decide +kernel
theorem dX10_paint_72 : decode cX10_paint 72 = .ok (.aload_n 0, 1) := by decide +kernel
theorem dX10_paint_73 : decode cX10_paint 73 = .ok (.getfield 44, 3) := by decide +kernel
theorem dX10_paint_76 : decode cX10_paint 76 = .ok (.iconst 0, 1) := by decide +kernel
theorem dX10_paint_77 : decode cX10_paint 77 = .ok (.iload 5, 2) := by decide +kernel
theorem dX10_paint_79 : decode cX10_paint 79 = .ok (.aload_n 0, 1) := by decide +kernel
theorem dX10_paint_80 : decode cX10_paint 80 = .ok (.getfield 33, 3) := by decide +kernel
theorem dX10_paint_83 : decode cX10_paint 83 = .ok (.getfield 342, 3) := by decide +kernel
theorem dX10_paint_86 : decode cX10_paint 86 = .ok (.iload 5, 2) := by decide +kernel
theorem dX10_paint_88 : decode cX10_paint 88 = .ok (.iaload, 1) := by decide +kernel
theorem dX10_paint_89 : decode cX10_paint 89 = .ok (.invokevirtual 343, 3) := by decide +kernel
theorem dX10_paint_92 : decode cX10_paint 92 = .ok (.aload_n 0, 1) := by decide +kernel
theorem dX10_paint_93 : decode cX10_paint 93 = .ok (.getfield 33, 3) := by decide +kernel
theorem dX10_paint_96 : decode cX10_paint 96 = .ok (.getfield 342, 3) := by decide +kernel
theorem dX10_paint_99 : decode cX10_paint 99 = .ok (.iload 5, 2) := by decide +kernel
theorem dX10_paint_101 : decode cX10_paint 101 = .ok (.iload 4, 2) := by decide +kernel
theorem dX10_paint_103 : decode cX10_paint 103 = .ok (.iastore, 1) := by decide +kernel
theorem dX10_paint_104 : decode cX10_paint 104 = .ok (.aload_n 0, 1) := by decide +kernel
theorem dX10_paint_105 : decode cX10_paint 105 = .ok (.invokevirtual 347, 3) := by decide +kernel
theorem dX10_paint_108 : decode cX10_paint 108 = .ok (.ireturn, 1) := by decide +kernel
theorem dX10_breaks_0 : decode cX10_breaks 0 = .ok (.aload_n 0, 1) := by decide +kernel
theorem dX10_breaks_1 : decode cX10_breaks 1 = .ok (.iload_n 1, 1) := by decide +kernel
theorem dX10_breaks_2 : decode cX10_breaks 2 = .ok (.invokevirtual 161, 3) := by decide +kernel
theorem dX10_breaks_5 : decode cX10_breaks 5 = .ok (.ifCond .eq 9, 3) := by decide +kernel
theorem dX10_breaks_8 : decode cX10_breaks 8 = .ok (.aload_n 0, 1) := by decide +kernel
theorem dX10_breaks_9 : decode cX10_breaks 9 = .ok (.iconst 1, 1) := by decide +kernel
theorem dX10_breaks_10 : decode cX10_breaks 10 = .ok (.invokevirtual 336, 3) := by decide +kernel
theorem dX10_breaks_13 : decode cX10_breaks 13 = .ok (.ireturn, 1) := by decide +kernel
theorem dX10_breaks_14 : decode cX10_breaks 14 = .ok (.aload_n 0, 1) := by decide +kernel
theorem dX10_breaks_15 : decode cX10_breaks 15 = .ok (.getfield 33, 3) := by decide +kernel
theorem dX10_breaks_18 : decode cX10_breaks 18 = .ok (.iload_n 1, 1) := by decide +kernel
theorem dX10_breaks_19 : decode cX10_breaks 19 = .ok (.invokevirtual 164, 3) := by decide +kernel
theorem dX10_breaks_22 : decode cX10_breaks 22 = .ok (.iload_n 2, 1) := by decide +kernel
theorem dX10_breaks_23 : decode cX10_breaks 23 = .ok (.if_icmp .ne 9, 3) := by decide +kernel
theorem dX10_breaks_26 : decode cX10_breaks 26 = .ok (.aload_n 0, 1) := by decide +kernel
theorem dX10_breaks_27 : decode cX10_breaks 27 = .ok (.iconst 5, 1) := by decide +kernel
theorem dX10_breaks_28 : decode cX10_breaks 28 = .ok (.invokevirtual 336, 3) := by decide +kernel
theorem dX10_breaks_31 : decode cX10_breaks 31 = .ok (.ireturn, 1) := by decide +kernel
theorem dX10_breaks_32 : decode cX10_breaks 32 = .ok (.aload_n 0, 1) := by decide +kernel
theorem dX10_breaks_33 : decode cX10_breaks 33 = .ok (.getfield 44, 3) := by decide +kernel
theorem dX10_breaks_36 : decode cX10_breaks 36 = .ok (.iconst 1, 1) := by decide +kernel
theorem dX10_breaks_37 : decode cX10_breaks 37 = .ok (.iconst 0, 1) := by decide +kernel
theorem dX10_breaks_38 : decode cX10_breaks 38 = .ok (.aload_n 0, 1) := by decide +kernel
theorem dX10_breaks_39 : decode cX10_breaks 39 = .ok (.getfield 33, 3) := by decide +kernel
theorem dX10_breaks_42 : decode cX10_breaks 42 = .ok (.getfield 233, 3) := by decide +kernel
theorem dX10_breaks_45 : decode cX10_breaks 45 = .ok (.invokevirtual 343, 3) := by decide +kernel
theorem dX10_breaks_48 : decode cX10_breaks 48 = .ok (.aload_n 0, 1) := by decide +kernel
theorem dX10_breaks_49 : decode cX10_breaks 49 = .ok (.getfield 33, 3) := by decide +kernel
theorem dX10_breaks_52 : decode cX10_breaks 52 = .ok (.dup, 1) := by decide +kernel
theorem dX10_breaks_53 : decode cX10_breaks 53 = .ok (.getfield 233, 3) := by decide +kernel
theorem dX10_breaks_56 : decode cX10_breaks 56 = .ok (.iconst 1, 1) := by decide +kernel
theorem dX10_breaks_57 : decode cX10_breaks 57 = .ok (.iload_n 1, 1) := by decide +kernel
theorem dX10_breaks_58 : decode cX10_breaks 58 = .ok (.ishl, 1) := by decide +kernel
theorem dX10_breaks_59 : decode cX10_breaks 59 = .ok (.ixor, 1) := by decide +kernel
theorem dX10_breaks_60 : decode cX10_breaks 60 = .ok (.putfield 233, 3) := by decide +kernel
theorem dX10_breaks_63 : decode cX10_breaks 63 = .ok (.aload_n 0, 1) := by decide +kernel
theorem dX10_breaks_64 : decode cX10_breaks 64 = .ok (.invokevirtual 347, 3) := by decide +kernel
theorem dX10_breaks_67 : decode cX10_breaks 67 = .ok (.ireturn, 1) := by decide +kernel
theorem dX10_open_0 : decode cX10_open 0 = .ok (.aload_n 0, 1) := by decide +kernel
theorem dX10_open_1 : decode cX10_open 1 = .ok (.iconst 0, 1) := by decide +kernel
theorem dX10_open_2 : decode cX10_open 2 = .ok (.iload_n 1, 1) := by decide +kernel
theorem dX10_open_3 : decode cX10_open 3 = .ok (.invokevirtual 167, 3) := by decide +kernel
theorem dX10_open_6 : decode cX10_open 6 = .ok (.istore_n 2, 1) := by decide +kernel
theorem dX10_open_7 : decode cX10_open 7 = .ok (.iload_n 2, 1) := by decide +kernel
theorem dX10_open_8 : decode cX10_open 8 = .ok (.ifCond .eq 9, 3) := by decide +kernel
theorem dX10_open_11 : decode cX10_open 11 = .ok (.aload_n 0, 1) := by decide +kernel
theorem dX10_open_12 : decode cX10_open 12 = .ok (.iload_n 2, 1) := by decide +kernel
theorem dX10_open_13 : decode cX10_open 13 = .ok (.invokevirtual 98, 3) := by decide +kernel
theorem dX10_open_16 : decode cX10_open 16 = .ok (.ireturn, 1) := by decide +kernel
theorem dX10_open_17 : decode cX10_open 17 = .ok (.aload_n 0, 1) := by decide +kernel
theorem dX10_open_18 : decode cX10_open 18 = .ok (.getfield 33, 3) := by decide +kernel
theorem dX10_open_21 : decode cX10_open 21 = .ok (.getfield 351, 3) := by decide +kernel
theorem dX10_open_24 : decode cX10_open 24 = .ok (.iload_n 1, 1) := by decide +kernel
theorem dX10_open_25 : decode cX10_open 25 = .ok (.if_icmp .ne 9, 3) := by decide +kernel
theorem dX10_open_28 : decode cX10_open 28 = .ok (.aload_n 0, 1) := by decide +kernel
theorem dX10_open_29 : decode cX10_open 29 = .ok (.iconst 5, 1) := by decide +kernel
theorem dX10_open_30 : decode cX10_open 30 = .ok (.invokevirtual 98, 3) := by decide +kernel
theorem dX10_open_33 : decode cX10_open 33 = .ok (.ireturn, 1) := by decide +kernel
theorem dX10_open_34 : decode cX10_open 34 = .ok (.aload_n 0, 1) := by decide +kernel
theorem dX10_open_35 : decode cX10_open 35 = .ok (.iload_n 1, 1) := by decide +kernel
theorem dX10_open_36 : decode cX10_open 36 = .ok (.invokevirtual 354, 3) := by decide +kernel
theorem dX10_open_39 : decode cX10_open 39 = .ok (.aload_n 0, 1) := by decide +kernel
theorem dX10_open_40 : decode cX10_open 40 = .ok (.iconst 0, 1) := by decide +kernel
theorem dX10_open_41 : decode cX10_open 41 = .ok (.iload_n 1, 1) := by decide +kernel
theorem dX10_open_42 : decode cX10_open 42 = .ok (.invokevirtual 170, 3) := by decide +kernel
theorem dX10_open_45 : decode cX10_open 45 = .ok (.aload_n 0, 1) := by decide +kernel
theorem dX10_open_46 : decode cX10_open 46 = .ok (.aload_n 0, 1) := by decide +kernel
theorem dX10_open_47 : decode cX10_open 47 = .ok (.getfield 51, 3) := by decide +kernel
theorem dX10_open_50 : decode cX10_open 50 = .ok (.getfield 174, 3) := by decide +kernel
theorem dX10_open_53 : decode cX10_open 53 = .ok (.invokevirtual 135, 3) := by decide +kernel
theorem dX10_open_56 : decode cX10_open 56 = .ok (.ireturn, 1) := by decide +kernel
theorem dX10_flutter_0 : decode cX10_flutter 0 = .ok (.aload_n 0, 1) := by decide +kernel
theorem dX10_flutter_1 : decode cX10_flutter 1 = .ok (.invokevirtual 315, 3) := by decide +kernel
theorem dX10_flutter_4 : decode cX10_flutter 4 = .ok (.istore_n 1, 1) := by decide +kernel
theorem dX10_flutter_5 : decode cX10_flutter 5 = .ok (.iload_n 1, 1) := by decide +kernel
theorem dX10_flutter_6 : decode cX10_flutter 6 = .ok (.ifCond .eq 9, 3) := by decide +kernel
theorem dX10_flutter_9 : decode cX10_flutter 9 = .ok (.aload_n 0, 1) := by decide +kernel
theorem dX10_flutter_10 : decode cX10_flutter 10 = .ok (.iload_n 1, 1) := by decide +kernel
theorem dX10_flutter_11 : decode cX10_flutter 11 = .ok (.invokevirtual 98, 3) := by decide +kernel
theorem dX10_flutter_14 : decode cX10_flutter 14 = .ok (.ireturn, 1) := by decide +kernel
theorem dX10_flutter_15 : decode cX10_flutter 15 = .ok (.aload_n 0, 1) := by decide +kernel
theorem dX10_flutter_16 : decode cX10_flutter 16 = .ok (.iconst 0, 1) := by decide +kernel
theorem dX10_flutter_17 : decode cX10_flutter 17 = .ok (.aload_n 0, 1) := by decide +kernel
theorem dX10_flutter_18 : decode cX10_flutter 18 = .ok (.getfield 33, 3) := by decide +kernel
theorem dX10_flutter_21 : decode cX10_flutter 21 = .ok (.getfield 351, 3) := by decide +kernel
theorem dX10_flutter_24 : decode cX10_flutter 24 = .ok (.aload_n 0, 1) := by decide +kernel
theorem dX10_flutter_25 : decode cX10_flutter 25 = .ok (.getfield 26, 3) := by decide +kernel
theorem dX10_flutter_28 : decode cX10_flutter 28 = .ok (.getfield 333, 3) := by decide +kernel
theorem dX10_flutter_31 : decode cX10_flutter 31 = .ok (.iconst 0, 1) := by decide +kernel
theorem dX10_flutter_32 : decode cX10_flutter 32 = .ok (.iaload, 1) := by decide +kernel
theorem dX10_flutter_33 : decode cX10_flutter 33 = .ok (.invokevirtual 312, 3) := by decide +kernel
theorem dX10_flutter_36 : decode cX10_flutter 36 = .ok (.aload_n 0, 1) := by decide +kernel
theorem dX10_flutter_37 : decode cX10_flutter 37 = .ok (.invokevirtual 318, 3) := by decide +kernel
theorem dX10_flutter_40 : decode cX10_flutter 40 = .ok (.iadd, 1) := by decide +kernel
theorem dX10_flutter_41 : decode cX10_flutter 41 = .ok (.istore_n 2, 1) := by decide +kernel
theorem dX10_flutter_42 : decode cX10_flutter 42 = .ok (.aload_n 0, 1) := by decide +kernel
theorem dX10_flutter_43 : decode cX10_flutter 43 = .ok (.aload_n 0, 1) := by decide +kernel
theorem dX10_flutter_44 : decode cX10_flutter 44 = .ok (.getfield 26, 3) := by decide +kernel
theorem dX10_flutter_47 : decode cX10_flutter 47 = .ok (.getfield 333, 3) := by decide +kernel
theorem dX10_flutter_50 : decode cX10_flutter 50 = .ok (.aload_n 0, 1) := by decide +kernel
theorem dX10_flutter_51 : decode cX10_flutter 51 = .ok (.getfield 26, 3) := by decide +kernel
theorem dX10_flutter_54 : decode cX10_flutter 54 = .ok (.getfield 327, 3) := by decide +kernel
theorem dX10_flutter_57 : decode cX10_flutter 57 = .ok (.iconst 1, 1) := by decide +kernel
theorem dX10_flutter_58 : decode cX10_flutter 58 = .ok (.isub, 1) := by decide +kernel
theorem dX10_flutter_59 : decode cX10_flutter 59 = .ok (.iaload, 1) := by decide +kernel
theorem dX10_flutter_60 : decode cX10_flutter 60 = .ok (.invokevirtual 354, 3) := by decide +kernel
theorem dX10_flutter_63 : decode cX10_flutter 63 = .ok (.aload_n 0, 1) := by decide +kernel
theorem dX10_flutter_64 : decode cX10_flutter 64 = .ok (.iload_n 2, 1) := by decide +kernel
theorem dX10_flutter_65 : decode cX10_flutter 65 = .ok (.invokevirtual 135, 3) := by decide +kernel
theorem dX10_flutter_68 : decode cX10_flutter 68 = .ok (.ireturn, 1) := by decide +kernel
theorem dX10_undo_0 : decode cX10_undo 0 = .ok (.aload_n 0, 1) := by decide +kernel
theorem dX10_undo_1 : decode cX10_undo 1 = .ok (.getfield 44, 3) := by decide +kernel
theorem dX10_undo_4 : decode cX10_undo 4 = .ok (.aload_n 0, 1) := by decide +kernel
theorem dX10_undo_5 : decode cX10_undo 5 = .ok (.getfield 33, 3) := by decide +kernel
theorem dX10_undo_8 : decode cX10_undo 8 = .ok (.invokevirtual 357, 3) := by decide +kernel
theorem dX10_undo_11 : decode cX10_undo 11 = .ok (.ifCond .eq 10, 3) := by decide +kernel
theorem dX10_undo_14 : decode cX10_undo 14 = .ok (.aload_n 0, 1) := by decide +kernel
theorem dX10_undo_15 : decode cX10_undo 15 = .ok (.invokevirtual 347, 3) := by decide +kernel
theorem dX10_undo_18 : decode cX10_undo 18 = .ok (.goto 9, 3) := by decide +kernel
theorem dX10_undo_21 : decode cX10_undo 21 = .ok (.aload_n 0, 1) := by decide +kernel
theorem dX10_undo_22 : decode cX10_undo 22 = .ok (.bipush 6, 2) := by decide +kernel
theorem dX10_undo_24 : decode cX10_undo 24 = .ok (.invokevirtual 336, 3) := by decide +kernel
theorem dX10_undo_27 : decode cX10_undo 27 = .ok (.ireturn, 1) := by decide +kernel
theorem dX10_image_0 : decode cX10_image 0 = .ok (.aload_n 0, 1) := by decide +kernel
theorem dX10_image_1 : decode cX10_image 1 = .ok (.getfield 110, 3) := by decide +kernel
theorem dX10_image_4 : decode cX10_image 4 = .ok (.ifCond .ne 9, 3) := by decide +kernel
theorem dX10_image_7 : decode cX10_image 7 = .ok (.aload_n 0, 1) := by decide +kernel
theorem dX10_image_8 : decode cX10_image 8 = .ok (.iconst 1, 1) := by decide +kernel
theorem dX10_image_9 : decode cX10_image 9 = .ok (.invokevirtual 98, 3) := by decide +kernel
theorem dX10_image_12 : decode cX10_image 12 = .ok (.ireturn, 1) := by decide +kernel
theorem dX10_image_13 : decode cX10_image 13 = .ok (.aload_n 0, 1) := by decide +kernel
theorem dX10_image_14 : decode cX10_image 14 = .ok (.getfield 124, 3) := by decide +kernel
theorem dX10_image_17 : decode cX10_image 17 = .ok (.aload_n 0, 1) := by decide +kernel
theorem dX10_image_18 : decode cX10_image 18 = .ok (.getfield 37, 3) := by decide +kernel
theorem dX10_image_21 : decode cX10_image 21 = .ok (.arraylength, 1) := by decide +kernel
theorem dX10_image_22 : decode cX10_image 22 = .ok (.if_icmp .lt 9, 3) := by decide +kernel
theorem dX10_image_25 : decode cX10_image 25 = .ok (.aload_n 0, 1) := by decide +kernel
theorem dX10_image_26 : decode cX10_image 26 = .ok (.iconst 3, 1) := by decide +kernel
theorem dX10_image_27 : decode cX10_image 27 = .ok (.invokevirtual 98, 3) := by decide +kernel
theorem dX10_image_30 : decode cX10_image 30 = .ok (.ireturn, 1) := by decide +kernel
theorem dX10_image_31 : decode cX10_image 31 = .ok (.aload_n 0, 1) := by decide +kernel
theorem dX10_image_32 : decode cX10_image 32 = .ok (.getfield 37, 3) := by decide +kernel
theorem dX10_image_35 : decode cX10_image 35 = .ok (.aload_n 0, 1) := by decide +kernel
theorem dX10_image_36 : decode cX10_image 36 = .ok (.getfield 124, 3) := by decide +kernel
theorem dX10_image_39 : decode cX10_image 39 = .ok (.aaload, 1) := by decide +kernel
theorem dX10_image_40 : decode cX10_image 40 = .ok (.aload_n 0, 1) := by decide +kernel
theorem dX10_image_41 : decode cX10_image 41 = .ok (.getfield 33, 3) := by decide +kernel
theorem dX10_image_44 : decode cX10_image 44 = .ok (.invokevirtual 117, 3) := by decide +kernel
theorem dX10_image_47 : decode cX10_image 47 = .ok (.aload_n 0, 1) := by decide +kernel
theorem dX10_image_48 : decode cX10_image 48 = .ok (.dup, 1) := by decide +kernel
theorem dX10_image_49 : decode cX10_image 49 = .ok (.getfield 124, 3) := by decide +kernel
theorem dX10_image_52 : decode cX10_image 52 = .ok (.iconst 1, 1) := by decide +kernel
theorem dX10_image_53 : decode cX10_image 53 = .ok (.iadd, 1) := by decide +kernel
theorem dX10_image_54 : decode cX10_image 54 = .ok (.putfield 124, 3) := by decide +kernel
theorem dX10_image_57 : decode cX10_image 57 = .ok (.aload_n 0, 1) := by decide +kernel
theorem dX10_image_58 : decode cX10_image 58 = .ok (.aload_n 0, 1) := by decide +kernel
theorem dX10_image_59 : decode cX10_image 59 = .ok (.getfield 124, 3) := by decide +kernel
theorem dX10_image_62 : decode cX10_image 62 = .ok (.iconst 1, 1) := by decide +kernel
theorem dX10_image_63 : decode cX10_image 63 = .ok (.isub, 1) := by decide +kernel
theorem dX10_image_64 : decode cX10_image 64 = .ok (.invokevirtual 135, 3) := by decide +kernel
theorem dX10_image_67 : decode cX10_image 67 = .ok (.ireturn, 1) := by decide +kernel
theorem dX10_back_0 : decode cX10_back 0 = .ok (.iload_n 1, 1) := by decide +kernel
theorem dX10_back_1 : decode cX10_back 1 = .ok (.ifCond .lt 11, 3) := by decide +kernel
theorem dX10_back_4 : decode cX10_back 4 = .ok (.iload_n 1, 1) := by decide +kernel
theorem dX10_back_5 : decode cX10_back 5 = .ok (.aload_n 0, 1) := by decide +kernel
theorem dX10_back_6 : decode cX10_back 6 = .ok (.getfield 124, 3) := by decide +kernel
theorem dX10_back_9 : decode cX10_back 9 = .ok (.if_icmp .lt 9, 3) := by decide +kernel
theorem dX10_back_12 : decode cX10_back 12 = .ok (.aload_n 0, 1) := by decide +kernel
theorem dX10_back_13 : decode cX10_back 13 = .ok (.iconst 1, 1) := by decide +kernel
theorem dX10_back_14 : decode cX10_back 14 = .ok (.invokevirtual 336, 3) := by decide +kernel
theorem dX10_back_17 : decode cX10_back 17 = .ok (.ireturn, 1) := by decide +kernel
theorem dX10_back_18 : decode cX10_back 18 = .ok (.aload_n 0, 1) := by decide +kernel
theorem dX10_back_19 : decode cX10_back 19 = .ok (.getfield 33, 3) := by decide +kernel
theorem dX10_back_22 : decode cX10_back 22 = .ok (.aload_n 0, 1) := by decide +kernel
theorem dX10_back_23 : decode cX10_back 23 = .ok (.getfield 37, 3) := by decide +kernel
theorem dX10_back_26 : decode cX10_back 26 = .ok (.iload_n 1, 1) := by decide +kernel
theorem dX10_back_27 : decode cX10_back 27 = .ok (.aaload, 1) := by decide +kernel
theorem dX10_back_28 : decode cX10_back 28 = .ok (.invokevirtual 117, 3) := by decide +kernel
theorem dX10_back_31 : decode cX10_back 31 = .ok (.aload_n 0, 1) := by decide +kernel
theorem dX10_back_32 : decode cX10_back 32 = .ok (.getfield 44, 3) := by decide +kernel
theorem dX10_back_35 : decode cX10_back 35 = .ok (.invokevirtual 121, 3) := by decide +kernel
theorem dX10_back_38 : decode cX10_back 38 = .ok (.aload_n 0, 1) := by decide +kernel
theorem dX10_back_39 : decode cX10_back 39 = .ok (.invokevirtual 347, 3) := by decide +kernel
theorem dX10_back_42 : decode cX10_back 42 = .ok (.ireturn, 1) := by decide +kernel
theorem dX10_wish_0 : decode cX10_wish 0 = .ok (.aload_n 0, 1) := by decide +kernel
theorem dX10_wish_1 : decode cX10_wish 1 = .ok (.iload_n 1, 1) := by decide +kernel
theorem dX10_wish_2 : decode cX10_wish 2 = .ok (.invokevirtual 230, 3) := by decide +kernel
theorem dX10_wish_5 : decode cX10_wish 5 = .ok (.ifCond .ne 12, 3) := by decide +kernel
theorem dX10_wish_8 : decode cX10_wish 8 = .ok (.iload_n 2, 1) := by decide +kernel
theorem dX10_wish_9 : decode cX10_wish 9 = .ok (.ifCond .lt 8, 3) := by decide +kernel
theorem dX10_wish_12 : decode cX10_wish 12 = .ok (.iload_n 2, 1) := by decide +kernel
theorem dX10_wish_13 : decode cX10_wish 13 = .ok (.iconst 2, 1) := by decide +kernel
theorem dX10_wish_14 : decode cX10_wish 14 = .ok (.if_icmp .le 9, 3) := by decide +kernel
theorem dX10_wish_17 : decode cX10_wish 17 = .ok (.aload_n 0, 1) := by decide +kernel
theorem dX10_wish_18 : decode cX10_wish 18 = .ok (.iconst 1, 1) := by decide +kernel
theorem dX10_wish_19 : decode cX10_wish 19 = .ok (.invokevirtual 98, 3) := by decide +kernel
theorem dX10_wish_22 : decode cX10_wish 22 = .ok (.ireturn, 1) := by decide +kernel
theorem dX10_wish_23 : decode cX10_wish 23 = .ok (.aload_n 0, 1) := by decide +kernel
theorem dX10_wish_24 : decode cX10_wish 24 = .ok (.getfield 26, 3) := by decide +kernel
theorem dX10_wish_27 : decode cX10_wish 27 = .ok (.getfield 242, 3) := by decide +kernel
theorem dX10_wish_30 : decode cX10_wish 30 = .ok (.iload_n 1, 1) := by decide +kernel
theorem dX10_wish_31 : decode cX10_wish 31 = .ok (.aaload, 1) := by decide +kernel
theorem dX10_wish_32 : decode cX10_wish 32 = .ok (.astore_n 3, 1) := by decide +kernel
theorem dX10_wish_33 : decode cX10_wish 33 = .ok (.iload_n 2, 1) := by decide +kernel
theorem dX10_wish_34 : decode cX10_wish 34 = .ok (.ifCond .ne 12, 3) := by decide +kernel
theorem dX10_wish_37 : decode cX10_wish 37 = .ok (.aload_n 0, 1) := by decide +kernel
theorem dX10_wish_38 : decode cX10_wish 38 = .ok (.aload_n 3, 1) := by decide +kernel
theorem dX10_wish_39 : decode cX10_wish 39 = .ok (.getfield 361, 3) := by decide +kernel
theorem dX10_wish_42 : decode cX10_wish 42 = .ok (.invokevirtual 135, 3) := by decide +kernel
theorem dX10_wish_45 : decode cX10_wish 45 = .ok (.ireturn, 1) := by decide +kernel
theorem dX10_wish_46 : decode cX10_wish 46 = .ok (.aload_n 0, 1) := by decide +kernel
theorem dX10_wish_47 : decode cX10_wish 47 = .ok (.iload_n 2, 1) := by decide +kernel
theorem dX10_wish_48 : decode cX10_wish 48 = .ok (.iconst 1, 1) := by decide +kernel
theorem dX10_wish_49 : decode cX10_wish 49 = .ok (.if_icmp .ne 10, 3) := by decide +kernel
theorem dX10_wish_52 : decode cX10_wish 52 = .ok (.aload_n 3, 1) := by decide +kernel
theorem dX10_wish_53 : decode cX10_wish 53 = .ok (.getfield 293, 3) := by decide +kernel
theorem dX10_wish_56 : decode cX10_wish 56 = .ok (.goto 7, 3) := by decide +kernel
theorem dX10_wish_59 : decode cX10_wish 59 = .ok (.aload_n 3, 1) := by decide +kernel
theorem dX10_wish_60 : decode cX10_wish 60 = .ok (.getfield 298, 3) := by decide +kernel
theorem dX10_wish_63 : decode cX10_wish 63 = .ok (.invokevirtual 135, 3) := by decide +kernel
theorem dX10_wish_66 : decode cX10_wish 66 = .ok (.ireturn, 1) := by decide +kernel
theorem dX10_led_0 : decode cX10_led 0 = .ok (.iload_n 1, 1) := by decide +kernel
theorem dX10_led_1 : decode cX10_led 1 = .ok (.ifCond .lt 10, 3) := by decide +kernel
theorem dX10_led_4 : decode cX10_led 4 = .ok (.aload_n 0, 1) := by decide +kernel
theorem dX10_led_5 : decode cX10_led 5 = .ok (.getfield 110, 3) := by decide +kernel
theorem dX10_led_8 : decode cX10_led 8 = .ok (.ifCond .ne 7, 3) := by decide +kernel
theorem dX10_led_11 : decode cX10_led 11 = .ok (.iconst (-1), 1) := by decide +kernel
theorem dX10_led_12 : decode cX10_led 12 = .ok (.goto 8, 3) := by decide +kernel
theorem dX10_led_15 : decode cX10_led 15 = .ok (.aload_n 0, 1) := by decide +kernel
theorem dX10_led_16 : decode cX10_led 16 = .ok (.iload_n 1, 1) := by decide +kernel
theorem dX10_led_17 : decode cX10_led 17 = .ok (.invokevirtual 362, 3) := by decide +kernel
theorem dX10_led_20 : decode cX10_led 20 = .ok (.istore_n 2, 1) := by decide +kernel
theorem dX10_led_21 : decode cX10_led 21 = .ok (.iload_n 2, 1) := by decide +kernel
theorem dX10_led_22 : decode cX10_led 22 = .ok (.iconst (-1), 1) := by decide +kernel
theorem dX10_led_23 : decode cX10_led 23 = .ok (.if_icmp .ne 11, 3) := by decide +kernel
theorem dX10_led_26 : decode cX10_led 26 = .ok (.new 365, 3) := by decide +kernel
theorem dX10_led_29 : decode cX10_led 29 = .ok (.dup, 1) := by decide +kernel
theorem dX10_led_30 : decode cX10_led 30 = .ok (.invokespecial 367, 3) := by decide +kernel
theorem dX10_led_33 : decode cX10_led 33 = .ok (.athrow, 1) := by decide +kernel
theorem dX10_led_34 : decode cX10_led 34 = .ok (.iload_n 2, 1) := by decide +kernel
theorem dX10_led_35 : decode cX10_led 35 = .ok (.ireturn, 1) := by decide +kernel
theorem dX10_size_0 : decode cX10_size 0 = .ok (.iload_n 1, 1) := by decide +kernel
theorem dX10_size_1 : decode cX10_size 1 = .ok (.tableswitch 149 0 10 #[59, 67, 75, 91, 99, 107, 115, 123, 131, 139, 144], 59) := by decide +kernel
theorem dX10_size_60 : decode cX10_size 60 = .ok (.aload_n 0, 1) := by decide +kernel
theorem dX10_size_61 : decode cX10_size 61 = .ok (.getfield 26, 3) := by decide +kernel
theorem dX10_size_64 : decode cX10_size 64 = .ok (.getfield 190, 3) := by decide +kernel
theorem dX10_size_67 : decode cX10_size 67 = .ok (.ireturn, 1) := by decide +kernel
theorem dX10_size_68 : decode cX10_size 68 = .ok (.aload_n 0, 1) := by decide +kernel
theorem dX10_size_69 : decode cX10_size 69 = .ok (.getfield 26, 3) := by decide +kernel
theorem dX10_size_72 : decode cX10_size 72 = .ok (.getfield 151, 3) := by decide +kernel
theorem dX10_size_75 : decode cX10_size 75 = .ok (.ireturn, 1) := by decide +kernel
theorem dX10_size_76 : decode cX10_size 76 = .ok (.aload_n 0, 1) := by decide +kernel
theorem dX10_size_77 : decode cX10_size 77 = .ok (.getfield 26, 3) := by decide +kernel
theorem dX10_size_80 : decode cX10_size 80 = .ok (.getfield 368, 3) := by decide +kernel
theorem dX10_size_83 : decode cX10_size 83 = .ok (.ifCond .eq 7, 3) := by decide +kernel
theorem dX10_size_86 : decode cX10_size 86 = .ok (.iconst 1, 1) := by decide +kernel
theorem dX10_size_87 : decode cX10_size 87 = .ok (.goto 4, 3) := by decide +kernel
theorem dX10_size_90 : decode cX10_size 90 = .ok (.iconst 0, 1) := by decide +kernel
theorem dX10_size_91 : decode cX10_size 91 = .ok (.ireturn, 1) := by decide +kernel
theorem dX10_size_92 : decode cX10_size 92 = .ok (.aload_n 0, 1) := by decide +kernel
theorem dX10_size_93 : decode cX10_size 93 = .ok (.getfield 26, 3) := by decide +kernel
theorem dX10_size_96 : decode cX10_size 96 = .ok (.getfield 223, 3) := by decide +kernel
theorem dX10_size_99 : decode cX10_size 99 = .ok (.ireturn, 1) := by decide +kernel
theorem dX10_size_100 : decode cX10_size 100 = .ok (.aload_n 0, 1) := by decide +kernel
theorem dX10_size_101 : decode cX10_size 101 = .ok (.getfield 26, 3) := by decide +kernel
theorem dX10_size_104 : decode cX10_size 104 = .ok (.getfield 371, 3) := by decide +kernel
theorem dX10_size_107 : decode cX10_size 107 = .ok (.ireturn, 1) := by decide +kernel
theorem dX10_size_108 : decode cX10_size 108 = .ok (.aload_n 0, 1) := by decide +kernel
theorem dX10_size_109 : decode cX10_size 109 = .ok (.getfield 26, 3) := by decide +kernel
theorem dX10_size_112 : decode cX10_size 112 = .ok (.getfield 287, 3) := by decide +kernel
theorem dX10_size_115 : decode cX10_size 115 = .ok (.ireturn, 1) := by decide +kernel
theorem dX10_size_116 : decode cX10_size 116 = .ok (.aload_n 0, 1) := by decide +kernel
theorem dX10_size_117 : decode cX10_size 117 = .ok (.getfield 26, 3) := by decide +kernel
theorem dX10_size_120 : decode cX10_size 120 = .ok (.getfield 327, 3) := by decide +kernel
theorem dX10_size_123 : decode cX10_size 123 = .ok (.ireturn, 1) := by decide +kernel
theorem dX10_size_124 : decode cX10_size 124 = .ok (.aload_n 0, 1) := by decide +kernel
theorem dX10_size_125 : decode cX10_size 125 = .ok (.getfield 33, 3) := by decide +kernel
theorem dX10_size_128 : decode cX10_size 128 = .ok (.getfield 351, 3) := by decide +kernel
theorem dX10_size_131 : decode cX10_size 131 = .ok (.ireturn, 1) := by decide +kernel
theorem dX10_size_132 : decode cX10_size 132 = .ok (.aload_n 0, 1) := by decide +kernel
theorem dX10_size_133 : decode cX10_size 133 = .ok (.getfield 44, 3) := by decide +kernel
theorem dX10_size_136 : decode cX10_size 136 = .ok (.getfield 374, 3) := by decide +kernel
theorem dX10_size_139 : decode cX10_size 139 = .ok (.ireturn, 1) := by decide +kernel
theorem dX10_size_140 : decode cX10_size 140 = .ok (.aload_n 0, 1) := by decide +kernel
theorem dX10_size_141 : decode cX10_size 141 = .ok (.getfield 124, 3) := by decide +kernel
theorem dX10_size_144 : decode cX10_size 144 = .ok (.ireturn, 1) := by decide +kernel
theorem dX10_size_145 : decode cX10_size 145 = .ok (.aload_n 0, 1) := by decide +kernel
theorem dX10_size_146 : decode cX10_size 146 = .ok (.getfield 90, 3) := by decide +kernel
theorem dX10_size_149 : decode cX10_size 149 = .ok (.ireturn, 1) := by decide +kernel
theorem dX10_size_150 : decode cX10_size 150 = .ok (.iconst (-1), 1) := by decide +kernel
theorem dX10_size_151 : decode cX10_size 151 = .ok (.ireturn, 1) := by decide +kernel
theorem dX10_trouble_0 : decode cX10_trouble 0 = .ok (.aload_n 0, 1) := by decide +kernel
theorem dX10_trouble_1 : decode cX10_trouble 1 = .ok (.getfield 141, 3) := by decide +kernel
theorem dX10_trouble_4 : decode cX10_trouble 4 = .ok (.ireturn, 1) := by decide +kernel
theorem dX10_answer_0 : decode cX10_answer 0 = .ok (.aload_n 0, 1) := by decide +kernel
theorem dX10_answer_1 : decode cX10_answer 1 = .ok (.iconst 0, 1) := by decide +kernel
theorem dX10_answer_2 : decode cX10_answer 2 = .ok (.putfield 141, 3) := by decide +kernel
theorem dX10_answer_5 : decode cX10_answer 5 = .ok (.iload_n 1, 1) := by decide +kernel
theorem dX10_answer_6 : decode cX10_answer 6 = .ok (.ireturn, 1) := by decide +kernel
theorem dX10_refuse_0 : decode cX10_refuse 0 = .ok (.aload_n 0, 1) := by decide +kernel
theorem dX10_refuse_1 : decode cX10_refuse 1 = .ok (.iload_n 1, 1) := by decide +kernel
theorem dX10_refuse_2 : decode cX10_refuse 2 = .ok (.putfield 141, 3) := by decide +kernel
theorem dX10_refuse_5 : decode cX10_refuse 5 = .ok (.iconst (-1), 1) := by decide +kernel
theorem dX10_refuse_6 : decode cX10_refuse 6 = .ok (.ireturn, 1) := by decide +kernel
theorem dX10_allow_0 : decode cX10_allow 0 = .ok (.aload_n 0, 1) := by decide +kernel
theorem dX10_allow_1 : decode cX10_allow 1 = .ok (.iconst 0, 1) := by decide +kernel
theorem dX10_allow_2 : decode cX10_allow 2 = .ok (.putfield 141, 3) := by decide +kernel
theorem dX10_allow_5 : decode cX10_allow 5 = .ok (.iconst 1, 1) := by decide +kernel
theorem dX10_allow_6 : decode cX10_allow 6 = .ok (.ireturn, 1) := by decide +kernel
theorem dX10_deny_0 : decode cX10_deny 0 = .ok (.aload_n 0, 1) := by decide +kernel
theorem dX10_deny_1 : decode cX10_deny 1 = .ok (.iload_n 1, 1) := by decide +kernel
theorem dX10_deny_2 : decode cX10_deny 2 = .ok (.putfield 141, 3) := by decide +kernel
theorem dX10_deny_5 : decode cX10_deny 5 = .ok (.iconst 0, 1) := by decide +kernel
theorem dX10_deny_6 : decode cX10_deny 6 = .ok (.ireturn, 1) := by decide +kernel
theorem dX10_noSide_0 : decode cX10_noSide 0 = .ok (.aload_n 0, 1) := by decide +kernel
theorem dX10_noSide_1 : decode cX10_noSide 1 = .ok (.getfield 110, 3) := by decide +kernel
theorem dX10_noSide_4 : decode cX10_noSide 4 = .ok (.ifCond .eq 12, 3) := by decide +kernel
theorem dX10_noSide_7 : decode cX10_noSide 7 = .ok (.iload_n 1, 1) := by decide +kernel
theorem dX10_noSide_8 : decode cX10_noSide 8 = .ok (.ifCond .lt 8, 3) := by decide +kernel
theorem dX10_noSide_11 : decode cX10_noSide 11 = .ok (.iload_n 1, 1) := by decide +kernel
theorem dX10_noSide_12 : decode cX10_noSide 12 = .ok (.iconst 1, 1) := by decide +kernel
theorem dX10_noSide_13 : decode cX10_noSide 13 = .ok (.if_icmp .le 7, 3) := by decide +kernel
theorem dX10_noSide_16 : decode cX10_noSide 16 = .ok (.iconst 1, 1) := by decide +kernel
theorem dX10_noSide_17 : decode cX10_noSide 17 = .ok (.goto 4, 3) := by decide +kernel
theorem dX10_noSide_20 : decode cX10_noSide 20 = .ok (.iconst 0, 1) := by decide +kernel
theorem dX10_noSide_21 : decode cX10_noSide 21 = .ok (.ireturn, 1) := by decide +kernel
theorem dX10_noRib_0 : decode cX10_noRib 0 = .ok (.aload_n 0, 1) := by decide +kernel
theorem dX10_noRib_1 : decode cX10_noRib 1 = .ok (.getfield 110, 3) := by decide +kernel
theorem dX10_noRib_4 : decode cX10_noRib 4 = .ok (.ifCond .eq 18, 3) := by decide +kernel
theorem dX10_noRib_7 : decode cX10_noRib 7 = .ok (.iload_n 1, 1) := by decide +kernel
theorem dX10_noRib_8 : decode cX10_noRib 8 = .ok (.ifCond .lt 14, 3) := by decide +kernel
theorem dX10_noRib_11 : decode cX10_noRib 11 = .ok (.iload_n 1, 1) := by decide +kernel
theorem dX10_noRib_12 : decode cX10_noRib 12 = .ok (.aload_n 0, 1) := by decide +kernel
theorem dX10_noRib_13 : decode cX10_noRib 13 = .ok (.getfield 26, 3) := by decide +kernel
theorem dX10_noRib_16 : decode cX10_noRib 16 = .ok (.getfield 190, 3) := by decide +kernel
theorem dX10_noRib_19 : decode cX10_noRib 19 = .ok (.if_icmp .lt 7, 3) := by decide +kernel
theorem dX10_noRib_22 : decode cX10_noRib 22 = .ok (.iconst 1, 1) := by decide +kernel
theorem dX10_noRib_23 : decode cX10_noRib 23 = .ok (.goto 4, 3) := by decide +kernel
theorem dX10_noRib_26 : decode cX10_noRib 26 = .ok (.iconst 0, 1) := by decide +kernel
theorem dX10_noRib_27 : decode cX10_noRib 27 = .ok (.ireturn, 1) := by decide +kernel
theorem dX10_noCell_0 : decode cX10_noCell 0 = .ok (.aload_n 0, 1) := by decide +kernel
theorem dX10_noCell_1 : decode cX10_noCell 1 = .ok (.iload_n 1, 1) := by decide +kernel
theorem dX10_noCell_2 : decode cX10_noCell 2 = .ok (.invokevirtual 216, 3) := by decide +kernel
theorem dX10_noCell_5 : decode cX10_noCell 5 = .ok (.ifCond .ne 26, 3) := by decide +kernel
theorem dX10_noCell_8 : decode cX10_noCell 8 = .ok (.aload_n 0, 1) := by decide +kernel
theorem dX10_noCell_9 : decode cX10_noCell 9 = .ok (.iload_n 2, 1) := by decide +kernel
theorem dX10_noCell_10 : decode cX10_noCell 10 = .ok (.invokevirtual 161, 3) := by decide +kernel
theorem dX10_noCell_13 : decode cX10_noCell 13 = .ok (.ifCond .ne 18, 3) := by decide +kernel
theorem dX10_noCell_16 : decode cX10_noCell 16 = .ok (.iload_n 3, 1) := by decide +kernel
theorem dX10_noCell_17 : decode cX10_noCell 17 = .ok (.ifCond .lt 14, 3) := by decide +kernel
theorem dX10_noCell_20 : decode cX10_noCell 20 = .ok (.iload_n 3, 1) := by decide +kernel
theorem dX10_noCell_21 : decode cX10_noCell 21 = .ok (.aload_n 0, 1) := by decide +kernel
theorem dX10_noCell_22 : decode cX10_noCell 22 = .ok (.getfield 26, 3) := by decide +kernel
theorem dX10_noCell_25 : decode cX10_noCell 25 = .ok (.getfield 151, 3) := by decide +kernel
theorem dX10_noCell_28 : decode cX10_noCell 28 = .ok (.if_icmp .lt 7, 3) := by decide +kernel
theorem dX10_noCell_31 : decode cX10_noCell 31 = .ok (.iconst 1, 1) := by decide +kernel
theorem dX10_noCell_32 : decode cX10_noCell 32 = .ok (.goto 4, 3) := by decide +kernel
theorem dX10_noCell_35 : decode cX10_noCell 35 = .ok (.iconst 0, 1) := by decide +kernel
theorem dX10_noCell_36 : decode cX10_noCell 36 = .ok (.ireturn, 1) := by decide +kernel
theorem dX10_noWord_0 : decode cX10_noWord 0 = .ok (.aload_n 0, 1) := by decide +kernel
theorem dX10_noWord_1 : decode cX10_noWord 1 = .ok (.getfield 110, 3) := by decide +kernel
theorem dX10_noWord_4 : decode cX10_noWord 4 = .ok (.ifCond .eq 18, 3) := by decide +kernel
theorem dX10_noWord_7 : decode cX10_noWord 7 = .ok (.iload_n 1, 1) := by decide +kernel
theorem dX10_noWord_8 : decode cX10_noWord 8 = .ok (.ifCond .lt 14, 3) := by decide +kernel
theorem dX10_noWord_11 : decode cX10_noWord 11 = .ok (.iload_n 1, 1) := by decide +kernel
theorem dX10_noWord_12 : decode cX10_noWord 12 = .ok (.aload_n 0, 1) := by decide +kernel
theorem dX10_noWord_13 : decode cX10_noWord 13 = .ok (.getfield 26, 3) := by decide +kernel
theorem dX10_noWord_16 : decode cX10_noWord 16 = .ok (.getfield 223, 3) := by decide +kernel
theorem dX10_noWord_19 : decode cX10_noWord 19 = .ok (.if_icmp .lt 7, 3) := by decide +kernel
theorem dX10_noWord_22 : decode cX10_noWord 22 = .ok (.iconst 1, 1) := by decide +kernel
theorem dX10_noWord_23 : decode cX10_noWord 23 = .ok (.goto 4, 3) := by decide +kernel
theorem dX10_noWord_26 : decode cX10_noWord 26 = .ok (.iconst 0, 1) := by decide +kernel
theorem dX10_noWord_27 : decode cX10_noWord 27 = .ok (.ireturn, 1) := by decide +kernel
theorem dX10_noWish_0 : decode cX10_noWish 0 = .ok (.aload_n 0, 1) := by decide +kernel
theorem dX10_noWish_1 : decode cX10_noWish 1 = .ok (.getfield 110, 3) := by decide +kernel
theorem dX10_noWish_4 : decode cX10_noWish 4 = .ok (.ifCond .eq 18, 3) := by decide +kernel
theorem dX10_noWish_7 : decode cX10_noWish 7 = .ok (.iload_n 1, 1) := by decide +kernel
theorem dX10_noWish_8 : decode cX10_noWish 8 = .ok (.ifCond .lt 14, 3) := by decide +kernel
theorem dX10_noWish_11 : decode cX10_noWish 11 = .ok (.iload_n 1, 1) := by decide +kernel
theorem dX10_noWish_12 : decode cX10_noWish 12 = .ok (.aload_n 0, 1) := by decide +kernel
theorem dX10_noWish_13 : decode cX10_noWish 13 = .ok (.getfield 26, 3) := by decide +kernel
theorem dX10_noWish_16 : decode cX10_noWish 16 = .ok (.getfield 371, 3) := by decide +kernel
theorem dX10_noWish_19 : decode cX10_noWish 19 = .ok (.if_icmp .lt 7, 3) := by decide +kernel
theorem dX10_noWish_22 : decode cX10_noWish 22 = .ok (.iconst 1, 1) := by decide +kernel
theorem dX10_noWish_23 : decode cX10_noWish 23 = .ok (.goto 4, 3) := by decide +kernel
theorem dX10_noWish_26 : decode cX10_noWish 26 = .ok (.iconst 0, 1) := by decide +kernel
theorem dX10_noWish_27 : decode cX10_noWish 27 = .ok (.ireturn, 1) := by decide +kernel
theorem dX10_wrongView_0 : decode cX10_wrongView 0 = .ok (.aload_n 0, 1) := by decide +kernel
theorem dX10_wrongView_1 : decode cX10_wrongView 1 = .ok (.iload_n 1, 1) := by decide +kernel
theorem dX10_wrongView_2 : decode cX10_wrongView 2 = .ok (.invokevirtual 216, 3) := by decide +kernel
theorem dX10_wrongView_5 : decode cX10_wrongView 5 = .ok (.ifCond .eq 5, 3) := by decide +kernel
theorem dX10_wrongView_8 : decode cX10_wrongView 8 = .ok (.iconst 1, 1) := by decide +kernel
theorem dX10_wrongView_9 : decode cX10_wrongView 9 = .ok (.ireturn, 1) := by decide +kernel
theorem dX10_wrongView_10 : decode cX10_wrongView 10 = .ok (.iload_n 2, 1) := by decide +kernel
theorem dX10_wrongView_11 : decode cX10_wrongView 11 = .ok (.ifCond .lt 14, 3) := by decide +kernel
theorem dX10_wrongView_14 : decode cX10_wrongView 14 = .ok (.iload_n 2, 1) := by decide +kernel
theorem dX10_wrongView_15 : decode cX10_wrongView 15 = .ok (.aload_n 0, 1) := by decide +kernel
theorem dX10_wrongView_16 : decode cX10_wrongView 16 = .ok (.getfield 26, 3) := by decide +kernel
theorem dX10_wrongView_19 : decode cX10_wrongView 19 = .ok (.invokevirtual 131, 3) := by decide +kernel
theorem dX10_wrongView_22 : decode cX10_wrongView 22 = .ok (.if_icmp .lt 7, 3) := by decide +kernel
theorem dX10_wrongView_25 : decode cX10_wrongView 25 = .ok (.iconst 2, 1) := by decide +kernel
theorem dX10_wrongView_26 : decode cX10_wrongView 26 = .ok (.goto 4, 3) := by decide +kernel
theorem dX10_wrongView_29 : decode cX10_wrongView 29 = .ok (.iconst 0, 1) := by decide +kernel
theorem dX10_wrongView_30 : decode cX10_wrongView 30 = .ok (.ireturn, 1) := by decide +kernel
theorem dX10_wrongReading_0 : decode cX10_wrongReading 0 = .ok (.aload_n 0, 1) := by decide +kernel
theorem dX10_wrongReading_1 : decode cX10_wrongReading 1 = .ok (.iload_n 1, 1) := by decide +kernel
theorem dX10_wrongReading_2 : decode cX10_wrongReading 2 = .ok (.invokevirtual 213, 3) := by decide +kernel
theorem dX10_wrongReading_5 : decode cX10_wrongReading 5 = .ok (.ifCond .eq 7, 3) := by decide +kernel
theorem dX10_wrongReading_8 : decode cX10_wrongReading 8 = .ok (.iconst 1, 1) := by decide +kernel
theorem dX10_wrongReading_9 : decode cX10_wrongReading 9 = .ok (.goto 9, 3) := by decide +kernel
theorem dX10_wrongReading_12 : decode cX10_wrongReading 12 = .ok (.aload_n 0, 1) := by decide +kernel
theorem dX10_wrongReading_13 : decode cX10_wrongReading 13 = .ok (.iload_n 2, 1) := by decide +kernel
theorem dX10_wrongReading_14 : decode cX10_wrongReading 14 = .ok (.iload_n 3, 1) := by decide +kernel
theorem dX10_wrongReading_15 : decode cX10_wrongReading 15 = .ok (.invokevirtual 167, 3) := by decide +kernel
theorem dX10_wrongReading_18 : decode cX10_wrongReading 18 = .ok (.ireturn, 1) := by decide +kernel
theorem dX10_wrongPlace_0 : decode cX10_wrongPlace 0 = .ok (.aload_n 0, 1) := by decide +kernel
theorem dX10_wrongPlace_1 : decode cX10_wrongPlace 1 = .ok (.iload_n 1, 1) := by decide +kernel
theorem dX10_wrongPlace_2 : decode cX10_wrongPlace 2 = .ok (.iload_n 2, 1) := by decide +kernel
theorem dX10_wrongPlace_3 : decode cX10_wrongPlace 3 = .ok (.invokevirtual 167, 3) := by decide +kernel
theorem dX10_wrongPlace_6 : decode cX10_wrongPlace 6 = .ok (.istore 4, 2) := by decide +kernel
theorem dX10_wrongPlace_8 : decode cX10_wrongPlace 8 = .ok (.iload 4, 2) := by decide +kernel
theorem dX10_wrongPlace_10 : decode cX10_wrongPlace 10 = .ok (.ifCond .eq 6, 3) := by decide +kernel
theorem dX10_wrongPlace_13 : decode cX10_wrongPlace 13 = .ok (.iload 4, 2) := by decide +kernel
theorem dX10_wrongPlace_15 : decode cX10_wrongPlace 15 = .ok (.ireturn, 1) := by decide +kernel
theorem dX10_wrongPlace_16 : decode cX10_wrongPlace 16 = .ok (.aload_n 0, 1) := by decide +kernel
theorem dX10_wrongPlace_17 : decode cX10_wrongPlace 17 = .ok (.iload_n 1, 1) := by decide +kernel
theorem dX10_wrongPlace_18 : decode cX10_wrongPlace 18 = .ok (.iload_n 2, 1) := by decide +kernel
theorem dX10_wrongPlace_19 : decode cX10_wrongPlace 19 = .ok (.invokevirtual 170, 3) := by decide +kernel
theorem dX10_wrongPlace_22 : decode cX10_wrongPlace 22 = .ok (.iload_n 3, 1) := by decide +kernel
theorem dX10_wrongPlace_23 : decode cX10_wrongPlace 23 = .ok (.ifCond .lt 14, 3) := by decide +kernel
theorem dX10_wrongPlace_26 : decode cX10_wrongPlace 26 = .ok (.iload_n 3, 1) := by decide +kernel
theorem dX10_wrongPlace_27 : decode cX10_wrongPlace 27 = .ok (.aload_n 0, 1) := by decide +kernel
theorem dX10_wrongPlace_28 : decode cX10_wrongPlace 28 = .ok (.getfield 51, 3) := by decide +kernel
theorem dX10_wrongPlace_31 : decode cX10_wrongPlace 31 = .ok (.getfield 174, 3) := by decide +kernel
theorem dX10_wrongPlace_34 : decode cX10_wrongPlace 34 = .ok (.if_icmp .lt 7, 3) := by decide +kernel
theorem dX10_wrongPlace_37 : decode cX10_wrongPlace 37 = .ok (.iconst 1, 1) := by decide +kernel
theorem dX10_wrongPlace_38 : decode cX10_wrongPlace 38 = .ok (.goto 4, 3) := by decide +kernel
theorem dX10_wrongPlace_41 : decode cX10_wrongPlace 41 = .ok (.iconst 0, 1) := by decide +kernel
theorem dX10_wrongPlace_42 : decode cX10_wrongPlace 42 = .ok (.ireturn, 1) := by decide +kernel
theorem dX10_wrongBeats_0 : decode cX10_wrongBeats 0 = .ok (.aload_n 0, 1) := by decide +kernel
theorem dX10_wrongBeats_1 : decode cX10_wrongBeats 1 = .ok (.getfield 110, 3) := by decide +kernel
theorem dX10_wrongBeats_4 : decode cX10_wrongBeats 4 = .ok (.ifCond .ne 5, 3) := by decide +kernel
theorem dX10_wrongBeats_7 : decode cX10_wrongBeats 7 = .ok (.iconst 1, 1) := by decide +kernel
theorem dX10_wrongBeats_8 : decode cX10_wrongBeats 8 = .ok (.ireturn, 1) := by decide +kernel
theorem dX10_wrongBeats_9 : decode cX10_wrongBeats 9 = .ok (.aload_n 0, 1) := by decide +kernel
theorem dX10_wrongBeats_10 : decode cX10_wrongBeats 10 = .ok (.getfield 26, 3) := by decide +kernel
theorem dX10_wrongBeats_13 : decode cX10_wrongBeats 13 = .ok (.getfield 327, 3) := by decide +kernel
theorem dX10_wrongBeats_16 : decode cX10_wrongBeats 16 = .ok (.ifCond .ne 8, 3) := by decide +kernel
theorem dX10_wrongBeats_19 : decode cX10_wrongBeats 19 = .ok (.bipush 6, 2) := by decide +kernel
theorem dX10_wrongBeats_21 : decode cX10_wrongBeats 21 = .ok (.goto 4, 3) := by decide +kernel
theorem dX10_wrongBeats_24 : decode cX10_wrongBeats 24 = .ok (.iconst 0, 1) := by decide +kernel
theorem dX10_wrongBeats_25 : decode cX10_wrongBeats 25 = .ok (.ireturn, 1) := by decide +kernel
theorem dX10_letterOrBare_0 : decode cX10_letterOrBare 0 = .ok (.iload_n 0, 1) := by decide +kernel
theorem dX10_letterOrBare_1 : decode cX10_letterOrBare 1 = .ok (.bipush 25, 2) := by decide +kernel
theorem dX10_letterOrBare_3 : decode cX10_letterOrBare 3 = .ok (.if_icmp .ne 8, 3) := by decide +kernel
theorem dX10_letterOrBare_6 : decode cX10_letterOrBare 6 = .ok (.bipush (-2), 2) := by decide +kernel
theorem dX10_letterOrBare_8 : decode cX10_letterOrBare 8 = .ok (.goto 4, 3) := by decide +kernel
theorem dX10_letterOrBare_11 : decode cX10_letterOrBare 11 = .ok (.iload_n 0, 1) := by decide +kernel
theorem dX10_letterOrBare_12 : decode cX10_letterOrBare 12 = .ok (.ireturn, 1) := by decide +kernel
theorem dX10_cellIndex_0 : decode cX10_cellIndex 0 = .ok (.iload_n 0, 1) := by decide +kernel
theorem dX10_cellIndex_1 : decode cX10_cellIndex 1 = .ok (.bipush 30, 2) := by decide +kernel
theorem dX10_cellIndex_3 : decode cX10_cellIndex 3 = .ok (.imul, 1) := by decide +kernel
theorem dX10_cellIndex_4 : decode cX10_cellIndex 4 = .ok (.iload_n 1, 1) := by decide +kernel
theorem dX10_cellIndex_5 : decode cX10_cellIndex 5 = .ok (.iadd, 1) := by decide +kernel
theorem dX10_cellIndex_6 : decode cX10_cellIndex 6 = .ok (.ireturn, 1) := by decide +kernel
theorem dX10_lookAt_0 : decode cX10_lookAt 0 = .ok (.aload_n 0, 1) := by decide +kernel
theorem dX10_lookAt_1 : decode cX10_lookAt 1 = .ok (.getfield 51, 3) := by decide +kernel
theorem dX10_lookAt_4 : decode cX10_lookAt 4 = .ok (.aload_n 0, 1) := by decide +kernel
theorem dX10_lookAt_5 : decode cX10_lookAt 5 = .ok (.getfield 26, 3) := by decide +kernel
theorem dX10_lookAt_8 : decode cX10_lookAt 8 = .ok (.aload_n 0, 1) := by decide +kernel
theorem dX10_lookAt_9 : decode cX10_lookAt 9 = .ok (.getfield 33, 3) := by decide +kernel
theorem dX10_lookAt_12 : decode cX10_lookAt 12 = .ok (.aload_n 0, 1) := by decide +kernel
theorem dX10_lookAt_13 : decode cX10_lookAt 13 = .ok (.getfield 33, 3) := by decide +kernel
theorem dX10_lookAt_16 : decode cX10_lookAt 16 = .ok (.getfield 233, 3) := by decide +kernel
theorem dX10_lookAt_19 : decode cX10_lookAt 19 = .ok (.iload_n 1, 1) := by decide +kernel
theorem dX10_lookAt_20 : decode cX10_lookAt 20 = .ok (.iload_n 2, 1) := by decide +kernel
theorem dX10_lookAt_21 : decode cX10_lookAt 21 = .ok (.invokevirtual 301, 3) := by decide +kernel
theorem dX10_lookAt_24 : decode cX10_lookAt 24 = .ok (.return_, 1) := by decide +kernel
theorem dX10_isReadIf_0 : decode cX10_isReadIf 0 = .ok (.aload_n 0, 1) := by decide +kernel
theorem dX10_isReadIf_1 : decode cX10_isReadIf 1 = .ok (.getfield 51, 3) := by decide +kernel
theorem dX10_isReadIf_4 : decode cX10_isReadIf 4 = .ok (.aload_n 0, 1) := by decide +kernel
theorem dX10_isReadIf_5 : decode cX10_isReadIf 5 = .ok (.getfield 26, 3) := by decide +kernel
theorem dX10_isReadIf_8 : decode cX10_isReadIf 8 = .ok (.aload_n 0, 1) := by decide +kernel
theorem dX10_isReadIf_9 : decode cX10_isReadIf 9 = .ok (.getfield 33, 3) := by decide +kernel
theorem dX10_isReadIf_12 : decode cX10_isReadIf 12 = .ok (.iload_n 1, 1) := by decide +kernel
theorem dX10_isReadIf_13 : decode cX10_isReadIf 13 = .ok (.iload_n 3, 1) := by decide +kernel
theorem dX10_isReadIf_14 : decode cX10_isReadIf 14 = .ok (.iload 4, 2) := by decide +kernel
theorem dX10_isReadIf_16 : decode cX10_isReadIf 16 = .ok (.invokevirtual 301, 3) := by decide +kernel
theorem dX10_isReadIf_19 : decode cX10_isReadIf 19 = .ok (.aload_n 0, 1) := by decide +kernel
theorem dX10_isReadIf_20 : decode cX10_isReadIf 20 = .ok (.getfield 51, 3) := by decide +kernel
theorem dX10_isReadIf_23 : decode cX10_isReadIf 23 = .ok (.aload_n 2, 1) := by decide +kernel
theorem dX10_isReadIf_24 : decode cX10_isReadIf 24 = .ok (.invokevirtual 226, 3) := by decide +kernel
theorem dX10_isReadIf_27 : decode cX10_isReadIf 27 = .ok (.ireturn, 1) := by decide +kernel
theorem dX10_gatherSpans_0 : decode cX10_gatherSpans 0 = .ok (.iconst 0, 1) := by decide +kernel
theorem dX10_gatherSpans_1 : decode cX10_gatherSpans 1 = .ok (.istore_n 3, 1) := by decide +kernel
theorem dX10_gatherSpans_2 : decode cX10_gatherSpans 2 = .ok (.iconst 0, 1) := by decide +kernel
theorem dX10_gatherSpans_3 : decode cX10_gatherSpans 3 = .ok (.istore 4, 2) := by decide +kernel
theorem dX10_gatherSpans_5 : decode cX10_gatherSpans 5 = .ok (.iconst 0, 1) := by decide +kernel
theorem dX10_gatherSpans_6 : decode cX10_gatherSpans 6 = .ok (.istore 5, 2) := by decide +kernel
theorem dX10_gatherSpans_8 : decode cX10_gatherSpans 8 = .ok (.iload 5, 2) := by decide +kernel
theorem dX10_gatherSpans_10 : decode cX10_gatherSpans 10 = .ok (.aload_n 0, 1) := by decide +kernel
theorem dX10_gatherSpans_11 : decode cX10_gatherSpans 11 = .ok (.getfield 26, 3) := by decide +kernel
theorem dX10_gatherSpans_14 : decode cX10_gatherSpans 14 = .ok (.invokevirtual 131, 3) := by decide +kernel
theorem dX10_gatherSpans_17 : decode cX10_gatherSpans 17 = .ok (.if_icmp .ge 70, 3) := by decide +kernel
theorem dX10_gatherSpans_20 : decode cX10_gatherSpans 20 = .ok (.aload_n 0, 1) := by decide +kernel
theorem dX10_gatherSpans_21 : decode cX10_gatherSpans 21 = .ok (.aload_n 0, 1) := by decide +kernel
theorem dX10_gatherSpans_22 : decode cX10_gatherSpans 22 = .ok (.getfield 33, 3) := by decide +kernel
theorem dX10_gatherSpans_25 : decode cX10_gatherSpans 25 = .ok (.getfield 233, 3) := by decide +kernel
theorem dX10_gatherSpans_28 : decode cX10_gatherSpans 28 = .ok (.aload_n 1, 1) := by decide +kernel
theorem dX10_gatherSpans_29 : decode cX10_gatherSpans 29 = .ok (.iload_n 2, 1) := by decide +kernel
theorem dX10_gatherSpans_30 : decode cX10_gatherSpans 30 = .ok (.iload 5, 2) := by decide +kernel
theorem dX10_gatherSpans_32 : decode cX10_gatherSpans 32 = .ok (.invokevirtual 377, 3) := by decide +kernel
theorem dX10_gatherSpans_35 : decode cX10_gatherSpans 35 = .ok (.istore 6, 2) := by decide +kernel
theorem dX10_gatherSpans_37 : decode cX10_gatherSpans 37 = .ok (.iload 6, 2) := by decide +kernel
theorem dX10_gatherSpans_39 : decode cX10_gatherSpans 39 = .ok (.ifCond .eq 21, 3) := by decide +kernel
theorem dX10_gatherSpans_42 : decode cX10_gatherSpans 42 = .ok (.iload 4, 2) := by decide +kernel
theorem dX10_gatherSpans_44 : decode cX10_gatherSpans 44 = .ok (.ifCond .ne 16, 3) := by decide +kernel
theorem dX10_gatherSpans_47 : decode cX10_gatherSpans 47 = .ok (.aload_n 0, 1) := by decide +kernel
theorem dX10_gatherSpans_48 : decode cX10_gatherSpans 48 = .ok (.getfield 86, 3) := by decide +kernel
theorem dX10_gatherSpans_51 : decode cX10_gatherSpans 51 = .ok (.iconst 2, 1) := by decide +kernel
theorem dX10_gatherSpans_52 : decode cX10_gatherSpans 52 = .ok (.iload_n 3, 1) := by decide +kernel
theorem dX10_gatherSpans_53 : decode cX10_gatherSpans 53 = .ok (.imul, 1) := by decide +kernel
theorem dX10_gatherSpans_54 : decode cX10_gatherSpans 54 = .ok (.iload 5, 2) := by decide +kernel
theorem dX10_gatherSpans_56 : decode cX10_gatherSpans 56 = .ok (.iastore, 1) := by decide +kernel
theorem dX10_gatherSpans_57 : decode cX10_gatherSpans 57 = .ok (.iinc 3 1, 3) := by decide +kernel
theorem dX10_gatherSpans_60 : decode cX10_gatherSpans 60 = .ok (.iload 6, 2) := by decide +kernel
theorem dX10_gatherSpans_62 : decode cX10_gatherSpans 62 = .ok (.ifCond .eq 15, 3) := by decide +kernel
theorem dX10_gatherSpans_65 : decode cX10_gatherSpans 65 = .ok (.aload_n 0, 1) := by decide +kernel
theorem dX10_gatherSpans_66 : decode cX10_gatherSpans 66 = .ok (.getfield 86, 3) := by decide +kernel
theorem dX10_gatherSpans_69 : decode cX10_gatherSpans 69 = .ok (.iconst 2, 1) := by decide +kernel
theorem dX10_gatherSpans_70 : decode cX10_gatherSpans 70 = .ok (.iload_n 3, 1) := by decide +kernel
theorem dX10_gatherSpans_71 : decode cX10_gatherSpans 71 = .ok (.imul, 1) := by decide +kernel
theorem dX10_gatherSpans_72 : decode cX10_gatherSpans 72 = .ok (.iconst 1, 1) := by decide +kernel
theorem dX10_gatherSpans_73 : decode cX10_gatherSpans 73 = .ok (.isub, 1) := by decide +kernel
theorem dX10_gatherSpans_74 : decode cX10_gatherSpans 74 = .ok (.iload 5, 2) := by decide +kernel
theorem dX10_gatherSpans_76 : decode cX10_gatherSpans 76 = .ok (.iastore, 1) := by decide +kernel
theorem dX10_gatherSpans_77 : decode cX10_gatherSpans 77 = .ok (.iload 6, 2) := by decide +kernel
theorem dX10_gatherSpans_79 : decode cX10_gatherSpans 79 = .ok (.istore 4, 2) := by decide +kernel
theorem dX10_gatherSpans_81 : decode cX10_gatherSpans 81 = .ok (.iinc 5 1, 3) := by decide +kernel
theorem dX10_gatherSpans_84 : decode cX10_gatherSpans 84 = .ok (.goto (-76), 3) := by decide +kernel
theorem dX10_gatherSpans_87 : decode cX10_gatherSpans 87 = .ok (.iload_n 3, 1) := by decide +kernel
theorem dX10_gatherSpans_88 : decode cX10_gatherSpans 88 = .ok (.ireturn, 1) := by decide +kernel
theorem dX10_gatherMistakes_0 : decode cX10_gatherMistakes 0 = .ok (.iconst 0, 1) := by decide +kernel
theorem dX10_gatherMistakes_1 : decode cX10_gatherMistakes 1 = .ok (.istore_n 1, 1) := by decide +kernel
theorem dX10_gatherMistakes_2 : decode cX10_gatherMistakes 2 = .ok (.iconst 0, 1) := by decide +kernel
theorem dX10_gatherMistakes_3 : decode cX10_gatherMistakes 3 = .ok (.istore_n 2, 1) := by decide +kernel
theorem dX10_gatherMistakes_4 : decode cX10_gatherMistakes 4 = .ok (.iload_n 2, 1) := by decide +kernel
theorem dX10_gatherMistakes_5 : decode cX10_gatherMistakes 5 = .ok (.aload_n 0, 1) := by decide +kernel
theorem dX10_gatherMistakes_6 : decode cX10_gatherMistakes 6 = .ok (.getfield 26, 3) := by decide +kernel
theorem dX10_gatherMistakes_9 : decode cX10_gatherMistakes 9 = .ok (.invokevirtual 131, 3) := by decide +kernel
theorem dX10_gatherMistakes_12 : decode cX10_gatherMistakes 12 = .ok (.if_icmp .ge 112, 3) := by decide +kernel
theorem dX10_gatherMistakes_15 : decode cX10_gatherMistakes 15 = .ok (.iconst 0, 1) := by decide +kernel
theorem dX10_gatherMistakes_16 : decode cX10_gatherMistakes 16 = .ok (.istore_n 3, 1) := by decide +kernel
theorem dX10_gatherMistakes_17 : decode cX10_gatherMistakes 17 = .ok (.iload_n 3, 1) := by decide +kernel
theorem dX10_gatherMistakes_18 : decode cX10_gatherMistakes 18 = .ok (.iconst 1, 1) := by decide +kernel
theorem dX10_gatherMistakes_19 : decode cX10_gatherMistakes 19 = .ok (.if_icmp .gt 99, 3) := by decide +kernel
theorem dX10_gatherMistakes_22 : decode cX10_gatherMistakes 22 = .ok (.aload_n 0, 1) := by decide +kernel
theorem dX10_gatherMistakes_23 : decode cX10_gatherMistakes 23 = .ok (.iload_n 3, 1) := by decide +kernel
theorem dX10_gatherMistakes_24 : decode cX10_gatherMistakes 24 = .ok (.iload_n 2, 1) := by decide +kernel
theorem dX10_gatherMistakes_25 : decode cX10_gatherMistakes 25 = .ok (.invokevirtual 170, 3) := by decide +kernel
theorem dX10_gatherMistakes_28 : decode cX10_gatherMistakes 28 = .ok (.iconst 0, 1) := by decide +kernel
theorem dX10_gatherMistakes_29 : decode cX10_gatherMistakes 29 = .ok (.istore 4, 2) := by decide +kernel
theorem dX10_gatherMistakes_31 : decode cX10_gatherMistakes 31 = .ok (.iload 4, 2) := by decide +kernel
theorem dX10_gatherMistakes_33 : decode cX10_gatherMistakes 33 = .ok (.aload_n 0, 1) := by decide +kernel
theorem dX10_gatherMistakes_34 : decode cX10_gatherMistakes 34 = .ok (.getfield 26, 3) := by decide +kernel
theorem dX10_gatherMistakes_37 : decode cX10_gatherMistakes 37 = .ok (.getfield 223, 3) := by decide +kernel
theorem dX10_gatherMistakes_40 : decode cX10_gatherMistakes 40 = .ok (.if_icmp .ge 72, 3) := by decide +kernel
theorem dX10_gatherMistakes_43 : decode cX10_gatherMistakes 43 = .ok (.aload_n 0, 1) := by decide +kernel
theorem dX10_gatherMistakes_44 : decode cX10_gatherMistakes 44 = .ok (.getfield 51, 3) := by decide +kernel
theorem dX10_gatherMistakes_47 : decode cX10_gatherMistakes 47 = .ok (.aload_n 0, 1) := by decide +kernel
theorem dX10_gatherMistakes_48 : decode cX10_gatherMistakes 48 = .ok (.getfield 26, 3) := by decide +kernel
theorem dX10_gatherMistakes_51 : decode cX10_gatherMistakes 51 = .ok (.getfield 202, 3) := by decide +kernel
theorem dX10_gatherMistakes_54 : decode cX10_gatherMistakes 54 = .ok (.iload 4, 2) := by decide +kernel
theorem dX10_gatherMistakes_56 : decode cX10_gatherMistakes 56 = .ok (.aaload, 1) := by decide +kernel
theorem dX10_gatherMistakes_57 : decode cX10_gatherMistakes 57 = .ok (.invokevirtual 226, 3) := by decide +kernel
theorem dX10_gatherMistakes_60 : decode cX10_gatherMistakes 60 = .ok (.ifCond .eq 46, 3) := by decide +kernel
theorem dX10_gatherMistakes_63 : decode cX10_gatherMistakes 63 = .ok (.aload_n 0, 1) := by decide +kernel
theorem dX10_gatherMistakes_64 : decode cX10_gatherMistakes 64 = .ok (.getfield 26, 3) := by decide +kernel
theorem dX10_gatherMistakes_67 : decode cX10_gatherMistakes 67 = .ok (.aload_n 0, 1) := by decide +kernel
theorem dX10_gatherMistakes_68 : decode cX10_gatherMistakes 68 = .ok (.getfield 26, 3) := by decide +kernel
theorem dX10_gatherMistakes_71 : decode cX10_gatherMistakes 71 = .ok (.getfield 202, 3) := by decide +kernel
theorem dX10_gatherMistakes_74 : decode cX10_gatherMistakes 74 = .ok (.iload 4, 2) := by decide +kernel
theorem dX10_gatherMistakes_76 : decode cX10_gatherMistakes 76 = .ok (.aaload, 1) := by decide +kernel
theorem dX10_gatherMistakes_77 : decode cX10_gatherMistakes 77 = .ok (.iload_n 3, 1) := by decide +kernel
theorem dX10_gatherMistakes_78 : decode cX10_gatherMistakes 78 = .ok (.iload_n 2, 1) := by decide +kernel
theorem dX10_gatherMistakes_79 : decode cX10_gatherMistakes 79 = .ok (.invokevirtual 381, 3) := by decide +kernel
theorem dX10_gatherMistakes_82 : decode cX10_gatherMistakes 82 = .ok (.ifCond .ne 24, 3) := by decide +kernel
theorem dX10_gatherMistakes_85 : decode cX10_gatherMistakes 85 = .ok (.aload_n 0, 1) := by decide +kernel
theorem dX10_gatherMistakes_86 : decode cX10_gatherMistakes 86 = .ok (.getfield 86, 3) := by decide +kernel
theorem dX10_gatherMistakes_89 : decode cX10_gatherMistakes 89 = .ok (.iload_n 1, 1) := by decide +kernel
theorem dX10_gatherMistakes_90 : decode cX10_gatherMistakes 90 = .ok (.bipush 100, 2) := by decide +kernel
theorem dX10_gatherMistakes_92 : decode cX10_gatherMistakes 92 = .ok (.iload 4, 2) := by decide +kernel
theorem dX10_gatherMistakes_94 : decode cX10_gatherMistakes 94 = .ok (.imul, 1) := by decide +kernel
theorem dX10_gatherMistakes_95 : decode cX10_gatherMistakes 95 = .ok (.bipush 50, 2) := by decide +kernel
theorem dX10_gatherMistakes_97 : decode cX10_gatherMistakes 97 = .ok (.iload_n 3, 1) := by decide +kernel
theorem dX10_gatherMistakes_98 : decode cX10_gatherMistakes 98 = .ok (.imul, 1) := by decide +kernel
theorem dX10_gatherMistakes_99 : decode cX10_gatherMistakes 99 = .ok (.iadd, 1) := by decide +kernel
theorem dX10_gatherMistakes_100 : decode cX10_gatherMistakes 100 = .ok (.iload_n 2, 1) := by decide +kernel
theorem dX10_gatherMistakes_101 : decode cX10_gatherMistakes 101 = .ok (.iadd, 1) := by decide +kernel
theorem dX10_gatherMistakes_102 : decode cX10_gatherMistakes 102 = .ok (.iastore, 1) := by decide +kernel
theorem dX10_gatherMistakes_103 : decode cX10_gatherMistakes 103 = .ok (.iinc 1 1, 3) := by decide +kernel
theorem dX10_gatherMistakes_106 : decode cX10_gatherMistakes 106 = .ok (.iinc 4 1, 3) := by decide +kernel
theorem dX10_gatherMistakes_109 : decode cX10_gatherMistakes 109 = .ok (.goto (-78), 3) := by decide +kernel
theorem dX10_gatherMistakes_112 : decode cX10_gatherMistakes 112 = .ok (.iinc 3 1, 3) := by decide +kernel
theorem dX10_gatherMistakes_115 : decode cX10_gatherMistakes 115 = .ok (.goto (-98), 3) := by decide +kernel
theorem dX10_gatherMistakes_118 : decode cX10_gatherMistakes 118 = .ok (.iinc 2 1, 3) := by decide +kernel
theorem dX10_gatherMistakes_121 : decode cX10_gatherMistakes 121 = .ok (.goto (-117), 3) := by decide +kernel
theorem dX10_gatherMistakes_124 : decode cX10_gatherMistakes 124 = .ok (.iload_n 1, 1) := by decide +kernel
theorem dX10_gatherMistakes_125 : decode cX10_gatherMistakes 125 = .ok (.ireturn, 1) := by decide +kernel
theorem dX10_keptBits_0 : decode cX10_keptBits 0 = .ok (.iconst 0, 1) := by decide +kernel
theorem dX10_keptBits_1 : decode cX10_keptBits 1 = .ok (.istore_n 2, 1) := by decide +kernel
theorem dX10_keptBits_2 : decode cX10_keptBits 2 = .ok (.iconst 0, 1) := by decide +kernel
theorem dX10_keptBits_3 : decode cX10_keptBits 3 = .ok (.istore_n 3, 1) := by decide +kernel
theorem dX10_keptBits_4 : decode cX10_keptBits 4 = .ok (.iload_n 3, 1) := by decide +kernel
theorem dX10_keptBits_5 : decode cX10_keptBits 5 = .ok (.aload_n 0, 1) := by decide +kernel
theorem dX10_keptBits_6 : decode cX10_keptBits 6 = .ok (.getfield 26, 3) := by decide +kernel
theorem dX10_keptBits_9 : decode cX10_keptBits 9 = .ok (.getfield 371, 3) := by decide +kernel
theorem dX10_keptBits_12 : decode cX10_keptBits 12 = .ok (.if_icmp .ge 46, 3) := by decide +kernel
theorem dX10_keptBits_15 : decode cX10_keptBits 15 = .ok (.aload_n 0, 1) := by decide +kernel
theorem dX10_keptBits_16 : decode cX10_keptBits 16 = .ok (.getfield 26, 3) := by decide +kernel
theorem dX10_keptBits_19 : decode cX10_keptBits 19 = .ok (.getfield 242, 3) := by decide +kernel
theorem dX10_keptBits_22 : decode cX10_keptBits 22 = .ok (.iload_n 3, 1) := by decide +kernel
theorem dX10_keptBits_23 : decode cX10_keptBits 23 = .ok (.aaload, 1) := by decide +kernel
theorem dX10_keptBits_24 : decode cX10_keptBits 24 = .ok (.astore 4, 2) := by decide +kernel
theorem dX10_keptBits_26 : decode cX10_keptBits 26 = .ok (.aload_n 0, 1) := by decide +kernel
theorem dX10_keptBits_27 : decode cX10_keptBits 27 = .ok (.iload_n 1, 1) := by decide +kernel
theorem dX10_keptBits_28 : decode cX10_keptBits 28 = .ok (.aload 4, 2) := by decide +kernel
theorem dX10_keptBits_30 : decode cX10_keptBits 30 = .ok (.aload 4, 2) := by decide +kernel
theorem dX10_keptBits_32 : decode cX10_keptBits 32 = .ok (.getfield 293, 3) := by decide +kernel
theorem dX10_keptBits_35 : decode cX10_keptBits 35 = .ok (.aload 4, 2) := by decide +kernel
theorem dX10_keptBits_37 : decode cX10_keptBits 37 = .ok (.getfield 298, 3) := by decide +kernel
theorem dX10_keptBits_40 : decode cX10_keptBits 40 = .ok (.invokevirtual 377, 3) := by decide +kernel
theorem dX10_keptBits_43 : decode cX10_keptBits 43 = .ok (.ifCond .eq 9, 3) := by decide +kernel
theorem dX10_keptBits_46 : decode cX10_keptBits 46 = .ok (.iload_n 2, 1) := by decide +kernel
theorem dX10_keptBits_47 : decode cX10_keptBits 47 = .ok (.iconst 1, 1) := by decide +kernel
theorem dX10_keptBits_48 : decode cX10_keptBits 48 = .ok (.iload_n 3, 1) := by decide +kernel
theorem dX10_keptBits_49 : decode cX10_keptBits 49 = .ok (.ishl, 1) := by decide +kernel
theorem dX10_keptBits_50 : decode cX10_keptBits 50 = .ok (.ior, 1) := by decide +kernel
theorem dX10_keptBits_51 : decode cX10_keptBits 51 = .ok (.istore_n 2, 1) := by decide +kernel
theorem dX10_keptBits_52 : decode cX10_keptBits 52 = .ok (.iinc 3 1, 3) := by decide +kernel
theorem dX10_keptBits_55 : decode cX10_keptBits 55 = .ok (.goto (-51), 3) := by decide +kernel
theorem dX10_keptBits_58 : decode cX10_keptBits 58 = .ok (.iload_n 2, 1) := by decide +kernel
theorem dX10_keptBits_59 : decode cX10_keptBits 59 = .ok (.ireturn, 1) := by decide +kernel
theorem dX10_bestPlace_0 : decode cX10_bestPlace 0 = .ok (.aload_n 0, 1) := by decide +kernel
theorem dX10_bestPlace_1 : decode cX10_bestPlace 1 = .ok (.aload_n 1, 1) := by decide +kernel
theorem dX10_bestPlace_2 : decode cX10_bestPlace 2 = .ok (.getfield 293, 3) := by decide +kernel
theorem dX10_bestPlace_5 : decode cX10_bestPlace 5 = .ok (.aload_n 1, 1) := by decide +kernel
theorem dX10_bestPlace_6 : decode cX10_bestPlace 6 = .ok (.getfield 298, 3) := by decide +kernel
theorem dX10_bestPlace_9 : decode cX10_bestPlace 9 = .ok (.invokevirtual 170, 3) := by decide +kernel
theorem dX10_bestPlace_12 : decode cX10_bestPlace 12 = .ok (.aload_n 0, 1) := by decide +kernel
theorem dX10_bestPlace_13 : decode cX10_bestPlace 13 = .ok (.getfield 51, 3) := by decide +kernel
theorem dX10_bestPlace_16 : decode cX10_bestPlace 16 = .ok (.aload_n 1, 1) := by decide +kernel
theorem dX10_bestPlace_17 : decode cX10_bestPlace 17 = .ok (.invokevirtual 385, 3) := by decide +kernel
theorem dX10_bestPlace_20 : decode cX10_bestPlace 20 = .ok (.ireturn, 1) := by decide +kernel
theorem dX10_firstViewWithout_0 : decode cX10_firstViewWithout 0 = .ok (.aload_n 0, 1) := by decide +kernel
theorem dX10_firstViewWithout_1 : decode cX10_firstViewWithout 1 = .ok (.getfield 33, 3) := by decide +kernel
theorem dX10_firstViewWithout_4 : decode cX10_firstViewWithout 4 = .ok (.iload_n 1, 1) := by decide +kernel
theorem dX10_firstViewWithout_5 : decode cX10_firstViewWithout 5 = .ok (.invokevirtual 164, 3) := by decide +kernel
theorem dX10_firstViewWithout_8 : decode cX10_firstViewWithout 8 = .ok (.ifCond .eq 6, 3) := by decide +kernel
theorem dX10_firstViewWithout_11 : decode cX10_firstViewWithout 11 = .ok (.bipush (-2), 2) := by decide +kernel
theorem dX10_firstViewWithout_13 : decode cX10_firstViewWithout 13 = .ok (.ireturn, 1) := by decide +kernel
theorem dX10_firstViewWithout_14 : decode cX10_firstViewWithout 14 = .ok (.aload_n 0, 1) := by decide +kernel
theorem dX10_firstViewWithout_15 : decode cX10_firstViewWithout 15 = .ok (.getfield 33, 3) := by decide +kernel
theorem dX10_firstViewWithout_18 : decode cX10_firstViewWithout 18 = .ok (.getfield 233, 3) := by decide +kernel
theorem dX10_firstViewWithout_21 : decode cX10_firstViewWithout 21 = .ok (.iconst 1, 1) := by decide +kernel
theorem dX10_firstViewWithout_22 : decode cX10_firstViewWithout 22 = .ok (.iload_n 1, 1) := by decide +kernel
theorem dX10_firstViewWithout_23 : decode cX10_firstViewWithout 23 = .ok (.ishl, 1) := by decide +kernel
theorem dX10_firstViewWithout_24 : decode cX10_firstViewWithout 24 = .ok (.ior, 1) := by decide +kernel
theorem dX10_firstViewWithout_25 : decode cX10_firstViewWithout 25 = .ok (.istore_n 3, 1) := by decide +kernel
theorem dX10_firstViewWithout_26 : decode cX10_firstViewWithout 26 = .ok (.iconst 0, 1) := by decide +kernel
theorem dX10_firstViewWithout_27 : decode cX10_firstViewWithout 27 = .ok (.istore 4, 2) := by decide +kernel
theorem dX10_firstViewWithout_29 : decode cX10_firstViewWithout 29 = .ok (.iload 4, 2) := by decide +kernel
theorem dX10_firstViewWithout_31 : decode cX10_firstViewWithout 31 = .ok (.aload_n 0, 1) := by decide +kernel
theorem dX10_firstViewWithout_32 : decode cX10_firstViewWithout 32 = .ok (.getfield 26, 3) := by decide +kernel
theorem dX10_firstViewWithout_35 : decode cX10_firstViewWithout 35 = .ok (.invokevirtual 131, 3) := by decide +kernel
theorem dX10_firstViewWithout_38 : decode cX10_firstViewWithout 38 = .ok (.if_icmp .ge 65, 3) := by decide +kernel
theorem dX10_firstViewWithout_41 : decode cX10_firstViewWithout 41 = .ok (.iconst 0, 1) := by decide +kernel
theorem dX10_firstViewWithout_42 : decode cX10_firstViewWithout 42 = .ok (.istore 5, 2) := by decide +kernel
theorem dX10_firstViewWithout_44 : decode cX10_firstViewWithout 44 = .ok (.iload 5, 2) := by decide +kernel
theorem dX10_firstViewWithout_46 : decode cX10_firstViewWithout 46 = .ok (.iconst 1, 1) := by decide +kernel
theorem dX10_firstViewWithout_47 : decode cX10_firstViewWithout 47 = .ok (.if_icmp .gt 50, 3) := by decide +kernel
theorem dX10_firstViewWithout_50 : decode cX10_firstViewWithout 50 = .ok (.aload_n 0, 1) := by decide +kernel
theorem dX10_firstViewWithout_51 : decode cX10_firstViewWithout 51 = .ok (.iload_n 3, 1) := by decide +kernel
theorem dX10_firstViewWithout_52 : decode cX10_firstViewWithout 52 = .ok (.aload_n 2, 1) := by decide +kernel
theorem dX10_firstViewWithout_53 : decode cX10_firstViewWithout 53 = .ok (.iload 5, 2) := by decide +kernel
theorem dX10_firstViewWithout_55 : decode cX10_firstViewWithout 55 = .ok (.iload 4, 2) := by decide +kernel
theorem dX10_firstViewWithout_57 : decode cX10_firstViewWithout 57 = .ok (.invokevirtual 377, 3) := by decide +kernel
theorem dX10_firstViewWithout_60 : decode cX10_firstViewWithout 60 = .ok (.ifCond .eq 31, 3) := by decide +kernel
theorem dX10_firstViewWithout_63 : decode cX10_firstViewWithout 63 = .ok (.aload_n 0, 1) := by decide +kernel
theorem dX10_firstViewWithout_64 : decode cX10_firstViewWithout 64 = .ok (.aload_n 0, 1) := by decide +kernel
theorem dX10_firstViewWithout_65 : decode cX10_firstViewWithout 65 = .ok (.getfield 33, 3) := by decide +kernel
theorem dX10_firstViewWithout_68 : decode cX10_firstViewWithout 68 = .ok (.getfield 233, 3) := by decide +kernel
theorem dX10_firstViewWithout_71 : decode cX10_firstViewWithout 71 = .ok (.aload_n 2, 1) := by decide +kernel
theorem dX10_firstViewWithout_72 : decode cX10_firstViewWithout 72 = .ok (.iload 5, 2) := by decide +kernel
theorem dX10_firstViewWithout_74 : decode cX10_firstViewWithout 74 = .ok (.iload 4, 2) := by decide +kernel
theorem dX10_firstViewWithout_76 : decode cX10_firstViewWithout 76 = .ok (.invokevirtual 377, 3) := by decide +kernel
theorem dX10_firstViewWithout_79 : decode cX10_firstViewWithout 79 = .ok (.ifCond .ne 12, 3) := by decide +kernel
theorem dX10_firstViewWithout_82 : decode cX10_firstViewWithout 82 = .ok (.bipush 50, 2) := by decide +kernel
theorem dX10_firstViewWithout_84 : decode cX10_firstViewWithout 84 = .ok (.iload 5, 2) := by decide +kernel
theorem dX10_firstViewWithout_86 : decode cX10_firstViewWithout 86 = .ok (.imul, 1) := by decide +kernel
theorem dX10_firstViewWithout_87 : decode cX10_firstViewWithout 87 = .ok (.iload 4, 2) := by decide +kernel
theorem dX10_firstViewWithout_89 : decode cX10_firstViewWithout 89 = .ok (.iadd, 1) := by decide +kernel
theorem dX10_firstViewWithout_90 : decode cX10_firstViewWithout 90 = .ok (.ireturn, 1) := by decide +kernel
theorem dX10_firstViewWithout_91 : decode cX10_firstViewWithout 91 = .ok (.iinc 5 1, 3) := by decide +kernel
theorem dX10_firstViewWithout_94 : decode cX10_firstViewWithout 94 = .ok (.goto (-50), 3) := by decide +kernel
theorem dX10_firstViewWithout_97 : decode cX10_firstViewWithout 97 = .ok (.iinc 4 1, 3) := by decide +kernel
theorem dX10_firstViewWithout_100 : decode cX10_firstViewWithout 100 = .ok (.goto (-71), 3) := by decide +kernel
theorem dX10_firstViewWithout_103 : decode cX10_firstViewWithout 103 = .ok (.bipush (-2), 2) := by decide +kernel
theorem dX10_firstViewWithout_105 : decode cX10_firstViewWithout 105 = .ok (.ireturn, 1) := by decide +kernel
theorem dX10_fewestToBreak_0 : decode cX10_fewestToBreak 0 = .ok (.bipush (-2), 2) := by decide +kernel
theorem dX10_fewestToBreak_2 : decode cX10_fewestToBreak 2 = .ok (.istore 4, 2) := by decide +kernel
theorem dX10_fewestToBreak_4 : decode cX10_fewestToBreak 4 = .ok (.bipush 11, 2) := by decide +kernel
theorem dX10_fewestToBreak_6 : decode cX10_fewestToBreak 6 = .ok (.istore 5, 2) := by decide +kernel
theorem dX10_fewestToBreak_8 : decode cX10_fewestToBreak 8 = .ok (.iconst 0, 1) := by decide +kernel
theorem dX10_fewestToBreak_9 : decode cX10_fewestToBreak 9 = .ok (.istore 6, 2) := by decide +kernel
theorem dX10_fewestToBreak_11 : decode cX10_fewestToBreak 11 = .ok (.iload 6, 2) := by decide +kernel
theorem dX10_fewestToBreak_13 : decode cX10_fewestToBreak 13 = .ok (.iconst 1, 1) := by decide +kernel
theorem dX10_fewestToBreak_14 : decode cX10_fewestToBreak 14 = .ok (.aload_n 0, 1) := by decide +kernel
theorem dX10_fewestToBreak_15 : decode cX10_fewestToBreak 15 = .ok (.getfield 26, 3) := by decide +kernel
theorem dX10_fewestToBreak_18 : decode cX10_fewestToBreak 18 = .ok (.getfield 190, 3) := by decide +kernel
theorem dX10_fewestToBreak_21 : decode cX10_fewestToBreak 21 = .ok (.ishl, 1) := by decide +kernel
theorem dX10_fewestToBreak_22 : decode cX10_fewestToBreak 22 = .ok (.if_icmp .ge 63, 3) := by decide +kernel
theorem dX10_fewestToBreak_25 : decode cX10_fewestToBreak 25 = .ok (.iload 6, 2) := by decide +kernel
theorem dX10_fewestToBreak_27 : decode cX10_fewestToBreak 27 = .ok (.aload_n 0, 1) := by decide +kernel
theorem dX10_fewestToBreak_28 : decode cX10_fewestToBreak 28 = .ok (.getfield 33, 3) := by decide +kernel
theorem dX10_fewestToBreak_31 : decode cX10_fewestToBreak 31 = .ok (.getfield 233, 3) := by decide +kernel
theorem dX10_fewestToBreak_34 : decode cX10_fewestToBreak 34 = .ok (.iand, 1) := by decide +kernel
theorem dX10_fewestToBreak_35 : decode cX10_fewestToBreak 35 = .ok (.ifCond .ne 44, 3) := by decide +kernel
theorem dX10_fewestToBreak_38 : decode cX10_fewestToBreak 38 = .ok (.iload 6, 2) := by decide +kernel
theorem dX10_fewestToBreak_40 : decode cX10_fewestToBreak 40 = .ok (.invokestatic 263, 3) := by decide +kernel
theorem dX10_fewestToBreak_43 : decode cX10_fewestToBreak 43 = .ok (.iload 5, 2) := by decide +kernel
theorem dX10_fewestToBreak_45 : decode cX10_fewestToBreak 45 = .ok (.if_icmp .ge 34, 3) := by decide +kernel
theorem dX10_fewestToBreak_48 : decode cX10_fewestToBreak 48 = .ok (.aload_n 0, 1) := by decide +kernel
theorem dX10_fewestToBreak_49 : decode cX10_fewestToBreak 49 = .ok (.aload_n 0, 1) := by decide +kernel
theorem dX10_fewestToBreak_50 : decode cX10_fewestToBreak 50 = .ok (.getfield 33, 3) := by decide +kernel
theorem dX10_fewestToBreak_53 : decode cX10_fewestToBreak 53 = .ok (.getfield 233, 3) := by decide +kernel
theorem dX10_fewestToBreak_56 : decode cX10_fewestToBreak 56 = .ok (.iload 6, 2) := by decide +kernel
theorem dX10_fewestToBreak_58 : decode cX10_fewestToBreak 58 = .ok (.ior, 1) := by decide +kernel
theorem dX10_fewestToBreak_59 : decode cX10_fewestToBreak 59 = .ok (.aload_n 1, 1) := by decide +kernel
theorem dX10_fewestToBreak_60 : decode cX10_fewestToBreak 60 = .ok (.iload_n 2, 1) := by decide +kernel
theorem dX10_fewestToBreak_61 : decode cX10_fewestToBreak 61 = .ok (.iload_n 3, 1) := by decide +kernel
theorem dX10_fewestToBreak_62 : decode cX10_fewestToBreak 62 = .ok (.invokevirtual 377, 3) := by decide +kernel
theorem dX10_fewestToBreak_65 : decode cX10_fewestToBreak 65 = .ok (.ifCond .eq 14, 3) := by decide +kernel
theorem dX10_fewestToBreak_68 : decode cX10_fewestToBreak 68 = .ok (.iload 6, 2) := by decide +kernel
theorem dX10_fewestToBreak_70 : decode cX10_fewestToBreak 70 = .ok (.istore 4, 2) := by decide +kernel
theorem dX10_fewestToBreak_72 : decode cX10_fewestToBreak 72 = .ok (.iload 6, 2) := by decide +kernel
theorem dX10_fewestToBreak_74 : decode cX10_fewestToBreak 74 = .ok (.invokestatic 263, 3) := by decide +kernel
theorem dX10_fewestToBreak_77 : decode cX10_fewestToBreak 77 = .ok (.istore 5, 2) := by decide +kernel
theorem dX10_fewestToBreak_79 : decode cX10_fewestToBreak 79 = .ok (.iinc 6 1, 3) := by decide +kernel
theorem dX10_fewestToBreak_82 : decode cX10_fewestToBreak 82 = .ok (.goto (-71), 3) := by decide +kernel
theorem dX10_fewestToBreak_85 : decode cX10_fewestToBreak 85 = .ok (.iload 4, 2) := by decide +kernel
theorem dX10_fewestToBreak_87 : decode cX10_fewestToBreak 87 = .ok (.ireturn, 1) := by decide +kernel
theorem dX10_smearBetween_0 : decode cX10_smearBetween 0 = .ok (.aload_n 0, 1) := by decide +kernel
theorem dX10_smearBetween_1 : decode cX10_smearBetween 1 = .ok (.getfield 51, 3) := by decide +kernel
theorem dX10_smearBetween_4 : decode cX10_smearBetween 4 = .ok (.aload_n 0, 1) := by decide +kernel
theorem dX10_smearBetween_5 : decode cX10_smearBetween 5 = .ok (.getfield 26, 3) := by decide +kernel
theorem dX10_smearBetween_8 : decode cX10_smearBetween 8 = .ok (.aload_n 0, 1) := by decide +kernel
theorem dX10_smearBetween_9 : decode cX10_smearBetween 9 = .ok (.getfield 33, 3) := by decide +kernel
theorem dX10_smearBetween_12 : decode cX10_smearBetween 12 = .ok (.aload_n 0, 1) := by decide +kernel
theorem dX10_smearBetween_13 : decode cX10_smearBetween 13 = .ok (.getfield 33, 3) := by decide +kernel
theorem dX10_smearBetween_16 : decode cX10_smearBetween 16 = .ok (.getfield 233, 3) := by decide +kernel
theorem dX10_smearBetween_19 : decode cX10_smearBetween 19 = .ok (.iload_n 1, 1) := by decide +kernel
theorem dX10_smearBetween_20 : decode cX10_smearBetween 20 = .ok (.iload_n 2, 1) := by decide +kernel
theorem dX10_smearBetween_21 : decode cX10_smearBetween 21 = .ok (.invokevirtual 301, 3) := by decide +kernel
theorem dX10_smearBetween_24 : decode cX10_smearBetween 24 = .ok (.aload_n 0, 1) := by decide +kernel
theorem dX10_smearBetween_25 : decode cX10_smearBetween 25 = .ok (.getfield 55, 3) := by decide +kernel
theorem dX10_smearBetween_28 : decode cX10_smearBetween 28 = .ok (.aload_n 0, 1) := by decide +kernel
theorem dX10_smearBetween_29 : decode cX10_smearBetween 29 = .ok (.getfield 26, 3) := by decide +kernel
theorem dX10_smearBetween_32 : decode cX10_smearBetween 32 = .ok (.aload_n 0, 1) := by decide +kernel
theorem dX10_smearBetween_33 : decode cX10_smearBetween 33 = .ok (.getfield 33, 3) := by decide +kernel
theorem dX10_smearBetween_36 : decode cX10_smearBetween 36 = .ok (.aload_n 0, 1) := by decide +kernel
theorem dX10_smearBetween_37 : decode cX10_smearBetween 37 = .ok (.getfield 33, 3) := by decide +kernel
theorem dX10_smearBetween_40 : decode cX10_smearBetween 40 = .ok (.getfield 233, 3) := by decide +kernel
theorem dX10_smearBetween_43 : decode cX10_smearBetween 43 = .ok (.iload_n 1, 1) := by decide +kernel
theorem dX10_smearBetween_44 : decode cX10_smearBetween 44 = .ok (.iload_n 3, 1) := by decide +kernel
theorem dX10_smearBetween_45 : decode cX10_smearBetween 45 = .ok (.invokevirtual 301, 3) := by decide +kernel
theorem dX10_smearBetween_48 : decode cX10_smearBetween 48 = .ok (.aload_n 0, 1) := by decide +kernel
theorem dX10_smearBetween_49 : decode cX10_smearBetween 49 = .ok (.getfield 51, 3) := by decide +kernel
theorem dX10_smearBetween_52 : decode cX10_smearBetween 52 = .ok (.aload_n 0, 1) := by decide +kernel
theorem dX10_smearBetween_53 : decode cX10_smearBetween 53 = .ok (.getfield 55, 3) := by decide +kernel
theorem dX10_smearBetween_56 : decode cX10_smearBetween 56 = .ok (.invokevirtual 388, 3) := by decide +kernel
theorem dX10_smearBetween_59 : decode cX10_smearBetween 59 = .ok (.ireturn, 1) := by decide +kernel
theorem dX10_smearOfBeats_0 : decode cX10_smearOfBeats 0 = .ok (.iconst 0, 1) := by decide +kernel
theorem dX10_smearOfBeats_1 : decode cX10_smearOfBeats 1 = .ok (.istore_n 1, 1) := by decide +kernel
theorem dX10_smearOfBeats_2 : decode cX10_smearOfBeats 2 = .ok (.iconst 1, 1) := by decide +kernel
theorem dX10_smearOfBeats_3 : decode cX10_smearOfBeats 3 = .ok (.istore_n 2, 1) := by decide +kernel
theorem dX10_smearOfBeats_4 : decode cX10_smearOfBeats 4 = .ok (.iload_n 2, 1) := by decide +kernel
theorem dX10_smearOfBeats_5 : decode cX10_smearOfBeats 5 = .ok (.aload_n 0, 1) := by decide +kernel
theorem dX10_smearOfBeats_6 : decode cX10_smearOfBeats 6 = .ok (.getfield 26, 3) := by decide +kernel
theorem dX10_smearOfBeats_9 : decode cX10_smearOfBeats 9 = .ok (.getfield 327, 3) := by decide +kernel
theorem dX10_smearOfBeats_12 : decode cX10_smearOfBeats 12 = .ok (.if_icmp .ge 37, 3) := by decide +kernel
theorem dX10_smearOfBeats_15 : decode cX10_smearOfBeats 15 = .ok (.iload_n 1, 1) := by decide +kernel
theorem dX10_smearOfBeats_16 : decode cX10_smearOfBeats 16 = .ok (.aload_n 0, 1) := by decide +kernel
theorem dX10_smearOfBeats_17 : decode cX10_smearOfBeats 17 = .ok (.iconst 0, 1) := by decide +kernel
theorem dX10_smearOfBeats_18 : decode cX10_smearOfBeats 18 = .ok (.aload_n 0, 1) := by decide +kernel
theorem dX10_smearOfBeats_19 : decode cX10_smearOfBeats 19 = .ok (.getfield 26, 3) := by decide +kernel
theorem dX10_smearOfBeats_22 : decode cX10_smearOfBeats 22 = .ok (.getfield 333, 3) := by decide +kernel
theorem dX10_smearOfBeats_25 : decode cX10_smearOfBeats 25 = .ok (.iload_n 2, 1) := by decide +kernel
theorem dX10_smearOfBeats_26 : decode cX10_smearOfBeats 26 = .ok (.iconst 1, 1) := by decide +kernel
theorem dX10_smearOfBeats_27 : decode cX10_smearOfBeats 27 = .ok (.isub, 1) := by decide +kernel
theorem dX10_smearOfBeats_28 : decode cX10_smearOfBeats 28 = .ok (.iaload, 1) := by decide +kernel
theorem dX10_smearOfBeats_29 : decode cX10_smearOfBeats 29 = .ok (.aload_n 0, 1) := by decide +kernel
theorem dX10_smearOfBeats_30 : decode cX10_smearOfBeats 30 = .ok (.getfield 26, 3) := by decide +kernel
theorem dX10_smearOfBeats_33 : decode cX10_smearOfBeats 33 = .ok (.getfield 333, 3) := by decide +kernel
theorem dX10_smearOfBeats_36 : decode cX10_smearOfBeats 36 = .ok (.iload_n 2, 1) := by decide +kernel
theorem dX10_smearOfBeats_37 : decode cX10_smearOfBeats 37 = .ok (.iaload, 1) := by decide +kernel
theorem dX10_smearOfBeats_38 : decode cX10_smearOfBeats 38 = .ok (.invokevirtual 312, 3) := by decide +kernel
theorem dX10_smearOfBeats_41 : decode cX10_smearOfBeats 41 = .ok (.iadd, 1) := by decide +kernel
theorem dX10_smearOfBeats_42 : decode cX10_smearOfBeats 42 = .ok (.istore_n 1, 1) := by decide +kernel
theorem dX10_smearOfBeats_43 : decode cX10_smearOfBeats 43 = .ok (.iinc 2 1, 3) := by decide +kernel
theorem dX10_smearOfBeats_46 : decode cX10_smearOfBeats 46 = .ok (.goto (-42), 3) := by decide +kernel
theorem dX10_smearOfBeats_49 : decode cX10_smearOfBeats 49 = .ok (.iload_n 1, 1) := by decide +kernel
theorem dX10_smearOfBeats_50 : decode cX10_smearOfBeats 50 = .ok (.ireturn, 1) := by decide +kernel
theorem dX10_findCalm_0 : decode cX10_findCalm 0 = .ok (.iconst 0, 1) := by decide +kernel
theorem dX10_findCalm_1 : decode cX10_findCalm 1 = .ok (.istore_n 1, 1) := by decide +kernel
theorem dX10_findCalm_2 : decode cX10_findCalm 2 = .ok (.iload_n 1, 1) := by decide +kernel
theorem dX10_findCalm_3 : decode cX10_findCalm 3 = .ok (.aload_n 0, 1) := by decide +kernel
theorem dX10_findCalm_4 : decode cX10_findCalm 4 = .ok (.getfield 26, 3) := by decide +kernel
theorem dX10_findCalm_7 : decode cX10_findCalm 7 = .ok (.getfield 327, 3) := by decide +kernel
theorem dX10_findCalm_10 : decode cX10_findCalm 10 = .ok (.if_icmp .ge 65, 3) := by decide +kernel
theorem dX10_findCalm_13 : decode cX10_findCalm 13 = .ok (.iconst 0, 1) := by decide +kernel
theorem dX10_findCalm_14 : decode cX10_findCalm 14 = .ok (.istore_n 2, 1) := by decide +kernel
theorem dX10_findCalm_15 : decode cX10_findCalm 15 = .ok (.iload_n 2, 1) := by decide +kernel
theorem dX10_findCalm_16 : decode cX10_findCalm 16 = .ok (.aload_n 0, 1) := by decide +kernel
theorem dX10_findCalm_17 : decode cX10_findCalm 17 = .ok (.getfield 26, 3) := by decide +kernel
theorem dX10_findCalm_20 : decode cX10_findCalm 20 = .ok (.getfield 327, 3) := by decide +kernel
theorem dX10_findCalm_23 : decode cX10_findCalm 23 = .ok (.if_icmp .ge 46, 3) := by decide +kernel
theorem dX10_findCalm_26 : decode cX10_findCalm 26 = .ok (.aload_n 0, 1) := by decide +kernel
theorem dX10_findCalm_27 : decode cX10_findCalm 27 = .ok (.getfield 82, 3) := by decide +kernel
theorem dX10_findCalm_30 : decode cX10_findCalm 30 = .ok (.getfield 392, 3) := by decide +kernel
theorem dX10_findCalm_33 : decode cX10_findCalm 33 = .ok (.iload_n 1, 1) := by decide +kernel
theorem dX10_findCalm_34 : decode cX10_findCalm 34 = .ok (.bipush 6, 2) := by decide +kernel
theorem dX10_findCalm_36 : decode cX10_findCalm 36 = .ok (.imul, 1) := by decide +kernel
theorem dX10_findCalm_37 : decode cX10_findCalm 37 = .ok (.iload_n 2, 1) := by decide +kernel
theorem dX10_findCalm_38 : decode cX10_findCalm 38 = .ok (.iadd, 1) := by decide +kernel
theorem dX10_findCalm_39 : decode cX10_findCalm 39 = .ok (.aload_n 0, 1) := by decide +kernel
theorem dX10_findCalm_40 : decode cX10_findCalm 40 = .ok (.iconst 0, 1) := by decide +kernel
theorem dX10_findCalm_41 : decode cX10_findCalm 41 = .ok (.aload_n 0, 1) := by decide +kernel
theorem dX10_findCalm_42 : decode cX10_findCalm 42 = .ok (.getfield 26, 3) := by decide +kernel
theorem dX10_findCalm_45 : decode cX10_findCalm 45 = .ok (.getfield 333, 3) := by decide +kernel
theorem dX10_findCalm_48 : decode cX10_findCalm 48 = .ok (.iload_n 1, 1) := by decide +kernel
theorem dX10_findCalm_49 : decode cX10_findCalm 49 = .ok (.iaload, 1) := by decide +kernel
theorem dX10_findCalm_50 : decode cX10_findCalm 50 = .ok (.aload_n 0, 1) := by decide +kernel
theorem dX10_findCalm_51 : decode cX10_findCalm 51 = .ok (.getfield 26, 3) := by decide +kernel
theorem dX10_findCalm_54 : decode cX10_findCalm 54 = .ok (.getfield 333, 3) := by decide +kernel
theorem dX10_findCalm_57 : decode cX10_findCalm 57 = .ok (.iload_n 2, 1) := by decide +kernel
theorem dX10_findCalm_58 : decode cX10_findCalm 58 = .ok (.iaload, 1) := by decide +kernel
theorem dX10_findCalm_59 : decode cX10_findCalm 59 = .ok (.invokevirtual 312, 3) := by decide +kernel
theorem dX10_findCalm_62 : decode cX10_findCalm 62 = .ok (.iastore, 1) := by decide +kernel
theorem dX10_findCalm_63 : decode cX10_findCalm 63 = .ok (.iinc 2 1, 3) := by decide +kernel
theorem dX10_findCalm_66 : decode cX10_findCalm 66 = .ok (.goto (-51), 3) := by decide +kernel
theorem dX10_findCalm_69 : decode cX10_findCalm 69 = .ok (.iinc 1 1, 3) := by decide +kernel
theorem dX10_findCalm_72 : decode cX10_findCalm 72 = .ok (.goto (-70), 3) := by decide +kernel
theorem dX10_findCalm_75 : decode cX10_findCalm 75 = .ok (.aload_n 0, 1) := by decide +kernel
theorem dX10_findCalm_76 : decode cX10_findCalm 76 = .ok (.getfield 82, 3) := by decide +kernel
theorem dX10_findCalm_79 : decode cX10_findCalm 79 = .ok (.aload_n 0, 1) := by decide +kernel
theorem dX10_findCalm_80 : decode cX10_findCalm 80 = .ok (.getfield 26, 3) := by decide +kernel
theorem dX10_findCalm_83 : decode cX10_findCalm 83 = .ok (.getfield 327, 3) := by decide +kernel
theorem dX10_findCalm_86 : decode cX10_findCalm 86 = .ok (.invokevirtual 395, 3) := by decide +kernel
theorem dX10_findCalm_89 : decode cX10_findCalm 89 = .ok (.return_, 1) := by decide +kernel
theorem dX10_moveTo_0 : decode cX10_moveTo 0 = .ok (.aload_n 0, 1) := by decide +kernel
theorem dX10_moveTo_1 : decode cX10_moveTo 1 = .ok (.getfield 44, 3) := by decide +kernel
theorem dX10_moveTo_4 : decode cX10_moveTo 4 = .ok (.iconst 2, 1) := by decide +kernel
theorem dX10_moveTo_5 : decode cX10_moveTo 5 = .ok (.iconst 0, 1) := by decide +kernel
theorem dX10_moveTo_6 : decode cX10_moveTo 6 = .ok (.aload_n 0, 1) := by decide +kernel
theorem dX10_moveTo_7 : decode cX10_moveTo 7 = .ok (.getfield 33, 3) := by decide +kernel
theorem dX10_moveTo_10 : decode cX10_moveTo 10 = .ok (.getfield 351, 3) := by decide +kernel
theorem dX10_moveTo_13 : decode cX10_moveTo 13 = .ok (.invokevirtual 343, 3) := by decide +kernel
theorem dX10_moveTo_16 : decode cX10_moveTo 16 = .ok (.aload_n 0, 1) := by decide +kernel
theorem dX10_moveTo_17 : decode cX10_moveTo 17 = .ok (.getfield 33, 3) := by decide +kernel
theorem dX10_moveTo_20 : decode cX10_moveTo 20 = .ok (.iload_n 1, 1) := by decide +kernel
theorem dX10_moveTo_21 : decode cX10_moveTo 21 = .ok (.putfield 351, 3) := by decide +kernel
theorem dX10_moveTo_24 : decode cX10_moveTo 24 = .ok (.return_, 1) := by decide +kernel
theorem dX10_bareOfFront_0 : decode cX10_bareOfFront 0 = .ok (.iconst 0, 1) := by decide +kernel
theorem dX10_bareOfFront_1 : decode cX10_bareOfFront 1 = .ok (.istore_n 2, 1) := by decide +kernel
theorem dX10_bareOfFront_2 : decode cX10_bareOfFront 2 = .ok (.iconst 0, 1) := by decide +kernel
theorem dX10_bareOfFront_3 : decode cX10_bareOfFront 3 = .ok (.istore_n 3, 1) := by decide +kernel
theorem dX10_bareOfFront_4 : decode cX10_bareOfFront 4 = .ok (.iload_n 3, 1) := by decide +kernel
theorem dX10_bareOfFront_5 : decode cX10_bareOfFront 5 = .ok (.aload_n 0, 1) := by decide +kernel
theorem dX10_bareOfFront_6 : decode cX10_bareOfFront 6 = .ok (.getfield 26, 3) := by decide +kernel
theorem dX10_bareOfFront_9 : decode cX10_bareOfFront 9 = .ok (.getfield 190, 3) := by decide +kernel
theorem dX10_bareOfFront_12 : decode cX10_bareOfFront 12 = .ok (.aload_n 0, 1) := by decide +kernel
theorem dX10_bareOfFront_13 : decode cX10_bareOfFront 13 = .ok (.getfield 26, 3) := by decide +kernel
theorem dX10_bareOfFront_16 : decode cX10_bareOfFront 16 = .ok (.getfield 151, 3) := by decide +kernel
theorem dX10_bareOfFront_19 : decode cX10_bareOfFront 19 = .ok (.imul, 1) := by decide +kernel
theorem dX10_bareOfFront_20 : decode cX10_bareOfFront 20 = .ok (.if_icmp .ge 33, 3) := by decide +kernel
theorem dX10_bareOfFront_23 : decode cX10_bareOfFront 23 = .ok (.aload_n 0, 1) := by decide +kernel
theorem dX10_bareOfFront_24 : decode cX10_bareOfFront 24 = .ok (.getfield 33, 3) := by decide +kernel
theorem dX10_bareOfFront_27 : decode cX10_bareOfFront 27 = .ok (.iconst 0, 1) := by decide +kernel
theorem dX10_bareOfFront_28 : decode cX10_bareOfFront 28 = .ok (.iload_n 3, 1) := by decide +kernel
theorem dX10_bareOfFront_29 : decode cX10_bareOfFront 29 = .ok (.invokevirtual 154, 3) := by decide +kernel
theorem dX10_bareOfFront_32 : decode cX10_bareOfFront 32 = .ok (.bipush 25, 2) := by decide +kernel
theorem dX10_bareOfFront_34 : decode cX10_bareOfFront 34 = .ok (.if_icmp .ne 13, 3) := by decide +kernel
theorem dX10_bareOfFront_37 : decode cX10_bareOfFront 37 = .ok (.iload_n 2, 1) := by decide +kernel
theorem dX10_bareOfFront_38 : decode cX10_bareOfFront 38 = .ok (.iload_n 1, 1) := by decide +kernel
theorem dX10_bareOfFront_39 : decode cX10_bareOfFront 39 = .ok (.if_icmp .ne 5, 3) := by decide +kernel
theorem dX10_bareOfFront_42 : decode cX10_bareOfFront 42 = .ok (.iload_n 3, 1) := by decide +kernel
theorem dX10_bareOfFront_43 : decode cX10_bareOfFront 43 = .ok (.ireturn, 1) := by decide +kernel
theorem dX10_bareOfFront_44 : decode cX10_bareOfFront 44 = .ok (.iinc 2 1, 3) := by decide +kernel
theorem dX10_bareOfFront_47 : decode cX10_bareOfFront 47 = .ok (.iinc 3 1, 3) := by decide +kernel
theorem dX10_bareOfFront_50 : decode cX10_bareOfFront 50 = .ok (.goto (-46), 3) := by decide +kernel
theorem dX10_bareOfFront_53 : decode cX10_bareOfFront 53 = .ok (.iconst (-1), 1) := by decide +kernel
theorem dX10_bareOfFront_54 : decode cX10_bareOfFront 54 = .ok (.ireturn, 1) := by decide +kernel

theorem dX8_init_0 : decode cX8_init 0 = .ok (.aload_n 0, 1) := by decide +kernel
theorem dX8_init_1 : decode cX8_init 1 = .ok (.invokespecial 1, 3) := by decide +kernel
theorem dX8_init_4 : decode cX8_init 4 = .ok (.aload_n 0, 1) := by decide +kernel
theorem dX8_init_5 : decode cX8_init 5 = .ok (.sipush 1848, 3) := by decide +kernel
theorem dX8_init_8 : decode cX8_init 8 = .ok (.newarray .int, 2) := by decide +kernel
theorem dX8_init_10 : decode cX8_init 10 = .ok (.putfield 7, 3) := by decide +kernel
theorem dX8_init_13 : decode cX8_init 13 = .ok (.aload_n 0, 1) := by decide +kernel
theorem dX8_init_14 : decode cX8_init 14 = .ok (.bipush 77, 2) := by decide +kernel
theorem dX8_init_16 : decode cX8_init 16 = .ok (.newarray .int, 2) := by decide +kernel
theorem dX8_init_18 : decode cX8_init 18 = .ok (.putfield 13, 3) := by decide +kernel
theorem dX8_init_21 : decode cX8_init 21 = .ok (.aload_n 0, 1) := by decide +kernel
theorem dX8_init_22 : decode cX8_init 22 = .ok (.sipush 576, 3) := by decide +kernel
theorem dX8_init_25 : decode cX8_init 25 = .ok (.newarray .int, 2) := by decide +kernel
theorem dX8_init_27 : decode cX8_init 27 = .ok (.putfield 16, 3) := by decide +kernel
theorem dX8_init_30 : decode cX8_init 30 = .ok (.aload_n 0, 1) := by decide +kernel
theorem dX8_init_31 : decode cX8_init 31 = .ok (.bipush 24, 2) := by decide +kernel
theorem dX8_init_33 : decode cX8_init 33 = .ok (.newarray .int, 2) := by decide +kernel
theorem dX8_init_35 : decode cX8_init 35 = .ok (.putfield 19, 3) := by decide +kernel
theorem dX8_init_38 : decode cX8_init 38 = .ok (.aload_n 0, 1) := by decide +kernel
theorem dX8_init_39 : decode cX8_init 39 = .ok (.bipush 24, 2) := by decide +kernel
theorem dX8_init_41 : decode cX8_init 41 = .ok (.newarray .boolean, 2) := by decide +kernel
theorem dX8_init_43 : decode cX8_init 43 = .ok (.putfield 22, 3) := by decide +kernel
theorem dX8_init_46 : decode cX8_init 46 = .ok (.aload_n 0, 1) := by decide +kernel
theorem dX8_init_47 : decode cX8_init 47 = .ok (.bipush 24, 2) := by decide +kernel
theorem dX8_init_49 : decode cX8_init 49 = .ok (.newarray .int, 2) := by decide +kernel
theorem dX8_init_51 : decode cX8_init 51 = .ok (.putfield 26, 3) := by decide +kernel
theorem dX8_init_54 : decode cX8_init 54 = .ok (.aload_n 0, 1) := by decide +kernel
theorem dX8_init_55 : decode cX8_init 55 = .ok (.bipush 24, 2) := by decide +kernel
theorem dX8_init_57 : decode cX8_init 57 = .ok (.newarray .boolean, 2) := by decide +kernel
theorem dX8_init_59 : decode cX8_init 59 = .ok (.putfield 29, 3) := by decide +kernel
theorem dX8_init_62 : decode cX8_init 62 = .ok (.aload_n 0, 1) := by decide +kernel
theorem dX8_init_63 : decode cX8_init 63 = .ok (.bipush 24, 2) := by decide +kernel
theorem dX8_init_65 : decode cX8_init 65 = .ok (.newarray .int, 2) := by decide +kernel
theorem dX8_init_67 : decode cX8_init 67 = .ok (.putfield 32, 3) := by decide +kernel
theorem dX8_init_70 : decode cX8_init 70 = .ok (.aload_n 0, 1) := by decide +kernel
theorem dX8_init_71 : decode cX8_init 71 = .ok (.bipush 16, 2) := by decide +kernel
theorem dX8_init_73 : decode cX8_init 73 = .ok (.newarray .int, 2) := by decide +kernel
theorem dX8_init_75 : decode cX8_init 75 = .ok (.putfield 35, 3) := by decide +kernel
theorem dX8_init_78 : decode cX8_init 78 = .ok (.aload_n 0, 1) := by decide +kernel
theorem dX8_init_79 : decode cX8_init 79 = .ok (.bipush 16, 2) := by decide +kernel
theorem dX8_init_81 : decode cX8_init 81 = .ok (.newarray .int, 2) := by decide +kernel
theorem dX8_init_83 : decode cX8_init 83 = .ok (.putfield 38, 3) := by decide +kernel
theorem dX8_init_86 : decode cX8_init 86 = .ok (.aload_n 0, 1) := by decide +kernel
theorem dX8_init_87 : decode cX8_init 87 = .ok (.bipush 16, 2) := by decide +kernel
theorem dX8_init_89 : decode cX8_init 89 = .ok (.newarray .int, 2) := by decide +kernel
theorem dX8_init_91 : decode cX8_init 91 = .ok (.putfield 41, 3) := by decide +kernel
theorem dX8_init_94 : decode cX8_init 94 = .ok (.aload_n 0, 1) := by decide +kernel
theorem dX8_init_95 : decode cX8_init 95 = .ok (.bipush 16, 2) := by decide +kernel
theorem dX8_init_97 : decode cX8_init 97 = .ok (.newarray .int, 2) := by decide +kernel
theorem dX8_init_99 : decode cX8_init 99 = .ok (.putfield 44, 3) := by decide +kernel
theorem dX8_init_102 : decode cX8_init 102 = .ok (.aload_n 0, 1) := by decide +kernel
theorem dX8_init_103 : decode cX8_init 103 = .ok (.bipush 12, 2) := by decide +kernel
theorem dX8_init_105 : decode cX8_init 105 = .ok (.newarray .int, 2) := by decide +kernel
theorem dX8_init_107 : decode cX8_init 107 = .ok (.putfield 47, 3) := by decide +kernel
theorem dX8_init_110 : decode cX8_init 110 = .ok (.aload_n 0, 1) := by decide +kernel
theorem dX8_init_111 : decode cX8_init 111 = .ok (.sipush 200, 3) := by decide +kernel
theorem dX8_init_114 : decode cX8_init 114 = .ok (.newarray .int, 2) := by decide +kernel
theorem dX8_init_116 : decode cX8_init 116 = .ok (.putfield 50, 3) := by decide +kernel
theorem dX8_init_119 : decode cX8_init 119 = .ok (.aload_n 0, 1) := by decide +kernel
theorem dX8_init_120 : decode cX8_init 120 = .ok (.sipush 200, 3) := by decide +kernel
theorem dX8_init_123 : decode cX8_init 123 = .ok (.newarray .int, 2) := by decide +kernel
theorem dX8_init_125 : decode cX8_init 125 = .ok (.putfield 53, 3) := by decide +kernel
theorem dX8_init_128 : decode cX8_init 128 = .ok (.aload_n 0, 1) := by decide +kernel
theorem dX8_init_129 : decode cX8_init 129 = .ok (.sipush 200, 3) := by decide +kernel
theorem dX8_init_132 : decode cX8_init 132 = .ok (.newarray .int, 2) := by decide +kernel
theorem dX8_init_134 : decode cX8_init 134 = .ok (.putfield 56, 3) := by decide +kernel
theorem dX8_init_137 : decode cX8_init 137 = .ok (.aload_n 0, 1) := by decide +kernel
theorem dX8_init_138 : decode cX8_init 138 = .ok (.sipush 4800, 3) := by decide +kernel
theorem dX8_init_141 : decode cX8_init 141 = .ok (.newarray .int, 2) := by decide +kernel
theorem dX8_init_143 : decode cX8_init 143 = .ok (.putfield 59, 3) := by decide +kernel
theorem dX8_init_146 : decode cX8_init 146 = .ok (.aload_n 0, 1) := by decide +kernel
theorem dX8_init_147 : decode cX8_init 147 = .ok (.sipush 3200, 3) := by decide +kernel
theorem dX8_init_150 : decode cX8_init 150 = .ok (.newarray .int, 2) := by decide +kernel
theorem dX8_init_152 : decode cX8_init 152 = .ok (.putfield 62, 3) := by decide +kernel
theorem dX8_init_155 : decode cX8_init 155 = .ok (.aload_n 0, 1) := by decide +kernel
theorem dX8_init_156 : decode cX8_init 156 = .ok (.bipush 16, 2) := by decide +kernel
theorem dX8_init_158 : decode cX8_init 158 = .ok (.newarray .int, 2) := by decide +kernel
theorem dX8_init_160 : decode cX8_init 160 = .ok (.putfield 65, 3) := by decide +kernel
theorem dX8_init_163 : decode cX8_init 163 = .ok (.aload_n 0, 1) := by decide +kernel
theorem dX8_init_164 : decode cX8_init 164 = .ok (.bipush 16, 2) := by decide +kernel
theorem dX8_init_166 : decode cX8_init 166 = .ok (.newarray .int, 2) := by decide +kernel
theorem dX8_init_168 : decode cX8_init 168 = .ok (.putfield 68, 3) := by decide +kernel
theorem dX8_init_171 : decode cX8_init 171 = .ok (.aload_n 0, 1) := by decide +kernel
theorem dX8_init_172 : decode cX8_init 172 = .ok (.bipush 8, 2) := by decide +kernel
theorem dX8_init_174 : decode cX8_init 174 = .ok (.newarray .int, 2) := by decide +kernel
theorem dX8_init_176 : decode cX8_init 176 = .ok (.putfield 71, 3) := by decide +kernel
theorem dX8_init_179 : decode cX8_init 179 = .ok (.aload_n 0, 1) := by decide +kernel
theorem dX8_init_180 : decode cX8_init 180 = .ok (.bipush 16, 2) := by decide +kernel
theorem dX8_init_182 : decode cX8_init 182 = .ok (.newarray .int, 2) := by decide +kernel
theorem dX8_init_184 : decode cX8_init 184 = .ok (.putfield 74, 3) := by decide +kernel
theorem dX8_init_187 : decode cX8_init 187 = .ok (.return_, 1) := by decide +kernel
theorem dX8_thrown_0 : decode cX8_thrown 0 = .ok (.aload_n 0, 1) := by decide +kernel
theorem dX8_thrown_1 : decode cX8_thrown 1 = .ok (.getfield 77, 3) := by decide +kernel
theorem dX8_thrown_4 : decode cX8_thrown 4 = .ok (.ireturn, 1) := by decide +kernel
theorem dX8_isIn_0 : decode cX8_isIn 0 = .ok (.iload_n 0, 1) := by decide +kernel
theorem dX8_isIn_1 : decode cX8_isIn 1 = .ok (.iload_n 1, 1) := by decide +kernel
theorem dX8_isIn_2 : decode cX8_isIn 2 = .ok (.if_icmp .lt 12, 3) := by decide +kernel
theorem dX8_isIn_5 : decode cX8_isIn 5 = .ok (.iload_n 0, 1) := by decide +kernel
theorem dX8_isIn_6 : decode cX8_isIn 6 = .ok (.iload_n 2, 1) := by decide +kernel
theorem dX8_isIn_7 : decode cX8_isIn 7 = .ok (.if_icmp .gt 7, 3) := by decide +kernel
theorem dX8_isIn_10 : decode cX8_isIn 10 = .ok (.iconst 1, 1) := by decide +kernel
theorem dX8_isIn_11 : decode cX8_isIn 11 = .ok (.goto 4, 3) := by decide +kernel
theorem dX8_isIn_14 : decode cX8_isIn 14 = .ok (.iconst 0, 1) := by decide +kernel
theorem dX8_isIn_15 : decode cX8_isIn 15 = .ok (.ireturn, 1) := by decide +kernel
theorem dX8_type_0 : decode cX8_type 0 = .ok (.iload_n 1, 1) := by decide +kernel
theorem dX8_type_1 : decode cX8_type 1 = .ok (.bipush 97, 2) := by decide +kernel
theorem dX8_type_3 : decode cX8_type 3 = .ok (.if_icmp .lt 9, 3) := by decide +kernel
theorem dX8_type_6 : decode cX8_type 6 = .ok (.iload_n 1, 1) := by decide +kernel
theorem dX8_type_7 : decode cX8_type 7 = .ok (.bipush 122, 2) := by decide +kernel
theorem dX8_type_9 : decode cX8_type 9 = .ok (.if_icmp .le 21, 3) := by decide +kernel
theorem dX8_type_12 : decode cX8_type 12 = .ok (.iload_n 1, 1) := by decide +kernel
theorem dX8_type_13 : decode cX8_type 13 = .ok (.bipush 47, 2) := by decide +kernel
theorem dX8_type_15 : decode cX8_type 15 = .ok (.if_icmp .eq 15, 3) := by decide +kernel
theorem dX8_type_18 : decode cX8_type 18 = .ok (.iload_n 1, 1) := by decide +kernel
theorem dX8_type_19 : decode cX8_type 19 = .ok (.bipush 42, 2) := by decide +kernel
theorem dX8_type_21 : decode cX8_type 21 = .ok (.if_icmp .eq 9, 3) := by decide +kernel
theorem dX8_type_24 : decode cX8_type 24 = .ok (.iload_n 1, 1) := by decide +kernel
theorem dX8_type_25 : decode cX8_type 25 = .ok (.bipush 63, 2) := by decide +kernel
theorem dX8_type_27 : decode cX8_type 27 = .ok (.if_icmp .ne 7, 3) := by decide +kernel
theorem dX8_type_30 : decode cX8_type 30 = .ok (.iconst 1, 1) := by decide +kernel
theorem dX8_type_31 : decode cX8_type 31 = .ok (.goto 4, 3) := by decide +kernel
theorem dX8_type_34 : decode cX8_type 34 = .ok (.iconst 0, 1) := by decide +kernel
theorem dX8_type_35 : decode cX8_type 35 = .ok (.istore_n 2, 1) := by decide +kernel
theorem dX8_type_36 : decode cX8_type 36 = .ok (.aload_n 0, 1) := by decide +kernel
theorem dX8_type_37 : decode cX8_type 37 = .ok (.iload_n 2, 1) := by decide +kernel
theorem dX8_type_38 : decode cX8_type 38 = .ok (.ifCond .ne 7, 3) := by decide +kernel
theorem dX8_type_41 : decode cX8_type 41 = .ok (.iconst 1, 1) := by decide +kernel
theorem dX8_type_42 : decode cX8_type 42 = .ok (.goto 20, 3) := by decide +kernel
theorem dX8_type_45 : decode cX8_type 45 = .ok (.aload_n 0, 1) := by decide +kernel
theorem dX8_type_46 : decode cX8_type 46 = .ok (.getfield 13, 3) := by decide +kernel
theorem dX8_type_49 : decode cX8_type 49 = .ok (.bipush 76, 2) := by decide +kernel
theorem dX8_type_51 : decode cX8_type 51 = .ok (.iaload, 1) := by decide +kernel
theorem dX8_type_52 : decode cX8_type 52 = .ok (.bipush 24, 2) := by decide +kernel
theorem dX8_type_54 : decode cX8_type 54 = .ok (.if_icmp .ne 7, 3) := by decide +kernel
theorem dX8_type_57 : decode cX8_type 57 = .ok (.iconst 2, 1) := by decide +kernel
theorem dX8_type_58 : decode cX8_type 58 = .ok (.goto 4, 3) := by decide +kernel
theorem dX8_type_61 : decode cX8_type 61 = .ok (.iconst 0, 1) := by decide +kernel
theorem dX8_type_62 : decode cX8_type 62 = .ok (.putfield 77, 3) := by decide +kernel
theorem dX8_type_65 : decode cX8_type 65 = .ok (.aload_n 0, 1) := by decide +kernel
theorem dX8_type_66 : decode cX8_type 66 = .ok (.getfield 77, 3) := by decide +kernel
theorem dX8_type_69 : decode cX8_type 69 = .ok (.ifCond .le 5, 3) := by decide +kernel
theorem dX8_type_72 : decode cX8_type 72 = .ok (.iconst 0, 1) := by decide +kernel
theorem dX8_type_73 : decode cX8_type 73 = .ok (.ireturn, 1) := by decide +kernel
theorem dX8_type_74 : decode cX8_type 74 = .ok (.aload_n 0, 1) := by decide +kernel
theorem dX8_type_75 : decode cX8_type 75 = .ok (.getfield 7, 3) := by decide +kernel
theorem dX8_type_78 : decode cX8_type 78 = .ok (.sipush 1824, 3) := by decide +kernel
theorem dX8_type_81 : decode cX8_type 81 = .ok (.aload_n 0, 1) := by decide +kernel
theorem dX8_type_82 : decode cX8_type 82 = .ok (.getfield 13, 3) := by decide +kernel
theorem dX8_type_85 : decode cX8_type 85 = .ok (.bipush 76, 2) := by decide +kernel
theorem dX8_type_87 : decode cX8_type 87 = .ok (.iaload, 1) := by decide +kernel
theorem dX8_type_88 : decode cX8_type 88 = .ok (.iadd, 1) := by decide +kernel
theorem dX8_type_89 : decode cX8_type 89 = .ok (.iload_n 1, 1) := by decide +kernel
theorem dX8_type_90 : decode cX8_type 90 = .ok (.iastore, 1) := by decide +kernel
theorem dX8_type_91 : decode cX8_type 91 = .ok (.aload_n 0, 1) := by decide +kernel
theorem dX8_type_92 : decode cX8_type 92 = .ok (.getfield 13, 3) := by decide +kernel
theorem dX8_type_95 : decode cX8_type 95 = .ok (.bipush 76, 2) := by decide +kernel
theorem dX8_type_97 : decode cX8_type 97 = .ok (.dup2, 1) := by decide +kernel
theorem dX8_type_98 : decode cX8_type 98 = .ok (.iaload, 1) := by decide +kernel
theorem dX8_type_99 : decode cX8_type 99 = .ok (.iconst 1, 1) := by decide +kernel
theorem dX8_type_100 : decode cX8_type 100 = .ok (.iadd, 1) := by decide +kernel
theorem dX8_type_101 : decode cX8_type 101 = .ok (.iastore, 1) := by decide +kernel
theorem dX8_type_102 : decode cX8_type 102 = .ok (.aload_n 0, 1) := by decide +kernel
theorem dX8_type_103 : decode cX8_type 103 = .ok (.getfield 13, 3) := by decide +kernel
theorem dX8_type_106 : decode cX8_type 106 = .ok (.bipush 76, 2) := by decide +kernel
theorem dX8_type_108 : decode cX8_type 108 = .ok (.iaload, 1) := by decide +kernel
theorem dX8_type_109 : decode cX8_type 109 = .ok (.ireturn, 1) := by decide +kernel
theorem dX8_clearText_0 : decode cX8_clearText 0 = .ok (.aload_n 0, 1) := by decide +kernel
theorem dX8_clearText_1 : decode cX8_clearText 1 = .ok (.iconst 0, 1) := by decide +kernel
theorem dX8_clearText_2 : decode cX8_clearText 2 = .ok (.putfield 77, 3) := by decide +kernel
theorem dX8_clearText_5 : decode cX8_clearText 5 = .ok (.aload_n 0, 1) := by decide +kernel
theorem dX8_clearText_6 : decode cX8_clearText 6 = .ok (.getfield 13, 3) := by decide +kernel
theorem dX8_clearText_9 : decode cX8_clearText 9 = .ok (.bipush 76, 2) := by decide +kernel
theorem dX8_clearText_11 : decode cX8_clearText 11 = .ok (.iaload, 1) := by decide +kernel
theorem dX8_clearText_12 : decode cX8_clearText 12 = .ok (.istore_n 1, 1) := by decide +kernel
theorem dX8_clearText_13 : decode cX8_clearText 13 = .ok (.aload_n 0, 1) := by decide +kernel
theorem dX8_clearText_14 : decode cX8_clearText 14 = .ok (.getfield 13, 3) := by decide +kernel
theorem dX8_clearText_17 : decode cX8_clearText 17 = .ok (.bipush 76, 2) := by decide +kernel
theorem dX8_clearText_19 : decode cX8_clearText 19 = .ok (.iconst 0, 1) := by decide +kernel
theorem dX8_clearText_20 : decode cX8_clearText 20 = .ok (.iastore, 1) := by decide +kernel
theorem dX8_clearText_21 : decode cX8_clearText 21 = .ok (.iload_n 1, 1) := by decide +kernel
theorem dX8_clearText_22 : decode cX8_clearText 22 = .ok (.ireturn, 1) := by decide +kernel
theorem dX8_at_0 : decode cX8_at 0 = .ok (.iload_n 2, 1) := by decide +kernel
theorem dX8_at_1 : decode cX8_at 1 = .ok (.ifCond .lt 13, 3) := by decide +kernel
theorem dX8_at_4 : decode cX8_at 4 = .ok (.iload_n 2, 1) := by decide +kernel
theorem dX8_at_5 : decode cX8_at 5 = .ok (.aload_n 0, 1) := by decide +kernel
theorem dX8_at_6 : decode cX8_at 6 = .ok (.getfield 13, 3) := by decide +kernel
theorem dX8_at_9 : decode cX8_at 9 = .ok (.iload_n 1, 1) := by decide +kernel
theorem dX8_at_10 : decode cX8_at 10 = .ok (.iaload, 1) := by decide +kernel
theorem dX8_at_11 : decode cX8_at 11 = .ok (.if_icmp .lt 8, 3) := by decide +kernel
theorem dX8_at_14 : decode cX8_at 14 = .ok (.bipush 47, 2) := by decide +kernel
theorem dX8_at_16 : decode cX8_at 16 = .ok (.goto 14, 3) := by decide +kernel
theorem dX8_at_19 : decode cX8_at 19 = .ok (.aload_n 0, 1) := by decide +kernel
theorem dX8_at_20 : decode cX8_at 20 = .ok (.getfield 7, 3) := by decide +kernel
theorem dX8_at_23 : decode cX8_at 23 = .ok (.bipush 24, 2) := by decide +kernel
theorem dX8_at_25 : decode cX8_at 25 = .ok (.iload_n 1, 1) := by decide +kernel
theorem dX8_at_26 : decode cX8_at 26 = .ok (.imul, 1) := by decide +kernel
theorem dX8_at_27 : decode cX8_at 27 = .ok (.iload_n 2, 1) := by decide +kernel
theorem dX8_at_28 : decode cX8_at 28 = .ok (.iadd, 1) := by decide +kernel
theorem dX8_at_29 : decode cX8_at 29 = .ok (.iaload, 1) := by decide +kernel
theorem dX8_at_30 : decode cX8_at 30 = .ok (.ireturn, 1) := by decide +kernel
theorem dX8_hasEmpty_0 : decode cX8_hasEmpty 0 = .ok (.iconst 0, 1) := by decide +kernel
theorem dX8_hasEmpty_1 : decode cX8_hasEmpty 1 = .ok (.istore_n 1, 1) := by decide +kernel
theorem dX8_hasEmpty_2 : decode cX8_hasEmpty 2 = .ok (.iconst 0, 1) := by decide +kernel
theorem dX8_hasEmpty_3 : decode cX8_hasEmpty 3 = .ok (.istore_n 2, 1) := by decide +kernel
theorem dX8_hasEmpty_4 : decode cX8_hasEmpty 4 = .ok (.iload_n 2, 1) := by decide +kernel
theorem dX8_hasEmpty_5 : decode cX8_hasEmpty 5 = .ok (.aload_n 0, 1) := by decide +kernel
theorem dX8_hasEmpty_6 : decode cX8_hasEmpty 6 = .ok (.getfield 13, 3) := by decide +kernel
theorem dX8_hasEmpty_9 : decode cX8_hasEmpty 9 = .ok (.bipush 76, 2) := by decide +kernel
theorem dX8_hasEmpty_11 : decode cX8_hasEmpty 11 = .ok (.iaload, 1) := by decide +kernel
theorem dX8_hasEmpty_12 : decode cX8_hasEmpty 12 = .ok (.if_icmp .gt 43, 3) := by decide +kernel
theorem dX8_hasEmpty_15 : decode cX8_hasEmpty 15 = .ok (.iload_n 1, 1) := by decide +kernel
theorem dX8_hasEmpty_16 : decode cX8_hasEmpty 16 = .ok (.aload_n 0, 1) := by decide +kernel
theorem dX8_hasEmpty_17 : decode cX8_hasEmpty 17 = .ok (.bipush 76, 2) := by decide +kernel
theorem dX8_hasEmpty_19 : decode cX8_hasEmpty 19 = .ok (.iload_n 2, 1) := by decide +kernel
theorem dX8_hasEmpty_20 : decode cX8_hasEmpty 20 = .ok (.invokevirtual 81, 3) := by decide +kernel
theorem dX8_hasEmpty_23 : decode cX8_hasEmpty 23 = .ok (.bipush 47, 2) := by decide +kernel
theorem dX8_hasEmpty_25 : decode cX8_hasEmpty 25 = .ok (.if_icmp .ne 21, 3) := by decide +kernel
theorem dX8_hasEmpty_28 : decode cX8_hasEmpty 28 = .ok (.aload_n 0, 1) := by decide +kernel
theorem dX8_hasEmpty_29 : decode cX8_hasEmpty 29 = .ok (.bipush 76, 2) := by decide +kernel
theorem dX8_hasEmpty_31 : decode cX8_hasEmpty 31 = .ok (.iload_n 2, 1) := by decide +kernel
theorem dX8_hasEmpty_32 : decode cX8_hasEmpty 32 = .ok (.iconst 1, 1) := by decide +kernel
theorem dX8_hasEmpty_33 : decode cX8_hasEmpty 33 = .ok (.isub, 1) := by decide +kernel
theorem dX8_hasEmpty_34 : decode cX8_hasEmpty 34 = .ok (.invokevirtual 81, 3) := by decide +kernel
theorem dX8_hasEmpty_37 : decode cX8_hasEmpty 37 = .ok (.bipush 47, 2) := by decide +kernel
theorem dX8_hasEmpty_39 : decode cX8_hasEmpty 39 = .ok (.if_icmp .ne 7, 3) := by decide +kernel
theorem dX8_hasEmpty_42 : decode cX8_hasEmpty 42 = .ok (.iconst 1, 1) := by decide +kernel
theorem dX8_hasEmpty_43 : decode cX8_hasEmpty 43 = .ok (.goto 4, 3) := by decide +kernel
theorem dX8_hasEmpty_46 : decode cX8_hasEmpty 46 = .ok (.iconst 0, 1) := by decide +kernel
theorem dX8_hasEmpty_47 : decode cX8_hasEmpty 47 = .ok (.ior, 1) := by decide +kernel
theorem dX8_hasEmpty_48 : decode cX8_hasEmpty 48 = .ok (.istore_n 1, 1) := by decide +kernel
theorem dX8_hasEmpty_49 : decode cX8_hasEmpty 49 = .ok (.iinc 2 1, 3) := by decide +kernel
theorem dX8_hasEmpty_52 : decode cX8_hasEmpty 52 = .ok (.goto (-48), 3) := by decide +kernel
theorem dX8_hasEmpty_55 : decode cX8_hasEmpty 55 = .ok (.iload_n 1, 1) := by decide +kernel
theorem dX8_hasEmpty_56 : decode cX8_hasEmpty 56 = .ok (.ireturn, 1) := by decide +kernel
theorem dX8_isPathNow_0 : decode cX8_isPathNow 0 = .ok (.aload_n 0, 1) := by decide +kernel
theorem dX8_isPathNow_1 : decode cX8_isPathNow 1 = .ok (.invokevirtual 85, 3) := by decide +kernel
theorem dX8_isPathNow_4 : decode cX8_isPathNow 4 = .ok (.ifCond .ne 7, 3) := by decide +kernel
theorem dX8_isPathNow_7 : decode cX8_isPathNow 7 = .ok (.iconst 1, 1) := by decide +kernel
theorem dX8_isPathNow_8 : decode cX8_isPathNow 8 = .ok (.goto 4, 3) := by decide +kernel
theorem dX8_isPathNow_11 : decode cX8_isPathNow 11 = .ok (.iconst 0, 1) := by decide +kernel
theorem dX8_isPathNow_12 : decode cX8_isPathNow 12 = .ok (.istore_n 1, 1) := by decide +kernel
theorem dX8_isPathNow_13 : decode cX8_isPathNow 13 = .ok (.iconst 0, 1) := by decide +kernel
theorem dX8_isPathNow_14 : decode cX8_isPathNow 14 = .ok (.istore_n 2, 1) := by decide +kernel
theorem dX8_isPathNow_15 : decode cX8_isPathNow 15 = .ok (.iload_n 2, 1) := by decide +kernel
theorem dX8_isPathNow_16 : decode cX8_isPathNow 16 = .ok (.aload_n 0, 1) := by decide +kernel
theorem dX8_isPathNow_17 : decode cX8_isPathNow 17 = .ok (.getfield 13, 3) := by decide +kernel
theorem dX8_isPathNow_20 : decode cX8_isPathNow 20 = .ok (.bipush 76, 2) := by decide +kernel
theorem dX8_isPathNow_22 : decode cX8_isPathNow 22 = .ok (.iaload, 1) := by decide +kernel
theorem dX8_isPathNow_23 : decode cX8_isPathNow 23 = .ok (.if_icmp .ge 41, 3) := by decide +kernel
theorem dX8_isPathNow_26 : decode cX8_isPathNow 26 = .ok (.iload_n 1, 1) := by decide +kernel
theorem dX8_isPathNow_27 : decode cX8_isPathNow 27 = .ok (.aload_n 0, 1) := by decide +kernel
theorem dX8_isPathNow_28 : decode cX8_isPathNow 28 = .ok (.bipush 76, 2) := by decide +kernel
theorem dX8_isPathNow_30 : decode cX8_isPathNow 30 = .ok (.iload_n 2, 1) := by decide +kernel
theorem dX8_isPathNow_31 : decode cX8_isPathNow 31 = .ok (.invokevirtual 81, 3) := by decide +kernel
theorem dX8_isPathNow_34 : decode cX8_isPathNow 34 = .ok (.bipush 42, 2) := by decide +kernel
theorem dX8_isPathNow_36 : decode cX8_isPathNow 36 = .ok (.if_icmp .eq 19, 3) := by decide +kernel
theorem dX8_isPathNow_39 : decode cX8_isPathNow 39 = .ok (.aload_n 0, 1) := by decide +kernel
theorem dX8_isPathNow_40 : decode cX8_isPathNow 40 = .ok (.bipush 76, 2) := by decide +kernel
theorem dX8_isPathNow_42 : decode cX8_isPathNow 42 = .ok (.iload_n 2, 1) := by decide +kernel
theorem dX8_isPathNow_43 : decode cX8_isPathNow 43 = .ok (.invokevirtual 81, 3) := by decide +kernel
theorem dX8_isPathNow_46 : decode cX8_isPathNow 46 = .ok (.bipush 63, 2) := by decide +kernel
theorem dX8_isPathNow_48 : decode cX8_isPathNow 48 = .ok (.if_icmp .eq 7, 3) := by decide +kernel
theorem dX8_isPathNow_51 : decode cX8_isPathNow 51 = .ok (.iconst 1, 1) := by decide +kernel
theorem dX8_isPathNow_52 : decode cX8_isPathNow 52 = .ok (.goto 4, 3) := by decide +kernel
theorem dX8_isPathNow_55 : decode cX8_isPathNow 55 = .ok (.iconst 0, 1) := by decide +kernel
theorem dX8_isPathNow_56 : decode cX8_isPathNow 56 = .ok (.iand, 1) := by decide +kernel
theorem dX8_isPathNow_57 : decode cX8_isPathNow 57 = .ok (.istore_n 1, 1) := by decide +kernel
theorem dX8_isPathNow_58 : decode cX8_isPathNow 58 = .ok (.iinc 2 1, 3) := by decide +kernel
theorem dX8_isPathNow_61 : decode cX8_isPathNow 61 = .ok (.goto (-46), 3) := by decide +kernel
theorem dX8_isPathNow_64 : decode cX8_isPathNow 64 = .ok (.iload_n 1, 1) := by decide +kernel
theorem dX8_isPathNow_65 : decode cX8_isPathNow 65 = .ok (.ireturn, 1) := by decide +kernel
theorem dX8_isGlobNow_0 : decode cX8_isGlobNow 0 = .ok (.aload_n 0, 1) := by decide +kernel
theorem dX8_isGlobNow_1 : decode cX8_isGlobNow 1 = .ok (.invokevirtual 85, 3) := by decide +kernel
theorem dX8_isGlobNow_4 : decode cX8_isGlobNow 4 = .ok (.ifCond .ne 7, 3) := by decide +kernel
theorem dX8_isGlobNow_7 : decode cX8_isGlobNow 7 = .ok (.iconst 1, 1) := by decide +kernel
theorem dX8_isGlobNow_8 : decode cX8_isGlobNow 8 = .ok (.goto 4, 3) := by decide +kernel
theorem dX8_isGlobNow_11 : decode cX8_isGlobNow 11 = .ok (.iconst 0, 1) := by decide +kernel
theorem dX8_isGlobNow_12 : decode cX8_isGlobNow 12 = .ok (.istore_n 1, 1) := by decide +kernel
theorem dX8_isGlobNow_13 : decode cX8_isGlobNow 13 = .ok (.iconst 1, 1) := by decide +kernel
theorem dX8_isGlobNow_14 : decode cX8_isGlobNow 14 = .ok (.istore_n 2, 1) := by decide +kernel
theorem dX8_isGlobNow_15 : decode cX8_isGlobNow 15 = .ok (.iload_n 2, 1) := by decide +kernel
theorem dX8_isGlobNow_16 : decode cX8_isGlobNow 16 = .ok (.aload_n 0, 1) := by decide +kernel
theorem dX8_isGlobNow_17 : decode cX8_isGlobNow 17 = .ok (.getfield 13, 3) := by decide +kernel
theorem dX8_isGlobNow_20 : decode cX8_isGlobNow 20 = .ok (.bipush 76, 2) := by decide +kernel
theorem dX8_isGlobNow_22 : decode cX8_isGlobNow 22 = .ok (.iaload, 1) := by decide +kernel
theorem dX8_isGlobNow_23 : decode cX8_isGlobNow 23 = .ok (.if_icmp .ge 81, 3) := by decide +kernel
theorem dX8_isGlobNow_26 : decode cX8_isGlobNow 26 = .ok (.aload_n 0, 1) := by decide +kernel
theorem dX8_isGlobNow_27 : decode cX8_isGlobNow 27 = .ok (.bipush 76, 2) := by decide +kernel
theorem dX8_isGlobNow_29 : decode cX8_isGlobNow 29 = .ok (.iload_n 2, 1) := by decide +kernel
theorem dX8_isGlobNow_30 : decode cX8_isGlobNow 30 = .ok (.invokevirtual 81, 3) := by decide +kernel
theorem dX8_isGlobNow_33 : decode cX8_isGlobNow 33 = .ok (.bipush 42, 2) := by decide +kernel
theorem dX8_isGlobNow_35 : decode cX8_isGlobNow 35 = .ok (.if_icmp .ne 21, 3) := by decide +kernel
theorem dX8_isGlobNow_38 : decode cX8_isGlobNow 38 = .ok (.aload_n 0, 1) := by decide +kernel
theorem dX8_isGlobNow_39 : decode cX8_isGlobNow 39 = .ok (.bipush 76, 2) := by decide +kernel
theorem dX8_isGlobNow_41 : decode cX8_isGlobNow 41 = .ok (.iload_n 2, 1) := by decide +kernel
theorem dX8_isGlobNow_42 : decode cX8_isGlobNow 42 = .ok (.iconst 1, 1) := by decide +kernel
theorem dX8_isGlobNow_43 : decode cX8_isGlobNow 43 = .ok (.isub, 1) := by decide +kernel
theorem dX8_isGlobNow_44 : decode cX8_isGlobNow 44 = .ok (.invokevirtual 81, 3) := by decide +kernel
theorem dX8_isGlobNow_47 : decode cX8_isGlobNow 47 = .ok (.bipush 42, 2) := by decide +kernel
theorem dX8_isGlobNow_49 : decode cX8_isGlobNow 49 = .ok (.if_icmp .ne 7, 3) := by decide +kernel
theorem dX8_isGlobNow_52 : decode cX8_isGlobNow 52 = .ok (.iconst 1, 1) := by decide +kernel
theorem dX8_isGlobNow_53 : decode cX8_isGlobNow 53 = .ok (.goto 4, 3) := by decide +kernel
theorem dX8_isGlobNow_56 : decode cX8_isGlobNow 56 = .ok (.iconst 0, 1) := by decide +kernel
theorem dX8_isGlobNow_57 : decode cX8_isGlobNow 57 = .ok (.istore_n 3, 1) := by decide +kernel
theorem dX8_isGlobNow_58 : decode cX8_isGlobNow 58 = .ok (.iload_n 1, 1) := by decide +kernel
theorem dX8_isGlobNow_59 : decode cX8_isGlobNow 59 = .ok (.iload_n 3, 1) := by decide +kernel
theorem dX8_isGlobNow_60 : decode cX8_isGlobNow 60 = .ok (.ifCond .eq 31, 3) := by decide +kernel
theorem dX8_isGlobNow_63 : decode cX8_isGlobNow 63 = .ok (.aload_n 0, 1) := by decide +kernel
theorem dX8_isGlobNow_64 : decode cX8_isGlobNow 64 = .ok (.bipush 76, 2) := by decide +kernel
theorem dX8_isGlobNow_66 : decode cX8_isGlobNow 66 = .ok (.iload_n 2, 1) := by decide +kernel
theorem dX8_isGlobNow_67 : decode cX8_isGlobNow 67 = .ok (.iconst 2, 1) := by decide +kernel
theorem dX8_isGlobNow_68 : decode cX8_isGlobNow 68 = .ok (.isub, 1) := by decide +kernel
theorem dX8_isGlobNow_69 : decode cX8_isGlobNow 69 = .ok (.invokevirtual 81, 3) := by decide +kernel
theorem dX8_isGlobNow_72 : decode cX8_isGlobNow 72 = .ok (.bipush 47, 2) := by decide +kernel
theorem dX8_isGlobNow_74 : decode cX8_isGlobNow 74 = .ok (.if_icmp .ne 21, 3) := by decide +kernel
theorem dX8_isGlobNow_77 : decode cX8_isGlobNow 77 = .ok (.aload_n 0, 1) := by decide +kernel
theorem dX8_isGlobNow_78 : decode cX8_isGlobNow 78 = .ok (.bipush 76, 2) := by decide +kernel
theorem dX8_isGlobNow_80 : decode cX8_isGlobNow 80 = .ok (.iload_n 2, 1) := by decide +kernel
theorem dX8_isGlobNow_81 : decode cX8_isGlobNow 81 = .ok (.iconst 1, 1) := by decide +kernel
theorem dX8_isGlobNow_82 : decode cX8_isGlobNow 82 = .ok (.iadd, 1) := by decide +kernel
theorem dX8_isGlobNow_83 : decode cX8_isGlobNow 83 = .ok (.invokevirtual 81, 3) := by decide +kernel
theorem dX8_isGlobNow_86 : decode cX8_isGlobNow 86 = .ok (.bipush 47, 2) := by decide +kernel
theorem dX8_isGlobNow_88 : decode cX8_isGlobNow 88 = .ok (.if_icmp .ne 7, 3) := by decide +kernel
theorem dX8_isGlobNow_91 : decode cX8_isGlobNow 91 = .ok (.iconst 1, 1) := by decide +kernel
theorem dX8_isGlobNow_92 : decode cX8_isGlobNow 92 = .ok (.goto 4, 3) := by decide +kernel
theorem dX8_isGlobNow_95 : decode cX8_isGlobNow 95 = .ok (.iconst 0, 1) := by decide +kernel
theorem dX8_isGlobNow_96 : decode cX8_isGlobNow 96 = .ok (.iand, 1) := by decide +kernel
theorem dX8_isGlobNow_97 : decode cX8_isGlobNow 97 = .ok (.istore_n 1, 1) := by decide +kernel
theorem dX8_isGlobNow_98 : decode cX8_isGlobNow 98 = .ok (.iinc 2 1, 3) := by decide +kernel
theorem dX8_isGlobNow_101 : decode cX8_isGlobNow 101 = .ok (.goto (-86), 3) := by decide +kernel
theorem dX8_isGlobNow_104 : decode cX8_isGlobNow 104 = .ok (.iload_n 1, 1) := by decide +kernel
theorem dX8_isGlobNow_105 : decode cX8_isGlobNow 105 = .ok (.ireturn, 1) := by decide +kernel
theorem dX8_isPath_0 : decode cX8_isPath 0 = .ok (.aload_n 0, 1) := by decide +kernel
theorem dX8_isPath_1 : decode cX8_isPath 1 = .ok (.iconst 0, 1) := by decide +kernel
theorem dX8_isPath_2 : decode cX8_isPath 2 = .ok (.putfield 77, 3) := by decide +kernel
theorem dX8_isPath_5 : decode cX8_isPath 5 = .ok (.aload_n 0, 1) := by decide +kernel
theorem dX8_isPath_6 : decode cX8_isPath 6 = .ok (.invokevirtual 89, 3) := by decide +kernel
theorem dX8_isPath_9 : decode cX8_isPath 9 = .ok (.ireturn, 1) := by decide +kernel
theorem dX8_isGlob_0 : decode cX8_isGlob 0 = .ok (.aload_n 0, 1) := by decide +kernel
theorem dX8_isGlob_1 : decode cX8_isGlob 1 = .ok (.iconst 0, 1) := by decide +kernel
theorem dX8_isGlob_2 : decode cX8_isGlob 2 = .ok (.putfield 77, 3) := by decide +kernel
theorem dX8_isGlob_5 : decode cX8_isGlob 5 = .ok (.aload_n 0, 1) := by decide +kernel
theorem dX8_isGlob_6 : decode cX8_isGlob 6 = .ok (.invokevirtual 92, 3) := by decide +kernel
theorem dX8_isGlob_9 : decode cX8_isGlob 9 = .ok (.ireturn, 1) := by decide +kernel
theorem dX8_pathAt_0 : decode cX8_pathAt 0 = .ok (.iload_n 2, 1) := by decide +kernel
theorem dX8_pathAt_1 : decode cX8_pathAt 1 = .ok (.ifCond .lt 13, 3) := by decide +kernel
theorem dX8_pathAt_4 : decode cX8_pathAt 4 = .ok (.iload_n 2, 1) := by decide +kernel
theorem dX8_pathAt_5 : decode cX8_pathAt 5 = .ok (.aload_n 0, 1) := by decide +kernel
theorem dX8_pathAt_6 : decode cX8_pathAt 6 = .ok (.getfield 19, 3) := by decide +kernel
theorem dX8_pathAt_9 : decode cX8_pathAt 9 = .ok (.iload_n 1, 1) := by decide +kernel
theorem dX8_pathAt_10 : decode cX8_pathAt 10 = .ok (.iaload, 1) := by decide +kernel
theorem dX8_pathAt_11 : decode cX8_pathAt 11 = .ok (.if_icmp .lt 8, 3) := by decide +kernel
theorem dX8_pathAt_14 : decode cX8_pathAt 14 = .ok (.bipush 47, 2) := by decide +kernel
theorem dX8_pathAt_16 : decode cX8_pathAt 16 = .ok (.goto 14, 3) := by decide +kernel
theorem dX8_pathAt_19 : decode cX8_pathAt 19 = .ok (.aload_n 0, 1) := by decide +kernel
theorem dX8_pathAt_20 : decode cX8_pathAt 20 = .ok (.getfield 16, 3) := by decide +kernel
theorem dX8_pathAt_23 : decode cX8_pathAt 23 = .ok (.bipush 24, 2) := by decide +kernel
theorem dX8_pathAt_25 : decode cX8_pathAt 25 = .ok (.iload_n 1, 1) := by decide +kernel
theorem dX8_pathAt_26 : decode cX8_pathAt 26 = .ok (.imul, 1) := by decide +kernel
theorem dX8_pathAt_27 : decode cX8_pathAt 27 = .ok (.iload_n 2, 1) := by decide +kernel
theorem dX8_pathAt_28 : decode cX8_pathAt 28 = .ok (.iadd, 1) := by decide +kernel
theorem dX8_pathAt_29 : decode cX8_pathAt 29 = .ok (.iaload, 1) := by decide +kernel
theorem dX8_pathAt_30 : decode cX8_pathAt 30 = .ok (.ireturn, 1) := by decide +kernel
theorem dX8_isLaid_0 : decode cX8_isLaid 0 = .ok (.iconst 1, 1) := by decide +kernel
theorem dX8_isLaid_1 : decode cX8_isLaid 1 = .ok (.istore 7, 2) := by decide +kernel
theorem dX8_isLaid_3 : decode cX8_isLaid 3 = .ok (.iconst 1, 1) := by decide +kernel
theorem dX8_isLaid_4 : decode cX8_isLaid 4 = .ok (.iload 6, 2) := by decide +kernel
theorem dX8_isLaid_6 : decode cX8_isLaid 6 = .ok (.iload 5, 2) := by decide +kernel
theorem dX8_isLaid_8 : decode cX8_isLaid 8 = .ok (.isub, 1) := by decide +kernel
theorem dX8_isLaid_9 : decode cX8_isLaid 9 = .ok (.iconst 1, 1) := by decide +kernel
theorem dX8_isLaid_10 : decode cX8_isLaid 10 = .ok (.iadd, 1) := by decide +kernel
theorem dX8_isLaid_11 : decode cX8_isLaid 11 = .ok (.ishl, 1) := by decide +kernel
theorem dX8_isLaid_12 : decode cX8_isLaid 12 = .ok (.iconst 1, 1) := by decide +kernel
theorem dX8_isLaid_13 : decode cX8_isLaid 13 = .ok (.isub, 1) := by decide +kernel
theorem dX8_isLaid_14 : decode cX8_isLaid 14 = .ok (.istore 8, 2) := by decide +kernel
theorem dX8_isLaid_16 : decode cX8_isLaid 16 = .ok (.iload_n 2, 1) := by decide +kernel
theorem dX8_isLaid_17 : decode cX8_isLaid 17 = .ok (.istore 9, 2) := by decide +kernel
theorem dX8_isLaid_19 : decode cX8_isLaid 19 = .ok (.iload 9, 2) := by decide +kernel
theorem dX8_isLaid_21 : decode cX8_isLaid 21 = .ok (.iload_n 3, 1) := by decide +kernel
theorem dX8_isLaid_22 : decode cX8_isLaid 22 = .ok (.if_icmp .ge 134, 3) := by decide +kernel
theorem dX8_isLaid_25 : decode cX8_isLaid 25 = .ok (.aload_n 0, 1) := by decide +kernel
theorem dX8_isLaid_26 : decode cX8_isLaid 26 = .ok (.iload_n 1, 1) := by decide +kernel
theorem dX8_isLaid_27 : decode cX8_isLaid 27 = .ok (.iload 9, 2) := by decide +kernel
theorem dX8_isLaid_29 : decode cX8_isLaid 29 = .ok (.invokevirtual 81, 3) := by decide +kernel
theorem dX8_isLaid_32 : decode cX8_isLaid 32 = .ok (.istore 10, 2) := by decide +kernel
theorem dX8_isLaid_34 : decode cX8_isLaid 34 = .ok (.iconst 0, 1) := by decide +kernel
theorem dX8_isLaid_35 : decode cX8_isLaid 35 = .ok (.istore 11, 2) := by decide +kernel
theorem dX8_isLaid_37 : decode cX8_isLaid 37 = .ok (.iconst 0, 1) := by decide +kernel
theorem dX8_isLaid_38 : decode cX8_isLaid 38 = .ok (.istore 12, 2) := by decide +kernel
theorem dX8_isLaid_40 : decode cX8_isLaid 40 = .ok (.iload 12, 2) := by decide +kernel
theorem dX8_isLaid_42 : decode cX8_isLaid 42 = .ok (.iload 6, 2) := by decide +kernel
theorem dX8_isLaid_44 : decode cX8_isLaid 44 = .ok (.iload 5, 2) := by decide +kernel
theorem dX8_isLaid_46 : decode cX8_isLaid 46 = .ok (.isub, 1) := by decide +kernel
theorem dX8_isLaid_47 : decode cX8_isLaid 47 = .ok (.if_icmp .gt 99, 3) := by decide +kernel
theorem dX8_isLaid_50 : decode cX8_isLaid 50 = .ok (.iload 7, 2) := by decide +kernel
theorem dX8_isLaid_52 : decode cX8_isLaid 52 = .ok (.iload 12, 2) := by decide +kernel
theorem dX8_isLaid_54 : decode cX8_isLaid 54 = .ok (.ishr, 1) := by decide +kernel
theorem dX8_isLaid_55 : decode cX8_isLaid 55 = .ok (.iconst 1, 1) := by decide +kernel
theorem dX8_isLaid_56 : decode cX8_isLaid 56 = .ok (.iand, 1) := by decide +kernel
theorem dX8_isLaid_57 : decode cX8_isLaid 57 = .ok (.iconst 1, 1) := by decide +kernel
theorem dX8_isLaid_58 : decode cX8_isLaid 58 = .ok (.if_icmp .ne 82, 3) := by decide +kernel
theorem dX8_isLaid_61 : decode cX8_isLaid 61 = .ok (.iload 12, 2) := by decide +kernel
theorem dX8_isLaid_63 : decode cX8_isLaid 63 = .ok (.iload 6, 2) := by decide +kernel
theorem dX8_isLaid_65 : decode cX8_isLaid 65 = .ok (.iload 5, 2) := by decide +kernel
theorem dX8_isLaid_67 : decode cX8_isLaid 67 = .ok (.isub, 1) := by decide +kernel
theorem dX8_isLaid_68 : decode cX8_isLaid 68 = .ok (.if_icmp .ge 30, 3) := by decide +kernel
theorem dX8_isLaid_71 : decode cX8_isLaid 71 = .ok (.iload 10, 2) := by decide +kernel
theorem dX8_isLaid_73 : decode cX8_isLaid 73 = .ok (.bipush 63, 2) := by decide +kernel
theorem dX8_isLaid_75 : decode cX8_isLaid 75 = .ok (.if_icmp .eq 19, 3) := by decide +kernel
theorem dX8_isLaid_78 : decode cX8_isLaid 78 = .ok (.iload 10, 2) := by decide +kernel
theorem dX8_isLaid_80 : decode cX8_isLaid 80 = .ok (.aload_n 0, 1) := by decide +kernel
theorem dX8_isLaid_81 : decode cX8_isLaid 81 = .ok (.iload 4, 2) := by decide +kernel
theorem dX8_isLaid_83 : decode cX8_isLaid 83 = .ok (.iload 5, 2) := by decide +kernel
theorem dX8_isLaid_85 : decode cX8_isLaid 85 = .ok (.iload 12, 2) := by decide +kernel
theorem dX8_isLaid_87 : decode cX8_isLaid 87 = .ok (.iadd, 1) := by decide +kernel
theorem dX8_isLaid_88 : decode cX8_isLaid 88 = .ok (.invokevirtual 95, 3) := by decide +kernel
theorem dX8_isLaid_91 : decode cX8_isLaid 91 = .ok (.if_icmp .ne 7, 3) := by decide +kernel
theorem dX8_isLaid_94 : decode cX8_isLaid 94 = .ok (.iconst 1, 1) := by decide +kernel
theorem dX8_isLaid_95 : decode cX8_isLaid 95 = .ok (.goto 4, 3) := by decide +kernel
theorem dX8_isLaid_98 : decode cX8_isLaid 98 = .ok (.iconst 0, 1) := by decide +kernel
theorem dX8_isLaid_99 : decode cX8_isLaid 99 = .ok (.istore 13, 2) := by decide +kernel
theorem dX8_isLaid_101 : decode cX8_isLaid 101 = .ok (.iload 11, 2) := by decide +kernel
theorem dX8_isLaid_103 : decode cX8_isLaid 103 = .ok (.iload 10, 2) := by decide +kernel
theorem dX8_isLaid_105 : decode cX8_isLaid 105 = .ok (.bipush 42, 2) := by decide +kernel
theorem dX8_isLaid_107 : decode cX8_isLaid 107 = .ok (.if_icmp .ne 17, 3) := by decide +kernel
theorem dX8_isLaid_110 : decode cX8_isLaid 110 = .ok (.iload 8, 2) := by decide +kernel
theorem dX8_isLaid_112 : decode cX8_isLaid 112 = .ok (.iconst 1, 1) := by decide +kernel
theorem dX8_isLaid_113 : decode cX8_isLaid 113 = .ok (.iload 12, 2) := by decide +kernel
theorem dX8_isLaid_115 : decode cX8_isLaid 115 = .ok (.ishl, 1) := by decide +kernel
theorem dX8_isLaid_116 : decode cX8_isLaid 116 = .ok (.iconst 1, 1) := by decide +kernel
theorem dX8_isLaid_117 : decode cX8_isLaid 117 = .ok (.isub, 1) := by decide +kernel
theorem dX8_isLaid_118 : decode cX8_isLaid 118 = .ok (.iconst (-1), 1) := by decide +kernel
theorem dX8_isLaid_119 : decode cX8_isLaid 119 = .ok (.ixor, 1) := by decide +kernel
theorem dX8_isLaid_120 : decode cX8_isLaid 120 = .ok (.iand, 1) := by decide +kernel
theorem dX8_isLaid_121 : decode cX8_isLaid 121 = .ok (.goto 16, 3) := by decide +kernel
theorem dX8_isLaid_124 : decode cX8_isLaid 124 = .ok (.iload 13, 2) := by decide +kernel
theorem dX8_isLaid_126 : decode cX8_isLaid 126 = .ok (.ifCond .eq 10, 3) := by decide +kernel
theorem dX8_isLaid_129 : decode cX8_isLaid 129 = .ok (.iconst 2, 1) := by decide +kernel
theorem dX8_isLaid_130 : decode cX8_isLaid 130 = .ok (.iload 12, 2) := by decide +kernel
theorem dX8_isLaid_132 : decode cX8_isLaid 132 = .ok (.ishl, 1) := by decide +kernel
theorem dX8_isLaid_133 : decode cX8_isLaid 133 = .ok (.goto 4, 3) := by decide +kernel
theorem dX8_isLaid_136 : decode cX8_isLaid 136 = .ok (.iconst 0, 1) := by decide +kernel
theorem dX8_isLaid_137 : decode cX8_isLaid 137 = .ok (.ior, 1) := by decide +kernel
theorem dX8_isLaid_138 : decode cX8_isLaid 138 = .ok (.istore 11, 2) := by decide +kernel
theorem dX8_isLaid_140 : decode cX8_isLaid 140 = .ok (.iinc 12 1, 3) := by decide +kernel
theorem dX8_isLaid_143 : decode cX8_isLaid 143 = .ok (.goto (-103), 3) := by decide +kernel
theorem dX8_isLaid_146 : decode cX8_isLaid 146 = .ok (.iload 11, 2) := by decide +kernel
theorem dX8_isLaid_148 : decode cX8_isLaid 148 = .ok (.istore 7, 2) := by decide +kernel
theorem dX8_isLaid_150 : decode cX8_isLaid 150 = .ok (.iinc 9 1, 3) := by decide +kernel
theorem dX8_isLaid_153 : decode cX8_isLaid 153 = .ok (.goto (-134), 3) := by decide +kernel
theorem dX8_isLaid_156 : decode cX8_isLaid 156 = .ok (.iload 7, 2) := by decide +kernel
theorem dX8_isLaid_158 : decode cX8_isLaid 158 = .ok (.iload 6, 2) := by decide +kernel
theorem dX8_isLaid_160 : decode cX8_isLaid 160 = .ok (.iload 5, 2) := by decide +kernel
theorem dX8_isLaid_162 : decode cX8_isLaid 162 = .ok (.isub, 1) := by decide +kernel
theorem dX8_isLaid_163 : decode cX8_isLaid 163 = .ok (.ishr, 1) := by decide +kernel
theorem dX8_isLaid_164 : decode cX8_isLaid 164 = .ok (.iconst 1, 1) := by decide +kernel
theorem dX8_isLaid_165 : decode cX8_isLaid 165 = .ok (.iand, 1) := by decide +kernel
theorem dX8_isLaid_166 : decode cX8_isLaid 166 = .ok (.iconst 1, 1) := by decide +kernel
theorem dX8_isLaid_167 : decode cX8_isLaid 167 = .ok (.if_icmp .ne 7, 3) := by decide +kernel
theorem dX8_isLaid_170 : decode cX8_isLaid 170 = .ok (.iconst 1, 1) := by decide +kernel
theorem dX8_isLaid_171 : decode cX8_isLaid 171 = .ok (.goto 4, 3) := by decide +kernel
theorem dX8_isLaid_174 : decode cX8_isLaid 174 = .ok (.iconst 0, 1) := by decide +kernel
theorem dX8_isLaid_175 : decode cX8_isLaid 175 = .ok (.ireturn, 1) := by decide +kernel
theorem dX8_endOf_0 : decode cX8_endOf 0 = .ok (.iload_n 2, 1) := by decide +kernel
theorem dX8_endOf_1 : decode cX8_endOf 1 = .ok (.istore_n 3, 1) := by decide +kernel
theorem dX8_endOf_2 : decode cX8_endOf 2 = .ok (.aload_n 0, 1) := by decide +kernel
theorem dX8_endOf_3 : decode cX8_endOf 3 = .ok (.iload_n 1, 1) := by decide +kernel
theorem dX8_endOf_4 : decode cX8_endOf 4 = .ok (.iload_n 3, 1) := by decide +kernel
theorem dX8_endOf_5 : decode cX8_endOf 5 = .ok (.invokevirtual 95, 3) := by decide +kernel
theorem dX8_endOf_8 : decode cX8_endOf 8 = .ok (.bipush 47, 2) := by decide +kernel
theorem dX8_endOf_10 : decode cX8_endOf 10 = .ok (.if_icmp .eq 9, 3) := by decide +kernel
theorem dX8_endOf_13 : decode cX8_endOf 13 = .ok (.iinc 3 1, 3) := by decide +kernel
theorem dX8_endOf_16 : decode cX8_endOf 16 = .ok (.goto (-14), 3) := by decide +kernel
theorem dX8_endOf_19 : decode cX8_endOf 19 = .ok (.iload_n 3, 1) := by decide +kernel
theorem dX8_endOf_20 : decode cX8_endOf 20 = .ok (.ireturn, 1) := by decide +kernel
theorem dX8_begins_0 : decode cX8_begins 0 = .ok (.iconst 0, 1) := by decide +kernel
theorem dX8_begins_1 : decode cX8_begins 1 = .ok (.istore_n 3, 1) := by decide +kernel
theorem dX8_begins_2 : decode cX8_begins 2 = .ok (.iload_n 2, 1) := by decide +kernel
theorem dX8_begins_3 : decode cX8_begins 3 = .ok (.istore 4, 2) := by decide +kernel
theorem dX8_begins_5 : decode cX8_begins 5 = .ok (.iload 4, 2) := by decide +kernel
theorem dX8_begins_7 : decode cX8_begins 7 = .ok (.aload_n 0, 1) := by decide +kernel
theorem dX8_begins_8 : decode cX8_begins 8 = .ok (.getfield 19, 3) := by decide +kernel
theorem dX8_begins_11 : decode cX8_begins 11 = .ok (.iload_n 1, 1) := by decide +kernel
theorem dX8_begins_12 : decode cX8_begins 12 = .ok (.iaload, 1) := by decide +kernel
theorem dX8_begins_13 : decode cX8_begins 13 = .ok (.iconst 1, 1) := by decide +kernel
theorem dX8_begins_14 : decode cX8_begins 14 = .ok (.iadd, 1) := by decide +kernel
theorem dX8_begins_15 : decode cX8_begins 15 = .ok (.if_icmp .gt 58, 3) := by decide +kernel
theorem dX8_begins_18 : decode cX8_begins 18 = .ok (.iload_n 3, 1) := by decide +kernel
theorem dX8_begins_19 : decode cX8_begins 19 = .ok (.iload 4, 2) := by decide +kernel
theorem dX8_begins_21 : decode cX8_begins 21 = .ok (.aload_n 0, 1) := by decide +kernel
theorem dX8_begins_22 : decode cX8_begins 22 = .ok (.getfield 19, 3) := by decide +kernel
theorem dX8_begins_25 : decode cX8_begins 25 = .ok (.iload_n 1, 1) := by decide +kernel
theorem dX8_begins_26 : decode cX8_begins 26 = .ok (.iaload, 1) := by decide +kernel
theorem dX8_begins_27 : decode cX8_begins 27 = .ok (.iconst 1, 1) := by decide +kernel
theorem dX8_begins_28 : decode cX8_begins 28 = .ok (.iadd, 1) := by decide +kernel
theorem dX8_begins_29 : decode cX8_begins 29 = .ok (.if_icmp .eq 28, 3) := by decide +kernel
theorem dX8_begins_32 : decode cX8_begins 32 = .ok (.aload_n 0, 1) := by decide +kernel
theorem dX8_begins_33 : decode cX8_begins 33 = .ok (.iload_n 1, 1) := by decide +kernel
theorem dX8_begins_34 : decode cX8_begins 34 = .ok (.iload 4, 2) := by decide +kernel
theorem dX8_begins_36 : decode cX8_begins 36 = .ok (.iconst 1, 1) := by decide +kernel
theorem dX8_begins_37 : decode cX8_begins 37 = .ok (.isub, 1) := by decide +kernel
theorem dX8_begins_38 : decode cX8_begins 38 = .ok (.invokevirtual 95, 3) := by decide +kernel
theorem dX8_begins_41 : decode cX8_begins 41 = .ok (.bipush 47, 2) := by decide +kernel
theorem dX8_begins_43 : decode cX8_begins 43 = .ok (.if_icmp .ne 21, 3) := by decide +kernel
theorem dX8_begins_46 : decode cX8_begins 46 = .ok (.iload 4, 2) := by decide +kernel
theorem dX8_begins_48 : decode cX8_begins 48 = .ok (.aload_n 0, 1) := by decide +kernel
theorem dX8_begins_49 : decode cX8_begins 49 = .ok (.getfield 19, 3) := by decide +kernel
theorem dX8_begins_52 : decode cX8_begins 52 = .ok (.iload_n 1, 1) := by decide +kernel
theorem dX8_begins_53 : decode cX8_begins 53 = .ok (.iaload, 1) := by decide +kernel
theorem dX8_begins_54 : decode cX8_begins 54 = .ok (.if_icmp .ge 10, 3) := by decide +kernel
theorem dX8_begins_57 : decode cX8_begins 57 = .ok (.iconst 1, 1) := by decide +kernel
theorem dX8_begins_58 : decode cX8_begins 58 = .ok (.iload 4, 2) := by decide +kernel
theorem dX8_begins_60 : decode cX8_begins 60 = .ok (.ishl, 1) := by decide +kernel
theorem dX8_begins_61 : decode cX8_begins 61 = .ok (.goto 4, 3) := by decide +kernel
theorem dX8_begins_64 : decode cX8_begins 64 = .ok (.iconst 0, 1) := by decide +kernel
theorem dX8_begins_65 : decode cX8_begins 65 = .ok (.ior, 1) := by decide +kernel
theorem dX8_begins_66 : decode cX8_begins 66 = .ok (.istore_n 3, 1) := by decide +kernel
theorem dX8_begins_67 : decode cX8_begins 67 = .ok (.iinc 4 1, 3) := by decide +kernel
theorem dX8_begins_70 : decode cX8_begins 70 = .ok (.goto (-65), 3) := by decide +kernel
theorem dX8_begins_73 : decode cX8_begins 73 = .ok (.iload_n 3, 1) := by decide +kernel
theorem dX8_begins_74 : decode cX8_begins 74 = .ok (.ireturn, 1) := by decide +kernel
theorem dX8_isMatched_0 : decode cX8_isMatched 0 = .ok (.iconst 1, 1) := by decide +kernel
theorem dX8_isMatched_1 : decode cX8_isMatched 1 = .ok (.istore_n 3, 1) := by decide +kernel
theorem dX8_isMatched_2 : decode cX8_isMatched 2 = .ok (.iconst 0, 1) := by decide +kernel
theorem dX8_isMatched_3 : decode cX8_isMatched 3 = .ok (.istore 4, 2) := by decide +kernel
theorem dX8_isMatched_5 : decode cX8_isMatched 5 = .ok (.iload 4, 2) := by decide +kernel
theorem dX8_isMatched_7 : decode cX8_isMatched 7 = .ok (.aload_n 0, 1) := by decide +kernel
theorem dX8_isMatched_8 : decode cX8_isMatched 8 = .ok (.getfield 13, 3) := by decide +kernel
theorem dX8_isMatched_11 : decode cX8_isMatched 11 = .ok (.iload_n 1, 1) := by decide +kernel
theorem dX8_isMatched_12 : decode cX8_isMatched 12 = .ok (.iaload, 1) := by decide +kernel
theorem dX8_isMatched_13 : decode cX8_isMatched 13 = .ok (.if_icmp .gt 207, 3) := by decide +kernel
theorem dX8_isMatched_16 : decode cX8_isMatched 16 = .ok (.iload 4, 2) := by decide +kernel
theorem dX8_isMatched_18 : decode cX8_isMatched 18 = .ok (.istore 5, 2) := by decide +kernel
theorem dX8_isMatched_20 : decode cX8_isMatched 20 = .ok (.aload_n 0, 1) := by decide +kernel
theorem dX8_isMatched_21 : decode cX8_isMatched 21 = .ok (.iload_n 1, 1) := by decide +kernel
theorem dX8_isMatched_22 : decode cX8_isMatched 22 = .ok (.iload 5, 2) := by decide +kernel
theorem dX8_isMatched_24 : decode cX8_isMatched 24 = .ok (.invokevirtual 81, 3) := by decide +kernel
theorem dX8_isMatched_27 : decode cX8_isMatched 27 = .ok (.bipush 47, 2) := by decide +kernel
theorem dX8_isMatched_29 : decode cX8_isMatched 29 = .ok (.if_icmp .eq 9, 3) := by decide +kernel
theorem dX8_isMatched_32 : decode cX8_isMatched 32 = .ok (.iinc 5 1, 3) := by decide +kernel
theorem dX8_isMatched_35 : decode cX8_isMatched 35 = .ok (.goto (-15), 3) := by decide +kernel
theorem dX8_isMatched_38 : decode cX8_isMatched 38 = .ok (.iload 5, 2) := by decide +kernel
theorem dX8_isMatched_40 : decode cX8_isMatched 40 = .ok (.iload 4, 2) := by decide +kernel
theorem dX8_isMatched_42 : decode cX8_isMatched 42 = .ok (.isub, 1) := by decide +kernel
theorem dX8_isMatched_43 : decode cX8_isMatched 43 = .ok (.iconst 2, 1) := by decide +kernel
theorem dX8_isMatched_44 : decode cX8_isMatched 44 = .ok (.if_icmp .ne 33, 3) := by decide +kernel
theorem dX8_isMatched_47 : decode cX8_isMatched 47 = .ok (.aload_n 0, 1) := by decide +kernel
theorem dX8_isMatched_48 : decode cX8_isMatched 48 = .ok (.iload_n 1, 1) := by decide +kernel
theorem dX8_isMatched_49 : decode cX8_isMatched 49 = .ok (.iload 4, 2) := by decide +kernel
theorem dX8_isMatched_51 : decode cX8_isMatched 51 = .ok (.invokevirtual 81, 3) := by decide +kernel
theorem dX8_isMatched_54 : decode cX8_isMatched 54 = .ok (.bipush 42, 2) := by decide +kernel
theorem dX8_isMatched_56 : decode cX8_isMatched 56 = .ok (.if_icmp .ne 21, 3) := by decide +kernel
theorem dX8_isMatched_59 : decode cX8_isMatched 59 = .ok (.aload_n 0, 1) := by decide +kernel
theorem dX8_isMatched_60 : decode cX8_isMatched 60 = .ok (.iload_n 1, 1) := by decide +kernel
theorem dX8_isMatched_61 : decode cX8_isMatched 61 = .ok (.iload 4, 2) := by decide +kernel
theorem dX8_isMatched_63 : decode cX8_isMatched 63 = .ok (.iconst 1, 1) := by decide +kernel
theorem dX8_isMatched_64 : decode cX8_isMatched 64 = .ok (.iadd, 1) := by decide +kernel
theorem dX8_isMatched_65 : decode cX8_isMatched 65 = .ok (.invokevirtual 81, 3) := by decide +kernel
theorem dX8_isMatched_68 : decode cX8_isMatched 68 = .ok (.bipush 42, 2) := by decide +kernel
theorem dX8_isMatched_70 : decode cX8_isMatched 70 = .ok (.if_icmp .ne 7, 3) := by decide +kernel
theorem dX8_isMatched_73 : decode cX8_isMatched 73 = .ok (.iconst 1, 1) := by decide +kernel
theorem dX8_isMatched_74 : decode cX8_isMatched 74 = .ok (.goto 4, 3) := by decide +kernel
theorem dX8_isMatched_77 : decode cX8_isMatched 77 = .ok (.iconst 0, 1) := by decide +kernel
theorem dX8_isMatched_78 : decode cX8_isMatched 78 = .ok (.istore 6, 2) := by decide +kernel
theorem dX8_isMatched_80 : decode cX8_isMatched 80 = .ok (.iconst 0, 1) := by decide +kernel
theorem dX8_isMatched_81 : decode cX8_isMatched 81 = .ok (.istore 7, 2) := by decide +kernel
theorem dX8_isMatched_83 : decode cX8_isMatched 83 = .ok (.iconst 0, 1) := by decide +kernel
theorem dX8_isMatched_84 : decode cX8_isMatched 84 = .ok (.istore 8, 2) := by decide +kernel
theorem dX8_isMatched_86 : decode cX8_isMatched 86 = .ok (.iload 8, 2) := by decide +kernel
theorem dX8_isMatched_88 : decode cX8_isMatched 88 = .ok (.aload_n 0, 1) := by decide +kernel
theorem dX8_isMatched_89 : decode cX8_isMatched 89 = .ok (.getfield 19, 3) := by decide +kernel
theorem dX8_isMatched_92 : decode cX8_isMatched 92 = .ok (.iload_n 2, 1) := by decide +kernel
theorem dX8_isMatched_93 : decode cX8_isMatched 93 = .ok (.iaload, 1) := by decide +kernel
theorem dX8_isMatched_94 : decode cX8_isMatched 94 = .ok (.iconst 1, 1) := by decide +kernel
theorem dX8_isMatched_95 : decode cX8_isMatched 95 = .ok (.iadd, 1) := by decide +kernel
theorem dX8_isMatched_96 : decode cX8_isMatched 96 = .ok (.if_icmp .gt 112, 3) := by decide +kernel
theorem dX8_isMatched_99 : decode cX8_isMatched 99 = .ok (.iload_n 3, 1) := by decide +kernel
theorem dX8_isMatched_100 : decode cX8_isMatched 100 = .ok (.iload 8, 2) := by decide +kernel
theorem dX8_isMatched_102 : decode cX8_isMatched 102 = .ok (.ishr, 1) := by decide +kernel
theorem dX8_isMatched_103 : decode cX8_isMatched 103 = .ok (.iconst 1, 1) := by decide +kernel
theorem dX8_isMatched_104 : decode cX8_isMatched 104 = .ok (.iand, 1) := by decide +kernel
theorem dX8_isMatched_105 : decode cX8_isMatched 105 = .ok (.iconst 1, 1) := by decide +kernel
theorem dX8_isMatched_106 : decode cX8_isMatched 106 = .ok (.if_icmp .ne 96, 3) := by decide +kernel
theorem dX8_isMatched_109 : decode cX8_isMatched 109 = .ok (.iload 8, 2) := by decide +kernel
theorem dX8_isMatched_111 : decode cX8_isMatched 111 = .ok (.aload_n 0, 1) := by decide +kernel
theorem dX8_isMatched_112 : decode cX8_isMatched 112 = .ok (.getfield 19, 3) := by decide +kernel
theorem dX8_isMatched_115 : decode cX8_isMatched 115 = .ok (.iload_n 2, 1) := by decide +kernel
theorem dX8_isMatched_116 : decode cX8_isMatched 116 = .ok (.iaload, 1) := by decide +kernel
theorem dX8_isMatched_117 : decode cX8_isMatched 117 = .ok (.if_icmp .le 8, 3) := by decide +kernel
theorem dX8_isMatched_120 : decode cX8_isMatched 120 = .ok (.iload 8, 2) := by decide +kernel
theorem dX8_isMatched_122 : decode cX8_isMatched 122 = .ok (.goto 10, 3) := by decide +kernel
theorem dX8_isMatched_125 : decode cX8_isMatched 125 = .ok (.aload_n 0, 1) := by decide +kernel
theorem dX8_isMatched_126 : decode cX8_isMatched 126 = .ok (.iload_n 2, 1) := by decide +kernel
theorem dX8_isMatched_127 : decode cX8_isMatched 127 = .ok (.iload 8, 2) := by decide +kernel
theorem dX8_isMatched_129 : decode cX8_isMatched 129 = .ok (.invokevirtual 98, 3) := by decide +kernel
theorem dX8_isMatched_132 : decode cX8_isMatched 132 = .ok (.istore 9, 2) := by decide +kernel
theorem dX8_isMatched_134 : decode cX8_isMatched 134 = .ok (.iload 8, 2) := by decide +kernel
theorem dX8_isMatched_136 : decode cX8_isMatched 136 = .ok (.aload_n 0, 1) := by decide +kernel
theorem dX8_isMatched_137 : decode cX8_isMatched 137 = .ok (.getfield 19, 3) := by decide +kernel
theorem dX8_isMatched_140 : decode cX8_isMatched 140 = .ok (.iload_n 2, 1) := by decide +kernel
theorem dX8_isMatched_141 : decode cX8_isMatched 141 = .ok (.iaload, 1) := by decide +kernel
theorem dX8_isMatched_142 : decode cX8_isMatched 142 = .ok (.if_icmp .gt 24, 3) := by decide +kernel
theorem dX8_isMatched_145 : decode cX8_isMatched 145 = .ok (.aload_n 0, 1) := by decide +kernel
theorem dX8_isMatched_146 : decode cX8_isMatched 146 = .ok (.iload_n 1, 1) := by decide +kernel
theorem dX8_isMatched_147 : decode cX8_isMatched 147 = .ok (.iload 4, 2) := by decide +kernel
theorem dX8_isMatched_149 : decode cX8_isMatched 149 = .ok (.iload 5, 2) := by decide +kernel
theorem dX8_isMatched_151 : decode cX8_isMatched 151 = .ok (.iload_n 2, 1) := by decide +kernel
theorem dX8_isMatched_152 : decode cX8_isMatched 152 = .ok (.iload 8, 2) := by decide +kernel
theorem dX8_isMatched_154 : decode cX8_isMatched 154 = .ok (.iload 9, 2) := by decide +kernel
theorem dX8_isMatched_156 : decode cX8_isMatched 156 = .ok (.invokevirtual 101, 3) := by decide +kernel
theorem dX8_isMatched_159 : decode cX8_isMatched 159 = .ok (.ifCond .eq 7, 3) := by decide +kernel
theorem dX8_isMatched_162 : decode cX8_isMatched 162 = .ok (.iconst 1, 1) := by decide +kernel
theorem dX8_isMatched_163 : decode cX8_isMatched 163 = .ok (.goto 4, 3) := by decide +kernel
theorem dX8_isMatched_166 : decode cX8_isMatched 166 = .ok (.iconst 0, 1) := by decide +kernel
theorem dX8_isMatched_167 : decode cX8_isMatched 167 = .ok (.istore 10, 2) := by decide +kernel
theorem dX8_isMatched_169 : decode cX8_isMatched 169 = .ok (.iload 7, 2) := by decide +kernel
theorem dX8_isMatched_171 : decode cX8_isMatched 171 = .ok (.iload 6, 2) := by decide +kernel
theorem dX8_isMatched_173 : decode cX8_isMatched 173 = .ok (.ifCond .eq 13, 3) := by decide +kernel
theorem dX8_isMatched_176 : decode cX8_isMatched 176 = .ok (.aload_n 0, 1) := by decide +kernel
theorem dX8_isMatched_177 : decode cX8_isMatched 177 = .ok (.iload_n 2, 1) := by decide +kernel
theorem dX8_isMatched_178 : decode cX8_isMatched 178 = .ok (.iload 8, 2) := by decide +kernel
theorem dX8_isMatched_180 : decode cX8_isMatched 180 = .ok (.invokevirtual 105, 3) := by decide +kernel
theorem dX8_isMatched_183 : decode cX8_isMatched 183 = .ok (.goto 16, 3) := by decide +kernel
theorem dX8_isMatched_186 : decode cX8_isMatched 186 = .ok (.iload 10, 2) := by decide +kernel
theorem dX8_isMatched_188 : decode cX8_isMatched 188 = .ok (.ifCond .eq 10, 3) := by decide +kernel
theorem dX8_isMatched_191 : decode cX8_isMatched 191 = .ok (.iconst 2, 1) := by decide +kernel
theorem dX8_isMatched_192 : decode cX8_isMatched 192 = .ok (.iload 9, 2) := by decide +kernel
theorem dX8_isMatched_194 : decode cX8_isMatched 194 = .ok (.ishl, 1) := by decide +kernel
theorem dX8_isMatched_195 : decode cX8_isMatched 195 = .ok (.goto 4, 3) := by decide +kernel
theorem dX8_isMatched_198 : decode cX8_isMatched 198 = .ok (.iconst 0, 1) := by decide +kernel
theorem dX8_isMatched_199 : decode cX8_isMatched 199 = .ok (.ior, 1) := by decide +kernel
theorem dX8_isMatched_200 : decode cX8_isMatched 200 = .ok (.istore 7, 2) := by decide +kernel
theorem dX8_isMatched_202 : decode cX8_isMatched 202 = .ok (.iinc 8 1, 3) := by decide +kernel
theorem dX8_isMatched_205 : decode cX8_isMatched 205 = .ok (.goto (-119), 3) := by decide +kernel
theorem dX8_isMatched_208 : decode cX8_isMatched 208 = .ok (.iload 7, 2) := by decide +kernel
theorem dX8_isMatched_210 : decode cX8_isMatched 210 = .ok (.istore_n 3, 1) := by decide +kernel
theorem dX8_isMatched_211 : decode cX8_isMatched 211 = .ok (.iload 5, 2) := by decide +kernel
theorem dX8_isMatched_213 : decode cX8_isMatched 213 = .ok (.iconst 1, 1) := by decide +kernel
theorem dX8_isMatched_214 : decode cX8_isMatched 214 = .ok (.iadd, 1) := by decide +kernel
theorem dX8_isMatched_215 : decode cX8_isMatched 215 = .ok (.istore 4, 2) := by decide +kernel
theorem dX8_isMatched_217 : decode cX8_isMatched 217 = .ok (.goto (-212), 3) := by decide +kernel
theorem dX8_isMatched_220 : decode cX8_isMatched 220 = .ok (.iload_n 3, 1) := by decide +kernel
theorem dX8_isMatched_221 : decode cX8_isMatched 221 = .ok (.aload_n 0, 1) := by decide +kernel
theorem dX8_isMatched_222 : decode cX8_isMatched 222 = .ok (.getfield 19, 3) := by decide +kernel
theorem dX8_isMatched_225 : decode cX8_isMatched 225 = .ok (.iload_n 2, 1) := by decide +kernel
theorem dX8_isMatched_226 : decode cX8_isMatched 226 = .ok (.iaload, 1) := by decide +kernel
theorem dX8_isMatched_227 : decode cX8_isMatched 227 = .ok (.iconst 1, 1) := by decide +kernel
theorem dX8_isMatched_228 : decode cX8_isMatched 228 = .ok (.iadd, 1) := by decide +kernel
theorem dX8_isMatched_229 : decode cX8_isMatched 229 = .ok (.ishr, 1) := by decide +kernel
theorem dX8_isMatched_230 : decode cX8_isMatched 230 = .ok (.iconst 1, 1) := by decide +kernel
theorem dX8_isMatched_231 : decode cX8_isMatched 231 = .ok (.iand, 1) := by decide +kernel
theorem dX8_isMatched_232 : decode cX8_isMatched 232 = .ok (.iconst 1, 1) := by decide +kernel
theorem dX8_isMatched_233 : decode cX8_isMatched 233 = .ok (.if_icmp .ne 7, 3) := by decide +kernel
theorem dX8_isMatched_236 : decode cX8_isMatched 236 = .ok (.iconst 1, 1) := by decide +kernel
theorem dX8_isMatched_237 : decode cX8_isMatched 237 = .ok (.goto 4, 3) := by decide +kernel
theorem dX8_isMatched_240 : decode cX8_isMatched 240 = .ok (.iconst 0, 1) := by decide +kernel
theorem dX8_isMatched_241 : decode cX8_isMatched 241 = .ok (.ireturn, 1) := by decide +kernel
theorem dX8_copies_0 : decode cX8_copies 0 = .ok (.iconst 0, 1) := by decide +kernel
theorem dX8_copies_1 : decode cX8_copies 1 = .ok (.istore_n 2, 1) := by decide +kernel
theorem dX8_copies_2 : decode cX8_copies 2 = .ok (.iload_n 2, 1) := by decide +kernel
theorem dX8_copies_3 : decode cX8_copies 3 = .ok (.aload_n 0, 1) := by decide +kernel
theorem dX8_copies_4 : decode cX8_copies 4 = .ok (.getfield 13, 3) := by decide +kernel
theorem dX8_copies_7 : decode cX8_copies 7 = .ok (.bipush 76, 2) := by decide +kernel
theorem dX8_copies_9 : decode cX8_copies 9 = .ok (.iaload, 1) := by decide +kernel
theorem dX8_copies_10 : decode cX8_copies 10 = .ok (.if_icmp .ge 30, 3) := by decide +kernel
theorem dX8_copies_13 : decode cX8_copies 13 = .ok (.aload_n 0, 1) := by decide +kernel
theorem dX8_copies_14 : decode cX8_copies 14 = .ok (.getfield 7, 3) := by decide +kernel
theorem dX8_copies_17 : decode cX8_copies 17 = .ok (.bipush 24, 2) := by decide +kernel
theorem dX8_copies_19 : decode cX8_copies 19 = .ok (.iload_n 1, 1) := by decide +kernel
theorem dX8_copies_20 : decode cX8_copies 20 = .ok (.imul, 1) := by decide +kernel
theorem dX8_copies_21 : decode cX8_copies 21 = .ok (.iload_n 2, 1) := by decide +kernel
theorem dX8_copies_22 : decode cX8_copies 22 = .ok (.iadd, 1) := by decide +kernel
theorem dX8_copies_23 : decode cX8_copies 23 = .ok (.aload_n 0, 1) := by decide +kernel
theorem dX8_copies_24 : decode cX8_copies 24 = .ok (.getfield 7, 3) := by decide +kernel
theorem dX8_copies_27 : decode cX8_copies 27 = .ok (.sipush 1824, 3) := by decide +kernel
theorem dX8_copies_30 : decode cX8_copies 30 = .ok (.iload_n 2, 1) := by decide +kernel
theorem dX8_copies_31 : decode cX8_copies 31 = .ok (.iadd, 1) := by decide +kernel
theorem dX8_copies_32 : decode cX8_copies 32 = .ok (.iaload, 1) := by decide +kernel
theorem dX8_copies_33 : decode cX8_copies 33 = .ok (.iastore, 1) := by decide +kernel
theorem dX8_copies_34 : decode cX8_copies 34 = .ok (.iinc 2 1, 3) := by decide +kernel
theorem dX8_copies_37 : decode cX8_copies 37 = .ok (.goto (-35), 3) := by decide +kernel
theorem dX8_copies_40 : decode cX8_copies 40 = .ok (.aload_n 0, 1) := by decide +kernel
theorem dX8_copies_41 : decode cX8_copies 41 = .ok (.getfield 13, 3) := by decide +kernel
theorem dX8_copies_44 : decode cX8_copies 44 = .ok (.iload_n 1, 1) := by decide +kernel
theorem dX8_copies_45 : decode cX8_copies 45 = .ok (.aload_n 0, 1) := by decide +kernel
theorem dX8_copies_46 : decode cX8_copies 46 = .ok (.getfield 13, 3) := by decide +kernel
theorem dX8_copies_49 : decode cX8_copies 49 = .ok (.bipush 76, 2) := by decide +kernel
theorem dX8_copies_51 : decode cX8_copies 51 = .ok (.iaload, 1) := by decide +kernel
theorem dX8_copies_52 : decode cX8_copies 52 = .ok (.iastore, 1) := by decide +kernel
theorem dX8_copies_53 : decode cX8_copies 53 = .ok (.return_, 1) := by decide +kernel
theorem dX8_fileOf_0 : decode cX8_fileOf 0 = .ok (.iconst (-1), 1) := by decide +kernel
theorem dX8_fileOf_1 : decode cX8_fileOf 1 = .ok (.istore_n 1, 1) := by decide +kernel
theorem dX8_fileOf_2 : decode cX8_fileOf 2 = .ok (.iconst 0, 1) := by decide +kernel
theorem dX8_fileOf_3 : decode cX8_fileOf 3 = .ok (.istore_n 2, 1) := by decide +kernel
theorem dX8_fileOf_4 : decode cX8_fileOf 4 = .ok (.iload_n 2, 1) := by decide +kernel
theorem dX8_fileOf_5 : decode cX8_fileOf 5 = .ok (.aload_n 0, 1) := by decide +kernel
theorem dX8_fileOf_6 : decode cX8_fileOf 6 = .ok (.getfield 108, 3) := by decide +kernel
theorem dX8_fileOf_9 : decode cX8_fileOf 9 = .ok (.if_icmp .ge 97, 3) := by decide +kernel
theorem dX8_fileOf_12 : decode cX8_fileOf 12 = .ok (.aload_n 0, 1) := by decide +kernel
theorem dX8_fileOf_13 : decode cX8_fileOf 13 = .ok (.getfield 19, 3) := by decide +kernel
theorem dX8_fileOf_16 : decode cX8_fileOf 16 = .ok (.iload_n 2, 1) := by decide +kernel
theorem dX8_fileOf_17 : decode cX8_fileOf 17 = .ok (.iaload, 1) := by decide +kernel
theorem dX8_fileOf_18 : decode cX8_fileOf 18 = .ok (.aload_n 0, 1) := by decide +kernel
theorem dX8_fileOf_19 : decode cX8_fileOf 19 = .ok (.getfield 13, 3) := by decide +kernel
theorem dX8_fileOf_22 : decode cX8_fileOf 22 = .ok (.bipush 76, 2) := by decide +kernel
theorem dX8_fileOf_24 : decode cX8_fileOf 24 = .ok (.iaload, 1) := by decide +kernel
theorem dX8_fileOf_25 : decode cX8_fileOf 25 = .ok (.if_icmp .ne 7, 3) := by decide +kernel
theorem dX8_fileOf_28 : decode cX8_fileOf 28 = .ok (.iconst 1, 1) := by decide +kernel
theorem dX8_fileOf_29 : decode cX8_fileOf 29 = .ok (.goto 4, 3) := by decide +kernel
theorem dX8_fileOf_32 : decode cX8_fileOf 32 = .ok (.iconst 0, 1) := by decide +kernel
theorem dX8_fileOf_33 : decode cX8_fileOf 33 = .ok (.istore_n 3, 1) := by decide +kernel
theorem dX8_fileOf_34 : decode cX8_fileOf 34 = .ok (.iconst 0, 1) := by decide +kernel
theorem dX8_fileOf_35 : decode cX8_fileOf 35 = .ok (.istore 4, 2) := by decide +kernel
theorem dX8_fileOf_37 : decode cX8_fileOf 37 = .ok (.iload_n 3, 1) := by decide +kernel
theorem dX8_fileOf_38 : decode cX8_fileOf 38 = .ok (.ifCond .eq 52, 3) := by decide +kernel
theorem dX8_fileOf_41 : decode cX8_fileOf 41 = .ok (.iload 4, 2) := by decide +kernel
theorem dX8_fileOf_43 : decode cX8_fileOf 43 = .ok (.aload_n 0, 1) := by decide +kernel
theorem dX8_fileOf_44 : decode cX8_fileOf 44 = .ok (.getfield 19, 3) := by decide +kernel
theorem dX8_fileOf_47 : decode cX8_fileOf 47 = .ok (.iload_n 2, 1) := by decide +kernel
theorem dX8_fileOf_48 : decode cX8_fileOf 48 = .ok (.iaload, 1) := by decide +kernel
theorem dX8_fileOf_49 : decode cX8_fileOf 49 = .ok (.if_icmp .ge 41, 3) := by decide +kernel
theorem dX8_fileOf_52 : decode cX8_fileOf 52 = .ok (.aload_n 0, 1) := by decide +kernel
theorem dX8_fileOf_53 : decode cX8_fileOf 53 = .ok (.getfield 16, 3) := by decide +kernel
theorem dX8_fileOf_56 : decode cX8_fileOf 56 = .ok (.bipush 24, 2) := by decide +kernel
theorem dX8_fileOf_58 : decode cX8_fileOf 58 = .ok (.iload_n 2, 1) := by decide +kernel
theorem dX8_fileOf_59 : decode cX8_fileOf 59 = .ok (.imul, 1) := by decide +kernel
theorem dX8_fileOf_60 : decode cX8_fileOf 60 = .ok (.iload 4, 2) := by decide +kernel
theorem dX8_fileOf_62 : decode cX8_fileOf 62 = .ok (.iadd, 1) := by decide +kernel
theorem dX8_fileOf_63 : decode cX8_fileOf 63 = .ok (.iaload, 1) := by decide +kernel
theorem dX8_fileOf_64 : decode cX8_fileOf 64 = .ok (.aload_n 0, 1) := by decide +kernel
theorem dX8_fileOf_65 : decode cX8_fileOf 65 = .ok (.getfield 7, 3) := by decide +kernel
theorem dX8_fileOf_68 : decode cX8_fileOf 68 = .ok (.sipush 1824, 3) := by decide +kernel
theorem dX8_fileOf_71 : decode cX8_fileOf 71 = .ok (.iload 4, 2) := by decide +kernel
theorem dX8_fileOf_73 : decode cX8_fileOf 73 = .ok (.iadd, 1) := by decide +kernel
theorem dX8_fileOf_74 : decode cX8_fileOf 74 = .ok (.iaload, 1) := by decide +kernel
theorem dX8_fileOf_75 : decode cX8_fileOf 75 = .ok (.if_icmp .ne 7, 3) := by decide +kernel
theorem dX8_fileOf_78 : decode cX8_fileOf 78 = .ok (.iconst 1, 1) := by decide +kernel
theorem dX8_fileOf_79 : decode cX8_fileOf 79 = .ok (.goto 4, 3) := by decide +kernel
theorem dX8_fileOf_82 : decode cX8_fileOf 82 = .ok (.iconst 0, 1) := by decide +kernel
theorem dX8_fileOf_83 : decode cX8_fileOf 83 = .ok (.istore_n 3, 1) := by decide +kernel
theorem dX8_fileOf_84 : decode cX8_fileOf 84 = .ok (.iinc 4 1, 3) := by decide +kernel
theorem dX8_fileOf_87 : decode cX8_fileOf 87 = .ok (.goto (-50), 3) := by decide +kernel
theorem dX8_fileOf_90 : decode cX8_fileOf 90 = .ok (.iload_n 3, 1) := by decide +kernel
theorem dX8_fileOf_91 : decode cX8_fileOf 91 = .ok (.ifCond .eq 7, 3) := by decide +kernel
theorem dX8_fileOf_94 : decode cX8_fileOf 94 = .ok (.iload_n 2, 1) := by decide +kernel
theorem dX8_fileOf_95 : decode cX8_fileOf 95 = .ok (.goto 4, 3) := by decide +kernel
theorem dX8_fileOf_98 : decode cX8_fileOf 98 = .ok (.iload_n 1, 1) := by decide +kernel
theorem dX8_fileOf_99 : decode cX8_fileOf 99 = .ok (.istore_n 1, 1) := by decide +kernel
theorem dX8_fileOf_100 : decode cX8_fileOf 100 = .ok (.iinc 2 1, 3) := by decide +kernel
theorem dX8_fileOf_103 : decode cX8_fileOf 103 = .ok (.goto (-99), 3) := by decide +kernel
theorem dX8_fileOf_106 : decode cX8_fileOf 106 = .ok (.iload_n 1, 1) := by decide +kernel
theorem dX8_fileOf_107 : decode cX8_fileOf 107 = .ok (.ireturn, 1) := by decide +kernel
theorem dX8_addFile_0 : decode cX8_addFile 0 = .ok (.aload_n 0, 1) := by decide +kernel
theorem dX8_addFile_1 : decode cX8_addFile 1 = .ok (.iload_n 1, 1) := by decide +kernel
theorem dX8_addFile_2 : decode cX8_addFile 2 = .ok (.iconst 0, 1) := by decide +kernel
theorem dX8_addFile_3 : decode cX8_addFile 3 = .ok (.sipush 9999, 3) := by decide +kernel
theorem dX8_addFile_6 : decode cX8_addFile 6 = .ok (.invokestatic 111, 3) := by decide +kernel
theorem dX8_addFile_9 : decode cX8_addFile 9 = .ok (.ifCond .eq 10, 3) := by decide +kernel
theorem dX8_addFile_12 : decode cX8_addFile 12 = .ok (.aload_n 0, 1) := by decide +kernel
theorem dX8_addFile_13 : decode cX8_addFile 13 = .ok (.invokevirtual 89, 3) := by decide +kernel
theorem dX8_addFile_16 : decode cX8_addFile 16 = .ok (.ifCond .ne 7, 3) := by decide +kernel
theorem dX8_addFile_19 : decode cX8_addFile 19 = .ok (.iconst 1, 1) := by decide +kernel
theorem dX8_addFile_20 : decode cX8_addFile 20 = .ok (.goto 4, 3) := by decide +kernel
theorem dX8_addFile_23 : decode cX8_addFile 23 = .ok (.iconst 0, 1) := by decide +kernel
theorem dX8_addFile_24 : decode cX8_addFile 24 = .ok (.putfield 77, 3) := by decide +kernel
theorem dX8_addFile_27 : decode cX8_addFile 27 = .ok (.aload_n 0, 1) := by decide +kernel
theorem dX8_addFile_28 : decode cX8_addFile 28 = .ok (.getfield 77, 3) := by decide +kernel
theorem dX8_addFile_31 : decode cX8_addFile 31 = .ok (.ifCond .le 5, 3) := by decide +kernel
theorem dX8_addFile_34 : decode cX8_addFile 34 = .ok (.iconst 0, 1) := by decide +kernel
theorem dX8_addFile_35 : decode cX8_addFile 35 = .ok (.ireturn, 1) := by decide +kernel
theorem dX8_addFile_36 : decode cX8_addFile 36 = .ok (.aload_n 0, 1) := by decide +kernel
theorem dX8_addFile_37 : decode cX8_addFile 37 = .ok (.invokevirtual 115, 3) := by decide +kernel
theorem dX8_addFile_40 : decode cX8_addFile 40 = .ok (.istore_n 2, 1) := by decide +kernel
theorem dX8_addFile_41 : decode cX8_addFile 41 = .ok (.aload_n 0, 1) := by decide +kernel
theorem dX8_addFile_42 : decode cX8_addFile 42 = .ok (.iload_n 2, 1) := by decide +kernel
theorem dX8_addFile_43 : decode cX8_addFile 43 = .ok (.ifCond .ge 20, 3) := by decide +kernel
theorem dX8_addFile_46 : decode cX8_addFile 46 = .ok (.aload_n 0, 1) := by decide +kernel
theorem dX8_addFile_47 : decode cX8_addFile 47 = .ok (.getfield 108, 3) := by decide +kernel
theorem dX8_addFile_50 : decode cX8_addFile 50 = .ok (.bipush 24, 2) := by decide +kernel
theorem dX8_addFile_52 : decode cX8_addFile 52 = .ok (.if_icmp .ne 7, 3) := by decide +kernel
theorem dX8_addFile_55 : decode cX8_addFile 55 = .ok (.iconst 2, 1) := by decide +kernel
theorem dX8_addFile_56 : decode cX8_addFile 56 = .ok (.goto 21, 3) := by decide +kernel
theorem dX8_addFile_59 : decode cX8_addFile 59 = .ok (.iconst 0, 1) := by decide +kernel
theorem dX8_addFile_60 : decode cX8_addFile 60 = .ok (.goto 17, 3) := by decide +kernel
theorem dX8_addFile_63 : decode cX8_addFile 63 = .ok (.aload_n 0, 1) := by decide +kernel
theorem dX8_addFile_64 : decode cX8_addFile 64 = .ok (.getfield 22, 3) := by decide +kernel
theorem dX8_addFile_67 : decode cX8_addFile 67 = .ok (.iload_n 2, 1) := by decide +kernel
theorem dX8_addFile_68 : decode cX8_addFile 68 = .ok (.baload, 1) := by decide +kernel
theorem dX8_addFile_69 : decode cX8_addFile 69 = .ok (.ifCond .eq 7, 3) := by decide +kernel
theorem dX8_addFile_72 : decode cX8_addFile 72 = .ok (.iconst 2, 1) := by decide +kernel
theorem dX8_addFile_73 : decode cX8_addFile 73 = .ok (.goto 4, 3) := by decide +kernel
theorem dX8_addFile_76 : decode cX8_addFile 76 = .ok (.iconst 0, 1) := by decide +kernel
theorem dX8_addFile_77 : decode cX8_addFile 77 = .ok (.putfield 77, 3) := by decide +kernel
theorem dX8_addFile_80 : decode cX8_addFile 80 = .ok (.aload_n 0, 1) := by decide +kernel
theorem dX8_addFile_81 : decode cX8_addFile 81 = .ok (.getfield 77, 3) := by decide +kernel
theorem dX8_addFile_84 : decode cX8_addFile 84 = .ok (.ifCond .le 5, 3) := by decide +kernel
theorem dX8_addFile_87 : decode cX8_addFile 87 = .ok (.iconst 0, 1) := by decide +kernel
theorem dX8_addFile_88 : decode cX8_addFile 88 = .ok (.ireturn, 1) := by decide +kernel
theorem dX8_addFile_89 : decode cX8_addFile 89 = .ok (.iload_n 2, 1) := by decide +kernel
theorem dX8_addFile_90 : decode cX8_addFile 90 = .ok (.ifCond .ge 71, 3) := by decide +kernel
theorem dX8_addFile_93 : decode cX8_addFile 93 = .ok (.aload_n 0, 1) := by decide +kernel
theorem dX8_addFile_94 : decode cX8_addFile 94 = .ok (.getfield 108, 3) := by decide +kernel
theorem dX8_addFile_97 : decode cX8_addFile 97 = .ok (.istore_n 2, 1) := by decide +kernel
theorem dX8_addFile_98 : decode cX8_addFile 98 = .ok (.iconst 0, 1) := by decide +kernel
theorem dX8_addFile_99 : decode cX8_addFile 99 = .ok (.istore_n 3, 1) := by decide +kernel
theorem dX8_addFile_100 : decode cX8_addFile 100 = .ok (.iload_n 3, 1) := by decide +kernel
theorem dX8_addFile_101 : decode cX8_addFile 101 = .ok (.aload_n 0, 1) := by decide +kernel
theorem dX8_addFile_102 : decode cX8_addFile 102 = .ok (.getfield 13, 3) := by decide +kernel
theorem dX8_addFile_105 : decode cX8_addFile 105 = .ok (.bipush 76, 2) := by decide +kernel
theorem dX8_addFile_107 : decode cX8_addFile 107 = .ok (.iaload, 1) := by decide +kernel
theorem dX8_addFile_108 : decode cX8_addFile 108 = .ok (.if_icmp .ge 30, 3) := by decide +kernel
theorem dX8_addFile_111 : decode cX8_addFile 111 = .ok (.aload_n 0, 1) := by decide +kernel
theorem dX8_addFile_112 : decode cX8_addFile 112 = .ok (.getfield 16, 3) := by decide +kernel
theorem dX8_addFile_115 : decode cX8_addFile 115 = .ok (.bipush 24, 2) := by decide +kernel
theorem dX8_addFile_117 : decode cX8_addFile 117 = .ok (.iload_n 2, 1) := by decide +kernel
theorem dX8_addFile_118 : decode cX8_addFile 118 = .ok (.imul, 1) := by decide +kernel
theorem dX8_addFile_119 : decode cX8_addFile 119 = .ok (.iload_n 3, 1) := by decide +kernel
theorem dX8_addFile_120 : decode cX8_addFile 120 = .ok (.iadd, 1) := by decide +kernel
theorem dX8_addFile_121 : decode cX8_addFile 121 = .ok (.aload_n 0, 1) := by decide +kernel
theorem dX8_addFile_122 : decode cX8_addFile 122 = .ok (.getfield 7, 3) := by decide +kernel
theorem dX8_addFile_125 : decode cX8_addFile 125 = .ok (.sipush 1824, 3) := by decide +kernel
theorem dX8_addFile_128 : decode cX8_addFile 128 = .ok (.iload_n 3, 1) := by decide +kernel
theorem dX8_addFile_129 : decode cX8_addFile 129 = .ok (.iadd, 1) := by decide +kernel
theorem dX8_addFile_130 : decode cX8_addFile 130 = .ok (.iaload, 1) := by decide +kernel
theorem dX8_addFile_131 : decode cX8_addFile 131 = .ok (.iastore, 1) := by decide +kernel
theorem dX8_addFile_132 : decode cX8_addFile 132 = .ok (.iinc 3 1, 3) := by decide +kernel
theorem dX8_addFile_135 : decode cX8_addFile 135 = .ok (.goto (-35), 3) := by decide +kernel
theorem dX8_addFile_138 : decode cX8_addFile 138 = .ok (.aload_n 0, 1) := by decide +kernel
theorem dX8_addFile_139 : decode cX8_addFile 139 = .ok (.getfield 19, 3) := by decide +kernel
theorem dX8_addFile_142 : decode cX8_addFile 142 = .ok (.iload_n 2, 1) := by decide +kernel
theorem dX8_addFile_143 : decode cX8_addFile 143 = .ok (.aload_n 0, 1) := by decide +kernel
theorem dX8_addFile_144 : decode cX8_addFile 144 = .ok (.getfield 13, 3) := by decide +kernel
theorem dX8_addFile_147 : decode cX8_addFile 147 = .ok (.bipush 76, 2) := by decide +kernel
theorem dX8_addFile_149 : decode cX8_addFile 149 = .ok (.iaload, 1) := by decide +kernel
theorem dX8_addFile_150 : decode cX8_addFile 150 = .ok (.iastore, 1) := by decide +kernel
theorem dX8_addFile_151 : decode cX8_addFile 151 = .ok (.aload_n 0, 1) := by decide +kernel
theorem dX8_addFile_152 : decode cX8_addFile 152 = .ok (.dup, 1) := by decide +kernel
theorem dX8_addFile_153 : decode cX8_addFile 153 = .ok (.getfield 108, 3) := by decide +kernel
theorem dX8_addFile_156 : decode cX8_addFile 156 = .ok (.iconst 1, 1) := by decide +kernel
theorem dX8_addFile_157 : decode cX8_addFile 157 = .ok (.iadd, 1) := by decide +kernel
theorem dX8_addFile_158 : decode cX8_addFile 158 = .ok (.putfield 108, 3) := by decide +kernel
theorem dX8_addFile_161 : decode cX8_addFile 161 = .ok (.aload_n 0, 1) := by decide +kernel
theorem dX8_addFile_162 : decode cX8_addFile 162 = .ok (.getfield 22, 3) := by decide +kernel
theorem dX8_addFile_165 : decode cX8_addFile 165 = .ok (.iload_n 2, 1) := by decide +kernel
theorem dX8_addFile_166 : decode cX8_addFile 166 = .ok (.iconst 1, 1) := by decide +kernel
theorem dX8_addFile_167 : decode cX8_addFile 167 = .ok (.bastore, 1) := by decide +kernel
theorem dX8_addFile_168 : decode cX8_addFile 168 = .ok (.aload_n 0, 1) := by decide +kernel
theorem dX8_addFile_169 : decode cX8_addFile 169 = .ok (.getfield 26, 3) := by decide +kernel
theorem dX8_addFile_172 : decode cX8_addFile 172 = .ok (.iload_n 2, 1) := by decide +kernel
theorem dX8_addFile_173 : decode cX8_addFile 173 = .ok (.iload_n 1, 1) := by decide +kernel
theorem dX8_addFile_174 : decode cX8_addFile 174 = .ok (.iastore, 1) := by decide +kernel
theorem dX8_addFile_175 : decode cX8_addFile 175 = .ok (.iload_n 2, 1) := by decide +kernel
theorem dX8_addFile_176 : decode cX8_addFile 176 = .ok (.ireturn, 1) := by decide +kernel
theorem dX8_findFile_0 : decode cX8_findFile 0 = .ok (.aload_n 0, 1) := by decide +kernel
theorem dX8_findFile_1 : decode cX8_findFile 1 = .ok (.iconst 0, 1) := by decide +kernel
theorem dX8_findFile_2 : decode cX8_findFile 2 = .ok (.putfield 77, 3) := by decide +kernel
theorem dX8_findFile_5 : decode cX8_findFile 5 = .ok (.aload_n 0, 1) := by decide +kernel
theorem dX8_findFile_6 : decode cX8_findFile 6 = .ok (.invokevirtual 115, 3) := by decide +kernel
theorem dX8_findFile_9 : decode cX8_findFile 9 = .ok (.ireturn, 1) := by decide +kernel
theorem dX8_isThere_0 : decode cX8_isThere 0 = .ok (.iload_n 1, 1) := by decide +kernel
theorem dX8_isThere_1 : decode cX8_isThere 1 = .ok (.iconst 0, 1) := by decide +kernel
theorem dX8_isThere_2 : decode cX8_isThere 2 = .ok (.aload_n 0, 1) := by decide +kernel
theorem dX8_isThere_3 : decode cX8_isThere 3 = .ok (.getfield 108, 3) := by decide +kernel
theorem dX8_isThere_6 : decode cX8_isThere 6 = .ok (.iconst 1, 1) := by decide +kernel
theorem dX8_isThere_7 : decode cX8_isThere 7 = .ok (.isub, 1) := by decide +kernel
theorem dX8_isThere_8 : decode cX8_isThere 8 = .ok (.invokestatic 111, 3) := by decide +kernel
theorem dX8_isThere_11 : decode cX8_isThere 11 = .ok (.ifCond .eq 16, 3) := by decide +kernel
theorem dX8_isThere_14 : decode cX8_isThere 14 = .ok (.aload_n 0, 1) := by decide +kernel
theorem dX8_isThere_15 : decode cX8_isThere 15 = .ok (.getfield 22, 3) := by decide +kernel
theorem dX8_isThere_18 : decode cX8_isThere 18 = .ok (.iload_n 1, 1) := by decide +kernel
theorem dX8_isThere_19 : decode cX8_isThere 19 = .ok (.baload, 1) := by decide +kernel
theorem dX8_isThere_20 : decode cX8_isThere 20 = .ok (.ifCond .eq 7, 3) := by decide +kernel
theorem dX8_isThere_23 : decode cX8_isThere 23 = .ok (.iconst 1, 1) := by decide +kernel
theorem dX8_isThere_24 : decode cX8_isThere 24 = .ok (.goto 4, 3) := by decide +kernel
theorem dX8_isThere_27 : decode cX8_isThere 27 = .ok (.iconst 0, 1) := by decide +kernel
theorem dX8_isThere_28 : decode cX8_isThere 28 = .ok (.ireturn, 1) := by decide +kernel
theorem dX8_edit_0 : decode cX8_edit 0 = .ok (.aload_n 0, 1) := by decide +kernel
theorem dX8_edit_1 : decode cX8_edit 1 = .ok (.aload_n 0, 1) := by decide +kernel
theorem dX8_edit_2 : decode cX8_edit 2 = .ok (.iload_n 1, 1) := by decide +kernel
theorem dX8_edit_3 : decode cX8_edit 3 = .ok (.invokevirtual 119, 3) := by decide +kernel
theorem dX8_edit_6 : decode cX8_edit 6 = .ok (.ifCond .ne 7, 3) := by decide +kernel
theorem dX8_edit_9 : decode cX8_edit 9 = .ok (.iconst 1, 1) := by decide +kernel
theorem dX8_edit_10 : decode cX8_edit 10 = .ok (.goto 19, 3) := by decide +kernel
theorem dX8_edit_13 : decode cX8_edit 13 = .ok (.iload_n 2, 1) := by decide +kernel
theorem dX8_edit_14 : decode cX8_edit 14 = .ok (.iconst 0, 1) := by decide +kernel
theorem dX8_edit_15 : decode cX8_edit 15 = .ok (.sipush 9999, 3) := by decide +kernel
theorem dX8_edit_18 : decode cX8_edit 18 = .ok (.invokestatic 111, 3) := by decide +kernel
theorem dX8_edit_21 : decode cX8_edit 21 = .ok (.ifCond .eq 7, 3) := by decide +kernel
theorem dX8_edit_24 : decode cX8_edit 24 = .ok (.iconst 0, 1) := by decide +kernel
theorem dX8_edit_25 : decode cX8_edit 25 = .ok (.goto 4, 3) := by decide +kernel
theorem dX8_edit_28 : decode cX8_edit 28 = .ok (.iconst 2, 1) := by decide +kernel
theorem dX8_edit_29 : decode cX8_edit 29 = .ok (.putfield 77, 3) := by decide +kernel
theorem dX8_edit_32 : decode cX8_edit 32 = .ok (.aload_n 0, 1) := by decide +kernel
theorem dX8_edit_33 : decode cX8_edit 33 = .ok (.getfield 77, 3) := by decide +kernel
theorem dX8_edit_36 : decode cX8_edit 36 = .ok (.ifCond .le 5, 3) := by decide +kernel
theorem dX8_edit_39 : decode cX8_edit 39 = .ok (.iconst 0, 1) := by decide +kernel
theorem dX8_edit_40 : decode cX8_edit 40 = .ok (.ireturn, 1) := by decide +kernel
theorem dX8_edit_41 : decode cX8_edit 41 = .ok (.aload_n 0, 1) := by decide +kernel
theorem dX8_edit_42 : decode cX8_edit 42 = .ok (.getfield 26, 3) := by decide +kernel
theorem dX8_edit_45 : decode cX8_edit 45 = .ok (.iload_n 1, 1) := by decide +kernel
theorem dX8_edit_46 : decode cX8_edit 46 = .ok (.iaload, 1) := by decide +kernel
theorem dX8_edit_47 : decode cX8_edit 47 = .ok (.istore_n 3, 1) := by decide +kernel
theorem dX8_edit_48 : decode cX8_edit 48 = .ok (.aload_n 0, 1) := by decide +kernel
theorem dX8_edit_49 : decode cX8_edit 49 = .ok (.getfield 26, 3) := by decide +kernel
theorem dX8_edit_52 : decode cX8_edit 52 = .ok (.iload_n 1, 1) := by decide +kernel
theorem dX8_edit_53 : decode cX8_edit 53 = .ok (.iload_n 2, 1) := by decide +kernel
theorem dX8_edit_54 : decode cX8_edit 54 = .ok (.iastore, 1) := by decide +kernel
theorem dX8_edit_55 : decode cX8_edit 55 = .ok (.iload_n 3, 1) := by decide +kernel
theorem dX8_edit_56 : decode cX8_edit 56 = .ok (.ireturn, 1) := by decide +kernel
theorem dX8_delete_0 : decode cX8_delete 0 = .ok (.aload_n 0, 1) := by decide +kernel
theorem dX8_delete_1 : decode cX8_delete 1 = .ok (.aload_n 0, 1) := by decide +kernel
theorem dX8_delete_2 : decode cX8_delete 2 = .ok (.iload_n 1, 1) := by decide +kernel
theorem dX8_delete_3 : decode cX8_delete 3 = .ok (.invokevirtual 119, 3) := by decide +kernel
theorem dX8_delete_6 : decode cX8_delete 6 = .ok (.ifCond .eq 7, 3) := by decide +kernel
theorem dX8_delete_9 : decode cX8_delete 9 = .ok (.iconst 0, 1) := by decide +kernel
theorem dX8_delete_10 : decode cX8_delete 10 = .ok (.goto 4, 3) := by decide +kernel
theorem dX8_delete_13 : decode cX8_delete 13 = .ok (.iconst 1, 1) := by decide +kernel
theorem dX8_delete_14 : decode cX8_delete 14 = .ok (.putfield 77, 3) := by decide +kernel
theorem dX8_delete_17 : decode cX8_delete 17 = .ok (.aload_n 0, 1) := by decide +kernel
theorem dX8_delete_18 : decode cX8_delete 18 = .ok (.getfield 77, 3) := by decide +kernel
theorem dX8_delete_21 : decode cX8_delete 21 = .ok (.ifCond .le 5, 3) := by decide +kernel
theorem dX8_delete_24 : decode cX8_delete 24 = .ok (.iconst 0, 1) := by decide +kernel
theorem dX8_delete_25 : decode cX8_delete 25 = .ok (.ireturn, 1) := by decide +kernel
theorem dX8_delete_26 : decode cX8_delete 26 = .ok (.aload_n 0, 1) := by decide +kernel
theorem dX8_delete_27 : decode cX8_delete 27 = .ok (.getfield 22, 3) := by decide +kernel
theorem dX8_delete_30 : decode cX8_delete 30 = .ok (.iload_n 1, 1) := by decide +kernel
theorem dX8_delete_31 : decode cX8_delete 31 = .ok (.iconst 0, 1) := by decide +kernel
theorem dX8_delete_32 : decode cX8_delete 32 = .ok (.bastore, 1) := by decide +kernel
theorem dX8_delete_33 : decode cX8_delete 33 = .ok (.aload_n 0, 1) := by decide +kernel
theorem dX8_delete_34 : decode cX8_delete 34 = .ok (.getfield 26, 3) := by decide +kernel
theorem dX8_delete_37 : decode cX8_delete 37 = .ok (.iload_n 1, 1) := by decide +kernel
theorem dX8_delete_38 : decode cX8_delete 38 = .ok (.iaload, 1) := by decide +kernel
theorem dX8_delete_39 : decode cX8_delete 39 = .ok (.ireturn, 1) := by decide +kernel
theorem dX8_files_0 : decode cX8_files 0 = .ok (.aload_n 0, 1) := by decide +kernel
theorem dX8_files_1 : decode cX8_files 1 = .ok (.iconst 0, 1) := by decide +kernel
theorem dX8_files_2 : decode cX8_files 2 = .ok (.putfield 77, 3) := by decide +kernel
theorem dX8_files_5 : decode cX8_files 5 = .ok (.iconst 0, 1) := by decide +kernel
theorem dX8_files_6 : decode cX8_files 6 = .ok (.istore_n 1, 1) := by decide +kernel
theorem dX8_files_7 : decode cX8_files 7 = .ok (.iconst 0, 1) := by decide +kernel
theorem dX8_files_8 : decode cX8_files 8 = .ok (.istore_n 2, 1) := by decide +kernel
theorem dX8_files_9 : decode cX8_files 9 = .ok (.iload_n 2, 1) := by decide +kernel
theorem dX8_files_10 : decode cX8_files 10 = .ok (.aload_n 0, 1) := by decide +kernel
theorem dX8_files_11 : decode cX8_files 11 = .ok (.getfield 108, 3) := by decide +kernel
theorem dX8_files_14 : decode cX8_files 14 = .ok (.if_icmp .ge 28, 3) := by decide +kernel
theorem dX8_files_17 : decode cX8_files 17 = .ok (.iload_n 1, 1) := by decide +kernel
theorem dX8_files_18 : decode cX8_files 18 = .ok (.aload_n 0, 1) := by decide +kernel
theorem dX8_files_19 : decode cX8_files 19 = .ok (.getfield 22, 3) := by decide +kernel
theorem dX8_files_22 : decode cX8_files 22 = .ok (.iload_n 2, 1) := by decide +kernel
theorem dX8_files_23 : decode cX8_files 23 = .ok (.baload, 1) := by decide +kernel
theorem dX8_files_24 : decode cX8_files 24 = .ok (.ifCond .eq 9, 3) := by decide +kernel
theorem dX8_files_27 : decode cX8_files 27 = .ok (.iconst 1, 1) := by decide +kernel
theorem dX8_files_28 : decode cX8_files 28 = .ok (.iload_n 2, 1) := by decide +kernel
theorem dX8_files_29 : decode cX8_files 29 = .ok (.ishl, 1) := by decide +kernel
theorem dX8_files_30 : decode cX8_files 30 = .ok (.goto 4, 3) := by decide +kernel
theorem dX8_files_33 : decode cX8_files 33 = .ok (.iconst 0, 1) := by decide +kernel
theorem dX8_files_34 : decode cX8_files 34 = .ok (.ior, 1) := by decide +kernel
theorem dX8_files_35 : decode cX8_files 35 = .ok (.istore_n 1, 1) := by decide +kernel
theorem dX8_files_36 : decode cX8_files 36 = .ok (.iinc 2 1, 3) := by decide +kernel
theorem dX8_files_39 : decode cX8_files 39 = .ok (.goto (-30), 3) := by decide +kernel
theorem dX8_files_42 : decode cX8_files 42 = .ok (.iload_n 1, 1) := by decide +kernel
theorem dX8_files_43 : decode cX8_files 43 = .ok (.ireturn, 1) := by decide +kernel
theorem dX8_matches_0 : decode cX8_matches 0 = .ok (.aload_n 0, 1) := by decide +kernel
theorem dX8_matches_1 : decode cX8_matches 1 = .ok (.iload_n 1, 1) := by decide +kernel
theorem dX8_matches_2 : decode cX8_matches 2 = .ok (.iconst 0, 1) := by decide +kernel
theorem dX8_matches_3 : decode cX8_matches 3 = .ok (.aload_n 0, 1) := by decide +kernel
theorem dX8_matches_4 : decode cX8_matches 4 = .ok (.getfield 108, 3) := by decide +kernel
theorem dX8_matches_7 : decode cX8_matches 7 = .ok (.iconst 1, 1) := by decide +kernel
theorem dX8_matches_8 : decode cX8_matches 8 = .ok (.isub, 1) := by decide +kernel
theorem dX8_matches_9 : decode cX8_matches 9 = .ok (.invokestatic 111, 3) := by decide +kernel
theorem dX8_matches_12 : decode cX8_matches 12 = .ok (.ifCond .ne 7, 3) := by decide +kernel
theorem dX8_matches_15 : decode cX8_matches 15 = .ok (.iconst 1, 1) := by decide +kernel
theorem dX8_matches_16 : decode cX8_matches 16 = .ok (.goto 15, 3) := by decide +kernel
theorem dX8_matches_19 : decode cX8_matches 19 = .ok (.aload_n 0, 1) := by decide +kernel
theorem dX8_matches_20 : decode cX8_matches 20 = .ok (.invokevirtual 92, 3) := by decide +kernel
theorem dX8_matches_23 : decode cX8_matches 23 = .ok (.ifCond .eq 7, 3) := by decide +kernel
theorem dX8_matches_26 : decode cX8_matches 26 = .ok (.iconst 0, 1) := by decide +kernel
theorem dX8_matches_27 : decode cX8_matches 27 = .ok (.goto 4, 3) := by decide +kernel
theorem dX8_matches_30 : decode cX8_matches 30 = .ok (.iconst 2, 1) := by decide +kernel
theorem dX8_matches_31 : decode cX8_matches 31 = .ok (.putfield 77, 3) := by decide +kernel
theorem dX8_matches_34 : decode cX8_matches 34 = .ok (.aload_n 0, 1) := by decide +kernel
theorem dX8_matches_35 : decode cX8_matches 35 = .ok (.getfield 77, 3) := by decide +kernel
theorem dX8_matches_38 : decode cX8_matches 38 = .ok (.ifCond .ne 17, 3) := by decide +kernel
theorem dX8_matches_41 : decode cX8_matches 41 = .ok (.aload_n 0, 1) := by decide +kernel
theorem dX8_matches_42 : decode cX8_matches 42 = .ok (.bipush 76, 2) := by decide +kernel
theorem dX8_matches_44 : decode cX8_matches 44 = .ok (.iload_n 1, 1) := by decide +kernel
theorem dX8_matches_45 : decode cX8_matches 45 = .ok (.invokevirtual 123, 3) := by decide +kernel
theorem dX8_matches_48 : decode cX8_matches 48 = .ok (.ifCond .eq 7, 3) := by decide +kernel
theorem dX8_matches_51 : decode cX8_matches 51 = .ok (.iconst 1, 1) := by decide +kernel
theorem dX8_matches_52 : decode cX8_matches 52 = .ok (.goto 4, 3) := by decide +kernel
theorem dX8_matches_55 : decode cX8_matches 55 = .ok (.iconst 0, 1) := by decide +kernel
theorem dX8_matches_56 : decode cX8_matches 56 = .ok (.ireturn, 1) := by decide +kernel
theorem dX8_isTarget_0 : decode cX8_isTarget 0 = .ok (.iload_n 1, 1) := by decide +kernel
theorem dX8_isTarget_1 : decode cX8_isTarget 1 = .ok (.iconst 0, 1) := by decide +kernel
theorem dX8_isTarget_2 : decode cX8_isTarget 2 = .ok (.aload_n 0, 1) := by decide +kernel
theorem dX8_isTarget_3 : decode cX8_isTarget 3 = .ok (.getfield 127, 3) := by decide +kernel
theorem dX8_isTarget_6 : decode cX8_isTarget 6 = .ok (.iconst 1, 1) := by decide +kernel
theorem dX8_isTarget_7 : decode cX8_isTarget 7 = .ok (.isub, 1) := by decide +kernel
theorem dX8_isTarget_8 : decode cX8_isTarget 8 = .ok (.invokestatic 111, 3) := by decide +kernel
theorem dX8_isTarget_11 : decode cX8_isTarget 11 = .ok (.ireturn, 1) := by decide +kernel
theorem dX8_addTarget_0 : decode cX8_addTarget 0 = .ok (.aload_n 0, 1) := by decide +kernel
theorem dX8_addTarget_1 : decode cX8_addTarget 1 = .ok (.iload_n 1, 1) := by decide +kernel
theorem dX8_addTarget_2 : decode cX8_addTarget 2 = .ok (.iconst 1, 1) := by decide +kernel
theorem dX8_addTarget_3 : decode cX8_addTarget 3 = .ok (.sipush 1000, 3) := by decide +kernel
theorem dX8_addTarget_6 : decode cX8_addTarget 6 = .ok (.invokestatic 111, 3) := by decide +kernel
theorem dX8_addTarget_9 : decode cX8_addTarget 9 = .ok (.ifCond .ne 7, 3) := by decide +kernel
theorem dX8_addTarget_12 : decode cX8_addTarget 12 = .ok (.iconst 1, 1) := by decide +kernel
theorem dX8_addTarget_13 : decode cX8_addTarget 13 = .ok (.goto 17, 3) := by decide +kernel
theorem dX8_addTarget_16 : decode cX8_addTarget 16 = .ok (.aload_n 0, 1) := by decide +kernel
theorem dX8_addTarget_17 : decode cX8_addTarget 17 = .ok (.getfield 127, 3) := by decide +kernel
theorem dX8_addTarget_20 : decode cX8_addTarget 20 = .ok (.bipush 16, 2) := by decide +kernel
theorem dX8_addTarget_22 : decode cX8_addTarget 22 = .ok (.if_icmp .ne 7, 3) := by decide +kernel
theorem dX8_addTarget_25 : decode cX8_addTarget 25 = .ok (.iconst 2, 1) := by decide +kernel
theorem dX8_addTarget_26 : decode cX8_addTarget 26 = .ok (.goto 4, 3) := by decide +kernel
theorem dX8_addTarget_29 : decode cX8_addTarget 29 = .ok (.iconst 0, 1) := by decide +kernel
theorem dX8_addTarget_30 : decode cX8_addTarget 30 = .ok (.putfield 77, 3) := by decide +kernel
theorem dX8_addTarget_33 : decode cX8_addTarget 33 = .ok (.aload_n 0, 1) := by decide +kernel
theorem dX8_addTarget_34 : decode cX8_addTarget 34 = .ok (.getfield 77, 3) := by decide +kernel
theorem dX8_addTarget_37 : decode cX8_addTarget 37 = .ok (.ifCond .le 5, 3) := by decide +kernel
theorem dX8_addTarget_40 : decode cX8_addTarget 40 = .ok (.iconst 0, 1) := by decide +kernel
theorem dX8_addTarget_41 : decode cX8_addTarget 41 = .ok (.ireturn, 1) := by decide +kernel
theorem dX8_addTarget_42 : decode cX8_addTarget 42 = .ok (.aload_n 0, 1) := by decide +kernel
theorem dX8_addTarget_43 : decode cX8_addTarget 43 = .ok (.getfield 35, 3) := by decide +kernel
theorem dX8_addTarget_46 : decode cX8_addTarget 46 = .ok (.aload_n 0, 1) := by decide +kernel
theorem dX8_addTarget_47 : decode cX8_addTarget 47 = .ok (.getfield 127, 3) := by decide +kernel
theorem dX8_addTarget_50 : decode cX8_addTarget 50 = .ok (.iload_n 1, 1) := by decide +kernel
theorem dX8_addTarget_51 : decode cX8_addTarget 51 = .ok (.iastore, 1) := by decide +kernel
theorem dX8_addTarget_52 : decode cX8_addTarget 52 = .ok (.aload_n 0, 1) := by decide +kernel
theorem dX8_addTarget_53 : decode cX8_addTarget 53 = .ok (.dup, 1) := by decide +kernel
theorem dX8_addTarget_54 : decode cX8_addTarget 54 = .ok (.getfield 127, 3) := by decide +kernel
theorem dX8_addTarget_57 : decode cX8_addTarget 57 = .ok (.iconst 1, 1) := by decide +kernel
theorem dX8_addTarget_58 : decode cX8_addTarget 58 = .ok (.iadd, 1) := by decide +kernel
theorem dX8_addTarget_59 : decode cX8_addTarget 59 = .ok (.putfield 127, 3) := by decide +kernel
theorem dX8_addTarget_62 : decode cX8_addTarget 62 = .ok (.aload_n 0, 1) := by decide +kernel
theorem dX8_addTarget_63 : decode cX8_addTarget 63 = .ok (.getfield 127, 3) := by decide +kernel
theorem dX8_addTarget_66 : decode cX8_addTarget 66 = .ok (.iconst 1, 1) := by decide +kernel
theorem dX8_addTarget_67 : decode cX8_addTarget 67 = .ok (.isub, 1) := by decide +kernel
theorem dX8_addTarget_68 : decode cX8_addTarget 68 = .ok (.ireturn, 1) := by decide +kernel
theorem dX8_takes_0 : decode cX8_takes 0 = .ok (.iconst 0, 1) := by decide +kernel
theorem dX8_takes_1 : decode cX8_takes 1 = .ok (.istore_n 3, 1) := by decide +kernel
theorem dX8_takes_2 : decode cX8_takes 2 = .ok (.iconst 0, 1) := by decide +kernel
theorem dX8_takes_3 : decode cX8_takes 3 = .ok (.istore 4, 2) := by decide +kernel
theorem dX8_takes_5 : decode cX8_takes 5 = .ok (.iload 4, 2) := by decide +kernel
theorem dX8_takes_7 : decode cX8_takes 7 = .ok (.aload_n 0, 1) := by decide +kernel
theorem dX8_takes_8 : decode cX8_takes 8 = .ok (.getfield 38, 3) := by decide +kernel
theorem dX8_takes_11 : decode cX8_takes 11 = .ok (.iload_n 1, 1) := by decide +kernel
theorem dX8_takes_12 : decode cX8_takes 12 = .ok (.iaload, 1) := by decide +kernel
theorem dX8_takes_13 : decode cX8_takes 13 = .ok (.if_icmp .ge 23, 3) := by decide +kernel
theorem dX8_takes_16 : decode cX8_takes 16 = .ok (.iload_n 3, 1) := by decide +kernel
theorem dX8_takes_17 : decode cX8_takes 17 = .ok (.aload_n 0, 1) := by decide +kernel
theorem dX8_takes_18 : decode cX8_takes 18 = .ok (.iconst 4, 1) := by decide +kernel
theorem dX8_takes_19 : decode cX8_takes 19 = .ok (.iload_n 1, 1) := by decide +kernel
theorem dX8_takes_20 : decode cX8_takes 20 = .ok (.imul, 1) := by decide +kernel
theorem dX8_takes_21 : decode cX8_takes 21 = .ok (.iload 4, 2) := by decide +kernel
theorem dX8_takes_23 : decode cX8_takes 23 = .ok (.iadd, 1) := by decide +kernel
theorem dX8_takes_24 : decode cX8_takes 24 = .ok (.iload_n 2, 1) := by decide +kernel
theorem dX8_takes_25 : decode cX8_takes 25 = .ok (.invokevirtual 123, 3) := by decide +kernel
theorem dX8_takes_28 : decode cX8_takes 28 = .ok (.ior, 1) := by decide +kernel
theorem dX8_takes_29 : decode cX8_takes 29 = .ok (.istore_n 3, 1) := by decide +kernel
theorem dX8_takes_30 : decode cX8_takes 30 = .ok (.iinc 4 1, 3) := by decide +kernel
theorem dX8_takes_33 : decode cX8_takes 33 = .ok (.goto (-28), 3) := by decide +kernel
theorem dX8_takes_36 : decode cX8_takes 36 = .ok (.iload_n 3, 1) := by decide +kernel
theorem dX8_takes_37 : decode cX8_takes 37 = .ok (.ireturn, 1) := by decide +kernel
theorem dX8_inputsOf_0 : decode cX8_inputsOf 0 = .ok (.iconst 0, 1) := by decide +kernel
theorem dX8_inputsOf_1 : decode cX8_inputsOf 1 = .ok (.istore_n 2, 1) := by decide +kernel
theorem dX8_inputsOf_2 : decode cX8_inputsOf 2 = .ok (.iconst 0, 1) := by decide +kernel
theorem dX8_inputsOf_3 : decode cX8_inputsOf 3 = .ok (.istore_n 3, 1) := by decide +kernel
theorem dX8_inputsOf_4 : decode cX8_inputsOf 4 = .ok (.iload_n 3, 1) := by decide +kernel
theorem dX8_inputsOf_5 : decode cX8_inputsOf 5 = .ok (.aload_n 0, 1) := by decide +kernel
theorem dX8_inputsOf_6 : decode cX8_inputsOf 6 = .ok (.getfield 108, 3) := by decide +kernel
theorem dX8_inputsOf_9 : decode cX8_inputsOf 9 = .ok (.if_icmp .ge 37, 3) := by decide +kernel
theorem dX8_inputsOf_12 : decode cX8_inputsOf 12 = .ok (.iload_n 2, 1) := by decide +kernel
theorem dX8_inputsOf_13 : decode cX8_inputsOf 13 = .ok (.aload_n 0, 1) := by decide +kernel
theorem dX8_inputsOf_14 : decode cX8_inputsOf 14 = .ok (.getfield 22, 3) := by decide +kernel
theorem dX8_inputsOf_17 : decode cX8_inputsOf 17 = .ok (.iload_n 3, 1) := by decide +kernel
theorem dX8_inputsOf_18 : decode cX8_inputsOf 18 = .ok (.baload, 1) := by decide +kernel
theorem dX8_inputsOf_19 : decode cX8_inputsOf 19 = .ok (.ifCond .eq 18, 3) := by decide +kernel
theorem dX8_inputsOf_22 : decode cX8_inputsOf 22 = .ok (.aload_n 0, 1) := by decide +kernel
theorem dX8_inputsOf_23 : decode cX8_inputsOf 23 = .ok (.iload_n 1, 1) := by decide +kernel
theorem dX8_inputsOf_24 : decode cX8_inputsOf 24 = .ok (.iload_n 3, 1) := by decide +kernel
theorem dX8_inputsOf_25 : decode cX8_inputsOf 25 = .ok (.invokevirtual 130, 3) := by decide +kernel
theorem dX8_inputsOf_28 : decode cX8_inputsOf 28 = .ok (.ifCond .eq 9, 3) := by decide +kernel
theorem dX8_inputsOf_31 : decode cX8_inputsOf 31 = .ok (.iconst 1, 1) := by decide +kernel
theorem dX8_inputsOf_32 : decode cX8_inputsOf 32 = .ok (.iload_n 3, 1) := by decide +kernel
theorem dX8_inputsOf_33 : decode cX8_inputsOf 33 = .ok (.ishl, 1) := by decide +kernel
theorem dX8_inputsOf_34 : decode cX8_inputsOf 34 = .ok (.goto 4, 3) := by decide +kernel
theorem dX8_inputsOf_37 : decode cX8_inputsOf 37 = .ok (.iconst 0, 1) := by decide +kernel
theorem dX8_inputsOf_38 : decode cX8_inputsOf 38 = .ok (.ior, 1) := by decide +kernel
theorem dX8_inputsOf_39 : decode cX8_inputsOf 39 = .ok (.istore_n 2, 1) := by decide +kernel
theorem dX8_inputsOf_40 : decode cX8_inputsOf 40 = .ok (.iinc 3 1, 3) := by decide +kernel
theorem dX8_inputsOf_43 : decode cX8_inputsOf 43 = .ok (.goto (-39), 3) := by decide +kernel
theorem dX8_inputsOf_46 : decode cX8_inputsOf 46 = .ok (.iload_n 2, 1) := by decide +kernel
theorem dX8_inputsOf_47 : decode cX8_inputsOf 47 = .ok (.ireturn, 1) := by decide +kernel
theorem dX8_count_0 : decode cX8_count 0 = .ok (.iconst 0, 1) := by decide +kernel
theorem dX8_count_1 : decode cX8_count 1 = .ok (.istore_n 1, 1) := by decide +kernel
theorem dX8_count_2 : decode cX8_count 2 = .ok (.iconst 0, 1) := by decide +kernel
theorem dX8_count_3 : decode cX8_count 3 = .ok (.istore_n 2, 1) := by decide +kernel
theorem dX8_count_4 : decode cX8_count 4 = .ok (.iload_n 2, 1) := by decide +kernel
theorem dX8_count_5 : decode cX8_count 5 = .ok (.bipush 24, 2) := by decide +kernel
theorem dX8_count_7 : decode cX8_count 7 = .ok (.if_icmp .ge 17, 3) := by decide +kernel
theorem dX8_count_10 : decode cX8_count 10 = .ok (.iload_n 1, 1) := by decide +kernel
theorem dX8_count_11 : decode cX8_count 11 = .ok (.iload_n 0, 1) := by decide +kernel
theorem dX8_count_12 : decode cX8_count 12 = .ok (.iload_n 2, 1) := by decide +kernel
theorem dX8_count_13 : decode cX8_count 13 = .ok (.ishr, 1) := by decide +kernel
theorem dX8_count_14 : decode cX8_count 14 = .ok (.iconst 1, 1) := by decide +kernel
theorem dX8_count_15 : decode cX8_count 15 = .ok (.iand, 1) := by decide +kernel
theorem dX8_count_16 : decode cX8_count 16 = .ok (.iadd, 1) := by decide +kernel
theorem dX8_count_17 : decode cX8_count 17 = .ok (.istore_n 1, 1) := by decide +kernel
theorem dX8_count_18 : decode cX8_count 18 = .ok (.iinc 2 1, 3) := by decide +kernel
theorem dX8_count_21 : decode cX8_count 21 = .ok (.goto (-17), 3) := by decide +kernel
theorem dX8_count_24 : decode cX8_count 24 = .ok (.iload_n 1, 1) := by decide +kernel
theorem dX8_count_25 : decode cX8_count 25 = .ok (.ireturn, 1) := by decide +kernel
theorem dX8_addGlob_0 : decode cX8_addGlob 0 = .ok (.aload_n 0, 1) := by decide +kernel
theorem dX8_addGlob_1 : decode cX8_addGlob 1 = .ok (.aload_n 0, 1) := by decide +kernel
theorem dX8_addGlob_2 : decode cX8_addGlob 2 = .ok (.iload_n 1, 1) := by decide +kernel
theorem dX8_addGlob_3 : decode cX8_addGlob 3 = .ok (.invokevirtual 133, 3) := by decide +kernel
theorem dX8_addGlob_6 : decode cX8_addGlob 6 = .ok (.ifCond .ne 7, 3) := by decide +kernel
theorem dX8_addGlob_9 : decode cX8_addGlob 9 = .ok (.iconst 1, 1) := by decide +kernel
theorem dX8_addGlob_10 : decode cX8_addGlob 10 = .ok (.goto 29, 3) := by decide +kernel
theorem dX8_addGlob_13 : decode cX8_addGlob 13 = .ok (.aload_n 0, 1) := by decide +kernel
theorem dX8_addGlob_14 : decode cX8_addGlob 14 = .ok (.invokevirtual 92, 3) := by decide +kernel
theorem dX8_addGlob_17 : decode cX8_addGlob 17 = .ok (.ifCond .ne 7, 3) := by decide +kernel
theorem dX8_addGlob_20 : decode cX8_addGlob 20 = .ok (.iconst 2, 1) := by decide +kernel
theorem dX8_addGlob_21 : decode cX8_addGlob 21 = .ok (.goto 18, 3) := by decide +kernel
theorem dX8_addGlob_24 : decode cX8_addGlob 24 = .ok (.aload_n 0, 1) := by decide +kernel
theorem dX8_addGlob_25 : decode cX8_addGlob 25 = .ok (.getfield 38, 3) := by decide +kernel
theorem dX8_addGlob_28 : decode cX8_addGlob 28 = .ok (.iload_n 1, 1) := by decide +kernel
theorem dX8_addGlob_29 : decode cX8_addGlob 29 = .ok (.iaload, 1) := by decide +kernel
theorem dX8_addGlob_30 : decode cX8_addGlob 30 = .ok (.iconst 4, 1) := by decide +kernel
theorem dX8_addGlob_31 : decode cX8_addGlob 31 = .ok (.if_icmp .ne 7, 3) := by decide +kernel
theorem dX8_addGlob_34 : decode cX8_addGlob 34 = .ok (.iconst 3, 1) := by decide +kernel
theorem dX8_addGlob_35 : decode cX8_addGlob 35 = .ok (.goto 4, 3) := by decide +kernel
theorem dX8_addGlob_38 : decode cX8_addGlob 38 = .ok (.iconst 0, 1) := by decide +kernel
theorem dX8_addGlob_39 : decode cX8_addGlob 39 = .ok (.putfield 77, 3) := by decide +kernel
theorem dX8_addGlob_42 : decode cX8_addGlob 42 = .ok (.aload_n 0, 1) := by decide +kernel
theorem dX8_addGlob_43 : decode cX8_addGlob 43 = .ok (.getfield 77, 3) := by decide +kernel
theorem dX8_addGlob_46 : decode cX8_addGlob 46 = .ok (.ifCond .le 5, 3) := by decide +kernel
theorem dX8_addGlob_49 : decode cX8_addGlob 49 = .ok (.iconst 0, 1) := by decide +kernel
theorem dX8_addGlob_50 : decode cX8_addGlob 50 = .ok (.ireturn, 1) := by decide +kernel
theorem dX8_addGlob_51 : decode cX8_addGlob 51 = .ok (.aload_n 0, 1) := by decide +kernel
theorem dX8_addGlob_52 : decode cX8_addGlob 52 = .ok (.iconst 4, 1) := by decide +kernel
theorem dX8_addGlob_53 : decode cX8_addGlob 53 = .ok (.iload_n 1, 1) := by decide +kernel
theorem dX8_addGlob_54 : decode cX8_addGlob 54 = .ok (.imul, 1) := by decide +kernel
theorem dX8_addGlob_55 : decode cX8_addGlob 55 = .ok (.aload_n 0, 1) := by decide +kernel
theorem dX8_addGlob_56 : decode cX8_addGlob 56 = .ok (.getfield 38, 3) := by decide +kernel
theorem dX8_addGlob_59 : decode cX8_addGlob 59 = .ok (.iload_n 1, 1) := by decide +kernel
theorem dX8_addGlob_60 : decode cX8_addGlob 60 = .ok (.iaload, 1) := by decide +kernel
theorem dX8_addGlob_61 : decode cX8_addGlob 61 = .ok (.iadd, 1) := by decide +kernel
theorem dX8_addGlob_62 : decode cX8_addGlob 62 = .ok (.invokevirtual 136, 3) := by decide +kernel
theorem dX8_addGlob_65 : decode cX8_addGlob 65 = .ok (.aload_n 0, 1) := by decide +kernel
theorem dX8_addGlob_66 : decode cX8_addGlob 66 = .ok (.getfield 38, 3) := by decide +kernel
theorem dX8_addGlob_69 : decode cX8_addGlob 69 = .ok (.iload_n 1, 1) := by decide +kernel
theorem dX8_addGlob_70 : decode cX8_addGlob 70 = .ok (.dup2, 1) := by decide +kernel
theorem dX8_addGlob_71 : decode cX8_addGlob 71 = .ok (.iaload, 1) := by decide +kernel
theorem dX8_addGlob_72 : decode cX8_addGlob 72 = .ok (.iconst 1, 1) := by decide +kernel
theorem dX8_addGlob_73 : decode cX8_addGlob 73 = .ok (.iadd, 1) := by decide +kernel
theorem dX8_addGlob_74 : decode cX8_addGlob 74 = .ok (.iastore, 1) := by decide +kernel
theorem dX8_addGlob_75 : decode cX8_addGlob 75 = .ok (.aload_n 0, 1) := by decide +kernel
theorem dX8_addGlob_76 : decode cX8_addGlob 76 = .ok (.iload_n 1, 1) := by decide +kernel
theorem dX8_addGlob_77 : decode cX8_addGlob 77 = .ok (.invokevirtual 140, 3) := by decide +kernel
theorem dX8_addGlob_80 : decode cX8_addGlob 80 = .ok (.invokestatic 144, 3) := by decide +kernel
theorem dX8_addGlob_83 : decode cX8_addGlob 83 = .ok (.ireturn, 1) := by decide +kernel
theorem dX8_upwards_0 : decode cX8_upwards 0 = .ok (.iload_n 1, 1) := by decide +kernel
theorem dX8_upwards_1 : decode cX8_upwards 1 = .ok (.istore_n 2, 1) := by decide +kernel
theorem dX8_upwards_2 : decode cX8_upwards 2 = .ok (.iconst 0, 1) := by decide +kernel
theorem dX8_upwards_3 : decode cX8_upwards 3 = .ok (.istore_n 3, 1) := by decide +kernel
theorem dX8_upwards_4 : decode cX8_upwards 4 = .ok (.iload_n 3, 1) := by decide +kernel
theorem dX8_upwards_5 : decode cX8_upwards 5 = .ok (.aload_n 0, 1) := by decide +kernel
theorem dX8_upwards_6 : decode cX8_upwards 6 = .ok (.getfield 127, 3) := by decide +kernel
theorem dX8_upwards_9 : decode cX8_upwards 9 = .ok (.if_icmp .ge 50, 3) := by decide +kernel
theorem dX8_upwards_12 : decode cX8_upwards 12 = .ok (.iconst 0, 1) := by decide +kernel
theorem dX8_upwards_13 : decode cX8_upwards 13 = .ok (.istore 4, 2) := by decide +kernel
theorem dX8_upwards_15 : decode cX8_upwards 15 = .ok (.iload 4, 2) := by decide +kernel
theorem dX8_upwards_17 : decode cX8_upwards 17 = .ok (.aload_n 0, 1) := by decide +kernel
theorem dX8_upwards_18 : decode cX8_upwards 18 = .ok (.getfield 127, 3) := by decide +kernel
theorem dX8_upwards_21 : decode cX8_upwards 21 = .ok (.if_icmp .ge 32, 3) := by decide +kernel
theorem dX8_upwards_24 : decode cX8_upwards 24 = .ok (.iload_n 2, 1) := by decide +kernel
theorem dX8_upwards_25 : decode cX8_upwards 25 = .ok (.aload_n 0, 1) := by decide +kernel
theorem dX8_upwards_26 : decode cX8_upwards 26 = .ok (.getfield 41, 3) := by decide +kernel
theorem dX8_upwards_29 : decode cX8_upwards 29 = .ok (.iload 4, 2) := by decide +kernel
theorem dX8_upwards_31 : decode cX8_upwards 31 = .ok (.iaload, 1) := by decide +kernel
theorem dX8_upwards_32 : decode cX8_upwards 32 = .ok (.iload_n 2, 1) := by decide +kernel
theorem dX8_upwards_33 : decode cX8_upwards 33 = .ok (.iand, 1) := by decide +kernel
theorem dX8_upwards_34 : decode cX8_upwards 34 = .ok (.ifCond .eq 10, 3) := by decide +kernel
theorem dX8_upwards_37 : decode cX8_upwards 37 = .ok (.iconst 1, 1) := by decide +kernel
theorem dX8_upwards_38 : decode cX8_upwards 38 = .ok (.iload 4, 2) := by decide +kernel
theorem dX8_upwards_40 : decode cX8_upwards 40 = .ok (.ishl, 1) := by decide +kernel
theorem dX8_upwards_41 : decode cX8_upwards 41 = .ok (.goto 4, 3) := by decide +kernel
theorem dX8_upwards_44 : decode cX8_upwards 44 = .ok (.iconst 0, 1) := by decide +kernel
theorem dX8_upwards_45 : decode cX8_upwards 45 = .ok (.ior, 1) := by decide +kernel
theorem dX8_upwards_46 : decode cX8_upwards 46 = .ok (.istore_n 2, 1) := by decide +kernel
theorem dX8_upwards_47 : decode cX8_upwards 47 = .ok (.iinc 4 1, 3) := by decide +kernel
theorem dX8_upwards_50 : decode cX8_upwards 50 = .ok (.goto (-35), 3) := by decide +kernel
theorem dX8_upwards_53 : decode cX8_upwards 53 = .ok (.iinc 3 1, 3) := by decide +kernel
theorem dX8_upwards_56 : decode cX8_upwards 56 = .ok (.goto (-52), 3) := by decide +kernel
theorem dX8_upwards_59 : decode cX8_upwards 59 = .ok (.iload_n 2, 1) := by decide +kernel
theorem dX8_upwards_60 : decode cX8_upwards 60 = .ok (.ireturn, 1) := by decide +kernel
theorem dX8_aboveOf_0 : decode cX8_aboveOf 0 = .ok (.aload_n 0, 1) := by decide +kernel
theorem dX8_aboveOf_1 : decode cX8_aboveOf 1 = .ok (.iconst 1, 1) := by decide +kernel
theorem dX8_aboveOf_2 : decode cX8_aboveOf 2 = .ok (.iload_n 1, 1) := by decide +kernel
theorem dX8_aboveOf_3 : decode cX8_aboveOf 3 = .ok (.ishl, 1) := by decide +kernel
theorem dX8_aboveOf_4 : decode cX8_aboveOf 4 = .ok (.invokevirtual 147, 3) := by decide +kernel
theorem dX8_aboveOf_7 : decode cX8_aboveOf 7 = .ok (.iconst 1, 1) := by decide +kernel
theorem dX8_aboveOf_8 : decode cX8_aboveOf 8 = .ok (.iload_n 1, 1) := by decide +kernel
theorem dX8_aboveOf_9 : decode cX8_aboveOf 9 = .ok (.ishl, 1) := by decide +kernel
theorem dX8_aboveOf_10 : decode cX8_aboveOf 10 = .ok (.iconst (-1), 1) := by decide +kernel
theorem dX8_aboveOf_11 : decode cX8_aboveOf 11 = .ok (.ixor, 1) := by decide +kernel
theorem dX8_aboveOf_12 : decode cX8_aboveOf 12 = .ok (.iand, 1) := by decide +kernel
theorem dX8_aboveOf_13 : decode cX8_aboveOf 13 = .ok (.ireturn, 1) := by decide +kernel
theorem dX8_depend_0 : decode cX8_depend 0 = .ok (.aload_n 0, 1) := by decide +kernel
theorem dX8_depend_1 : decode cX8_depend 1 = .ok (.aload_n 0, 1) := by decide +kernel
theorem dX8_depend_2 : decode cX8_depend 2 = .ok (.iload_n 1, 1) := by decide +kernel
theorem dX8_depend_3 : decode cX8_depend 3 = .ok (.invokevirtual 133, 3) := by decide +kernel
theorem dX8_depend_6 : decode cX8_depend 6 = .ok (.ifCond .eq 15, 3) := by decide +kernel
theorem dX8_depend_9 : decode cX8_depend 9 = .ok (.aload_n 0, 1) := by decide +kernel
theorem dX8_depend_10 : decode cX8_depend 10 = .ok (.iload_n 2, 1) := by decide +kernel
theorem dX8_depend_11 : decode cX8_depend 11 = .ok (.invokevirtual 133, 3) := by decide +kernel
theorem dX8_depend_14 : decode cX8_depend 14 = .ok (.ifCond .eq 7, 3) := by decide +kernel
theorem dX8_depend_17 : decode cX8_depend 17 = .ok (.iconst 0, 1) := by decide +kernel
theorem dX8_depend_18 : decode cX8_depend 18 = .ok (.goto 4, 3) := by decide +kernel
theorem dX8_depend_21 : decode cX8_depend 21 = .ok (.iconst 1, 1) := by decide +kernel
theorem dX8_depend_22 : decode cX8_depend 22 = .ok (.putfield 77, 3) := by decide +kernel
theorem dX8_depend_25 : decode cX8_depend 25 = .ok (.aload_n 0, 1) := by decide +kernel
theorem dX8_depend_26 : decode cX8_depend 26 = .ok (.getfield 77, 3) := by decide +kernel
theorem dX8_depend_29 : decode cX8_depend 29 = .ok (.ifCond .le 5, 3) := by decide +kernel
theorem dX8_depend_32 : decode cX8_depend 32 = .ok (.iconst 0, 1) := by decide +kernel
theorem dX8_depend_33 : decode cX8_depend 33 = .ok (.ireturn, 1) := by decide +kernel
theorem dX8_depend_34 : decode cX8_depend 34 = .ok (.aload_n 0, 1) := by decide +kernel
theorem dX8_depend_35 : decode cX8_depend 35 = .ok (.aload_n 0, 1) := by decide +kernel
theorem dX8_depend_36 : decode cX8_depend 36 = .ok (.getfield 41, 3) := by decide +kernel
theorem dX8_depend_39 : decode cX8_depend 39 = .ok (.iload_n 1, 1) := by decide +kernel
theorem dX8_depend_40 : decode cX8_depend 40 = .ok (.iaload, 1) := by decide +kernel
theorem dX8_depend_41 : decode cX8_depend 41 = .ok (.iload_n 2, 1) := by decide +kernel
theorem dX8_depend_42 : decode cX8_depend 42 = .ok (.ishr, 1) := by decide +kernel
theorem dX8_depend_43 : decode cX8_depend 43 = .ok (.iconst 1, 1) := by decide +kernel
theorem dX8_depend_44 : decode cX8_depend 44 = .ok (.iand, 1) := by decide +kernel
theorem dX8_depend_45 : decode cX8_depend 45 = .ok (.iconst 1, 1) := by decide +kernel
theorem dX8_depend_46 : decode cX8_depend 46 = .ok (.if_icmp .eq 21, 3) := by decide +kernel
theorem dX8_depend_49 : decode cX8_depend 49 = .ok (.iload_n 1, 1) := by decide +kernel
theorem dX8_depend_50 : decode cX8_depend 50 = .ok (.iload_n 2, 1) := by decide +kernel
theorem dX8_depend_51 : decode cX8_depend 51 = .ok (.if_icmp .eq 16, 3) := by decide +kernel
theorem dX8_depend_54 : decode cX8_depend 54 = .ok (.aload_n 0, 1) := by decide +kernel
theorem dX8_depend_55 : decode cX8_depend 55 = .ok (.iload_n 1, 1) := by decide +kernel
theorem dX8_depend_56 : decode cX8_depend 56 = .ok (.invokevirtual 150, 3) := by decide +kernel
theorem dX8_depend_59 : decode cX8_depend 59 = .ok (.iload_n 2, 1) := by decide +kernel
theorem dX8_depend_60 : decode cX8_depend 60 = .ok (.ishr, 1) := by decide +kernel
theorem dX8_depend_61 : decode cX8_depend 61 = .ok (.iconst 1, 1) := by decide +kernel
theorem dX8_depend_62 : decode cX8_depend 62 = .ok (.iand, 1) := by decide +kernel
theorem dX8_depend_63 : decode cX8_depend 63 = .ok (.iconst 1, 1) := by decide +kernel
theorem dX8_depend_64 : decode cX8_depend 64 = .ok (.if_icmp .ne 7, 3) := by decide +kernel
theorem dX8_depend_67 : decode cX8_depend 67 = .ok (.iconst 2, 1) := by decide +kernel
theorem dX8_depend_68 : decode cX8_depend 68 = .ok (.goto 4, 3) := by decide +kernel
theorem dX8_depend_71 : decode cX8_depend 71 = .ok (.iconst 0, 1) := by decide +kernel
theorem dX8_depend_72 : decode cX8_depend 72 = .ok (.putfield 77, 3) := by decide +kernel
theorem dX8_depend_75 : decode cX8_depend 75 = .ok (.aload_n 0, 1) := by decide +kernel
theorem dX8_depend_76 : decode cX8_depend 76 = .ok (.getfield 77, 3) := by decide +kernel
theorem dX8_depend_79 : decode cX8_depend 79 = .ok (.ifCond .le 5, 3) := by decide +kernel
theorem dX8_depend_82 : decode cX8_depend 82 = .ok (.iconst 0, 1) := by decide +kernel
theorem dX8_depend_83 : decode cX8_depend 83 = .ok (.ireturn, 1) := by decide +kernel
theorem dX8_depend_84 : decode cX8_depend 84 = .ok (.aload_n 0, 1) := by decide +kernel
theorem dX8_depend_85 : decode cX8_depend 85 = .ok (.getfield 41, 3) := by decide +kernel
theorem dX8_depend_88 : decode cX8_depend 88 = .ok (.iload_n 1, 1) := by decide +kernel
theorem dX8_depend_89 : decode cX8_depend 89 = .ok (.dup2, 1) := by decide +kernel
theorem dX8_depend_90 : decode cX8_depend 90 = .ok (.iaload, 1) := by decide +kernel
theorem dX8_depend_91 : decode cX8_depend 91 = .ok (.iconst 1, 1) := by decide +kernel
theorem dX8_depend_92 : decode cX8_depend 92 = .ok (.iload_n 2, 1) := by decide +kernel
theorem dX8_depend_93 : decode cX8_depend 93 = .ok (.ishl, 1) := by decide +kernel
theorem dX8_depend_94 : decode cX8_depend 94 = .ok (.ior, 1) := by decide +kernel
theorem dX8_depend_95 : decode cX8_depend 95 = .ok (.iastore, 1) := by decide +kernel
theorem dX8_depend_96 : decode cX8_depend 96 = .ok (.aload_n 0, 1) := by decide +kernel
theorem dX8_depend_97 : decode cX8_depend 97 = .ok (.getfield 41, 3) := by decide +kernel
theorem dX8_depend_100 : decode cX8_depend 100 = .ok (.iload_n 1, 1) := by decide +kernel
theorem dX8_depend_101 : decode cX8_depend 101 = .ok (.iaload, 1) := by decide +kernel
theorem dX8_depend_102 : decode cX8_depend 102 = .ok (.invokestatic 144, 3) := by decide +kernel
theorem dX8_depend_105 : decode cX8_depend 105 = .ok (.ireturn, 1) := by decide +kernel
theorem dX8_targets_0 : decode cX8_targets 0 = .ok (.aload_n 0, 1) := by decide +kernel
theorem dX8_targets_1 : decode cX8_targets 1 = .ok (.iconst 0, 1) := by decide +kernel
theorem dX8_targets_2 : decode cX8_targets 2 = .ok (.putfield 77, 3) := by decide +kernel
theorem dX8_targets_5 : decode cX8_targets 5 = .ok (.aload_n 0, 1) := by decide +kernel
theorem dX8_targets_6 : decode cX8_targets 6 = .ok (.getfield 127, 3) := by decide +kernel
theorem dX8_targets_9 : decode cX8_targets 9 = .ok (.ireturn, 1) := by decide +kernel
theorem dX8_inputs_0 : decode cX8_inputs 0 = .ok (.aload_n 0, 1) := by decide +kernel
theorem dX8_inputs_1 : decode cX8_inputs 1 = .ok (.aload_n 0, 1) := by decide +kernel
theorem dX8_inputs_2 : decode cX8_inputs 2 = .ok (.iload_n 1, 1) := by decide +kernel
theorem dX8_inputs_3 : decode cX8_inputs 3 = .ok (.invokevirtual 133, 3) := by decide +kernel
theorem dX8_inputs_6 : decode cX8_inputs 6 = .ok (.ifCond .eq 7, 3) := by decide +kernel
theorem dX8_inputs_9 : decode cX8_inputs 9 = .ok (.iconst 0, 1) := by decide +kernel
theorem dX8_inputs_10 : decode cX8_inputs 10 = .ok (.goto 4, 3) := by decide +kernel
theorem dX8_inputs_13 : decode cX8_inputs 13 = .ok (.iconst 1, 1) := by decide +kernel
theorem dX8_inputs_14 : decode cX8_inputs 14 = .ok (.putfield 77, 3) := by decide +kernel
theorem dX8_inputs_17 : decode cX8_inputs 17 = .ok (.aload_n 0, 1) := by decide +kernel
theorem dX8_inputs_18 : decode cX8_inputs 18 = .ok (.getfield 77, 3) := by decide +kernel
theorem dX8_inputs_21 : decode cX8_inputs 21 = .ok (.ifCond .le 7, 3) := by decide +kernel
theorem dX8_inputs_24 : decode cX8_inputs 24 = .ok (.iconst 0, 1) := by decide +kernel
theorem dX8_inputs_25 : decode cX8_inputs 25 = .ok (.goto 8, 3) := by decide +kernel
theorem dX8_inputs_28 : decode cX8_inputs 28 = .ok (.aload_n 0, 1) := by decide +kernel
theorem dX8_inputs_29 : decode cX8_inputs 29 = .ok (.iload_n 1, 1) := by decide +kernel
theorem dX8_inputs_30 : decode cX8_inputs 30 = .ok (.invokevirtual 140, 3) := by decide +kernel
theorem dX8_inputs_33 : decode cX8_inputs 33 = .ok (.ireturn, 1) := by decide +kernel
theorem dX8_above_0 : decode cX8_above 0 = .ok (.aload_n 0, 1) := by decide +kernel
theorem dX8_above_1 : decode cX8_above 1 = .ok (.aload_n 0, 1) := by decide +kernel
theorem dX8_above_2 : decode cX8_above 2 = .ok (.iload_n 1, 1) := by decide +kernel
theorem dX8_above_3 : decode cX8_above 3 = .ok (.invokevirtual 133, 3) := by decide +kernel
theorem dX8_above_6 : decode cX8_above 6 = .ok (.ifCond .eq 7, 3) := by decide +kernel
theorem dX8_above_9 : decode cX8_above 9 = .ok (.iconst 0, 1) := by decide +kernel
theorem dX8_above_10 : decode cX8_above 10 = .ok (.goto 4, 3) := by decide +kernel
theorem dX8_above_13 : decode cX8_above 13 = .ok (.iconst 1, 1) := by decide +kernel
theorem dX8_above_14 : decode cX8_above 14 = .ok (.putfield 77, 3) := by decide +kernel
theorem dX8_above_17 : decode cX8_above 17 = .ok (.aload_n 0, 1) := by decide +kernel
theorem dX8_above_18 : decode cX8_above 18 = .ok (.getfield 77, 3) := by decide +kernel
theorem dX8_above_21 : decode cX8_above 21 = .ok (.ifCond .le 7, 3) := by decide +kernel
theorem dX8_above_24 : decode cX8_above 24 = .ok (.iconst 0, 1) := by decide +kernel
theorem dX8_above_25 : decode cX8_above 25 = .ok (.goto 8, 3) := by decide +kernel
theorem dX8_above_28 : decode cX8_above 28 = .ok (.aload_n 0, 1) := by decide +kernel
theorem dX8_above_29 : decode cX8_above 29 = .ok (.iload_n 1, 1) := by decide +kernel
theorem dX8_above_30 : decode cX8_above 30 = .ok (.invokevirtual 150, 3) := by decide +kernel
theorem dX8_above_33 : decode cX8_above 33 = .ok (.ireturn, 1) := by decide +kernel
theorem dX8_orders_0 : decode cX8_orders 0 = .ok (.iconst 0, 1) := by decide +kernel
theorem dX8_orders_1 : decode cX8_orders 1 = .ok (.istore_n 1, 1) := by decide +kernel
theorem dX8_orders_2 : decode cX8_orders 2 = .ok (.iconst 0, 1) := by decide +kernel
theorem dX8_orders_3 : decode cX8_orders 3 = .ok (.istore_n 2, 1) := by decide +kernel
theorem dX8_orders_4 : decode cX8_orders 4 = .ok (.iload_n 2, 1) := by decide +kernel
theorem dX8_orders_5 : decode cX8_orders 5 = .ok (.aload_n 0, 1) := by decide +kernel
theorem dX8_orders_6 : decode cX8_orders 6 = .ok (.getfield 127, 3) := by decide +kernel
theorem dX8_orders_9 : decode cX8_orders 9 = .ok (.if_icmp .ge 73, 3) := by decide +kernel
theorem dX8_orders_12 : decode cX8_orders 12 = .ok (.iconst (-1), 1) := by decide +kernel
theorem dX8_orders_13 : decode cX8_orders 13 = .ok (.istore_n 3, 1) := by decide +kernel
theorem dX8_orders_14 : decode cX8_orders 14 = .ok (.aload_n 0, 1) := by decide +kernel
theorem dX8_orders_15 : decode cX8_orders 15 = .ok (.getfield 127, 3) := by decide +kernel
theorem dX8_orders_18 : decode cX8_orders 18 = .ok (.iconst 1, 1) := by decide +kernel
theorem dX8_orders_19 : decode cX8_orders 19 = .ok (.isub, 1) := by decide +kernel
theorem dX8_orders_20 : decode cX8_orders 20 = .ok (.istore 4, 2) := by decide +kernel
theorem dX8_orders_22 : decode cX8_orders 22 = .ok (.iload 4, 2) := by decide +kernel
theorem dX8_orders_24 : decode cX8_orders 24 = .ok (.ifCond .lt 39, 3) := by decide +kernel
theorem dX8_orders_27 : decode cX8_orders 27 = .ok (.iload_n 1, 1) := by decide +kernel
theorem dX8_orders_28 : decode cX8_orders 28 = .ok (.iload 4, 2) := by decide +kernel
theorem dX8_orders_30 : decode cX8_orders 30 = .ok (.ishr, 1) := by decide +kernel
theorem dX8_orders_31 : decode cX8_orders 31 = .ok (.iconst 1, 1) := by decide +kernel
theorem dX8_orders_32 : decode cX8_orders 32 = .ok (.iand, 1) := by decide +kernel
theorem dX8_orders_33 : decode cX8_orders 33 = .ok (.ifCond .ne 22, 3) := by decide +kernel
theorem dX8_orders_36 : decode cX8_orders 36 = .ok (.aload_n 0, 1) := by decide +kernel
theorem dX8_orders_37 : decode cX8_orders 37 = .ok (.getfield 41, 3) := by decide +kernel
theorem dX8_orders_40 : decode cX8_orders 40 = .ok (.iload 4, 2) := by decide +kernel
theorem dX8_orders_42 : decode cX8_orders 42 = .ok (.iaload, 1) := by decide +kernel
theorem dX8_orders_43 : decode cX8_orders 43 = .ok (.iload_n 1, 1) := by decide +kernel
theorem dX8_orders_44 : decode cX8_orders 44 = .ok (.iconst (-1), 1) := by decide +kernel
theorem dX8_orders_45 : decode cX8_orders 45 = .ok (.ixor, 1) := by decide +kernel
theorem dX8_orders_46 : decode cX8_orders 46 = .ok (.iand, 1) := by decide +kernel
theorem dX8_orders_47 : decode cX8_orders 47 = .ok (.ifCond .ne 8, 3) := by decide +kernel
theorem dX8_orders_50 : decode cX8_orders 50 = .ok (.iload 4, 2) := by decide +kernel
theorem dX8_orders_52 : decode cX8_orders 52 = .ok (.goto 4, 3) := by decide +kernel
theorem dX8_orders_55 : decode cX8_orders 55 = .ok (.iload_n 3, 1) := by decide +kernel
theorem dX8_orders_56 : decode cX8_orders 56 = .ok (.istore_n 3, 1) := by decide +kernel
theorem dX8_orders_57 : decode cX8_orders 57 = .ok (.iinc 4 (-1), 3) := by decide +kernel
theorem dX8_orders_60 : decode cX8_orders 60 = .ok (.goto (-38), 3) := by decide +kernel
theorem dX8_orders_63 : decode cX8_orders 63 = .ok (.aload_n 0, 1) := by decide +kernel
theorem dX8_orders_64 : decode cX8_orders 64 = .ok (.getfield 65, 3) := by decide +kernel
theorem dX8_orders_67 : decode cX8_orders 67 = .ok (.iload_n 2, 1) := by decide +kernel
theorem dX8_orders_68 : decode cX8_orders 68 = .ok (.iload_n 3, 1) := by decide +kernel
theorem dX8_orders_69 : decode cX8_orders 69 = .ok (.iastore, 1) := by decide +kernel
theorem dX8_orders_70 : decode cX8_orders 70 = .ok (.iload_n 1, 1) := by decide +kernel
theorem dX8_orders_71 : decode cX8_orders 71 = .ok (.iconst 1, 1) := by decide +kernel
theorem dX8_orders_72 : decode cX8_orders 72 = .ok (.iload_n 3, 1) := by decide +kernel
theorem dX8_orders_73 : decode cX8_orders 73 = .ok (.ishl, 1) := by decide +kernel
theorem dX8_orders_74 : decode cX8_orders 74 = .ok (.ior, 1) := by decide +kernel
theorem dX8_orders_75 : decode cX8_orders 75 = .ok (.istore_n 1, 1) := by decide +kernel
theorem dX8_orders_76 : decode cX8_orders 76 = .ok (.iinc 2 1, 3) := by decide +kernel
theorem dX8_orders_79 : decode cX8_orders 79 = .ok (.goto (-75), 3) := by decide +kernel
theorem dX8_orders_82 : decode cX8_orders 82 = .ok (.return_, 1) := by decide +kernel
theorem dX8_orderAt_0 : decode cX8_orderAt 0 = .ok (.aload_n 0, 1) := by decide +kernel
theorem dX8_orderAt_1 : decode cX8_orderAt 1 = .ok (.aload_n 0, 1) := by decide +kernel
theorem dX8_orderAt_2 : decode cX8_orderAt 2 = .ok (.iload_n 1, 1) := by decide +kernel
theorem dX8_orderAt_3 : decode cX8_orderAt 3 = .ok (.invokevirtual 133, 3) := by decide +kernel
theorem dX8_orderAt_6 : decode cX8_orderAt 6 = .ok (.ifCond .eq 7, 3) := by decide +kernel
theorem dX8_orderAt_9 : decode cX8_orderAt 9 = .ok (.iconst 0, 1) := by decide +kernel
theorem dX8_orderAt_10 : decode cX8_orderAt 10 = .ok (.goto 4, 3) := by decide +kernel
theorem dX8_orderAt_13 : decode cX8_orderAt 13 = .ok (.iconst 1, 1) := by decide +kernel
theorem dX8_orderAt_14 : decode cX8_orderAt 14 = .ok (.putfield 77, 3) := by decide +kernel
theorem dX8_orderAt_17 : decode cX8_orderAt 17 = .ok (.aload_n 0, 1) := by decide +kernel
theorem dX8_orderAt_18 : decode cX8_orderAt 18 = .ok (.getfield 77, 3) := by decide +kernel
theorem dX8_orderAt_21 : decode cX8_orderAt 21 = .ok (.ifCond .le 5, 3) := by decide +kernel
theorem dX8_orderAt_24 : decode cX8_orderAt 24 = .ok (.iconst 0, 1) := by decide +kernel
theorem dX8_orderAt_25 : decode cX8_orderAt 25 = .ok (.ireturn, 1) := by decide +kernel
theorem dX8_orderAt_26 : decode cX8_orderAt 26 = .ok (.aload_n 0, 1) := by decide +kernel
theorem dX8_orderAt_27 : decode cX8_orderAt 27 = .ok (.invokevirtual 153, 3) := by decide +kernel
theorem dX8_orderAt_30 : decode cX8_orderAt 30 = .ok (.aload_n 0, 1) := by decide +kernel
theorem dX8_orderAt_31 : decode cX8_orderAt 31 = .ok (.getfield 65, 3) := by decide +kernel
theorem dX8_orderAt_34 : decode cX8_orderAt 34 = .ok (.iload_n 1, 1) := by decide +kernel
theorem dX8_orderAt_35 : decode cX8_orderAt 35 = .ok (.iaload, 1) := by decide +kernel
theorem dX8_orderAt_36 : decode cX8_orderAt 36 = .ok (.ireturn, 1) := by decide +kernel
theorem dX8_affected_0 : decode cX8_affected 0 = .ok (.iconst 0, 1) := by decide +kernel
theorem dX8_affected_1 : decode cX8_affected 1 = .ok (.istore_n 2, 1) := by decide +kernel
theorem dX8_affected_2 : decode cX8_affected 2 = .ok (.iconst 0, 1) := by decide +kernel
theorem dX8_affected_3 : decode cX8_affected 3 = .ok (.istore_n 3, 1) := by decide +kernel
theorem dX8_affected_4 : decode cX8_affected 4 = .ok (.iload_n 3, 1) := by decide +kernel
theorem dX8_affected_5 : decode cX8_affected 5 = .ok (.aload_n 0, 1) := by decide +kernel
theorem dX8_affected_6 : decode cX8_affected 6 = .ok (.getfield 127, 3) := by decide +kernel
theorem dX8_affected_9 : decode cX8_affected 9 = .ok (.if_icmp .ge 28, 3) := by decide +kernel
theorem dX8_affected_12 : decode cX8_affected 12 = .ok (.iload_n 2, 1) := by decide +kernel
theorem dX8_affected_13 : decode cX8_affected 13 = .ok (.aload_n 0, 1) := by decide +kernel
theorem dX8_affected_14 : decode cX8_affected 14 = .ok (.iload_n 3, 1) := by decide +kernel
theorem dX8_affected_15 : decode cX8_affected 15 = .ok (.iload_n 1, 1) := by decide +kernel
theorem dX8_affected_16 : decode cX8_affected 16 = .ok (.invokevirtual 130, 3) := by decide +kernel
theorem dX8_affected_19 : decode cX8_affected 19 = .ok (.ifCond .eq 9, 3) := by decide +kernel
theorem dX8_affected_22 : decode cX8_affected 22 = .ok (.iconst 1, 1) := by decide +kernel
theorem dX8_affected_23 : decode cX8_affected 23 = .ok (.iload_n 3, 1) := by decide +kernel
theorem dX8_affected_24 : decode cX8_affected 24 = .ok (.ishl, 1) := by decide +kernel
theorem dX8_affected_25 : decode cX8_affected 25 = .ok (.goto 4, 3) := by decide +kernel
theorem dX8_affected_28 : decode cX8_affected 28 = .ok (.iconst 0, 1) := by decide +kernel
theorem dX8_affected_29 : decode cX8_affected 29 = .ok (.ior, 1) := by decide +kernel
theorem dX8_affected_30 : decode cX8_affected 30 = .ok (.istore_n 2, 1) := by decide +kernel
theorem dX8_affected_31 : decode cX8_affected 31 = .ok (.iinc 3 1, 3) := by decide +kernel
theorem dX8_affected_34 : decode cX8_affected 34 = .ok (.goto (-30), 3) := by decide +kernel
theorem dX8_affected_37 : decode cX8_affected 37 = .ok (.aload_n 0, 1) := by decide +kernel
theorem dX8_affected_38 : decode cX8_affected 38 = .ok (.iload_n 2, 1) := by decide +kernel
theorem dX8_affected_39 : decode cX8_affected 39 = .ok (.invokevirtual 147, 3) := by decide +kernel
theorem dX8_affected_42 : decode cX8_affected 42 = .ok (.ireturn, 1) := by decide +kernel
theorem dX8_affectedBy_0 : decode cX8_affectedBy 0 = .ok (.aload_n 0, 1) := by decide +kernel
theorem dX8_affectedBy_1 : decode cX8_affectedBy 1 = .ok (.iload_n 1, 1) := by decide +kernel
theorem dX8_affectedBy_2 : decode cX8_affectedBy 2 = .ok (.iconst 0, 1) := by decide +kernel
theorem dX8_affectedBy_3 : decode cX8_affectedBy 3 = .ok (.aload_n 0, 1) := by decide +kernel
theorem dX8_affectedBy_4 : decode cX8_affectedBy 4 = .ok (.getfield 108, 3) := by decide +kernel
theorem dX8_affectedBy_7 : decode cX8_affectedBy 7 = .ok (.iconst 1, 1) := by decide +kernel
theorem dX8_affectedBy_8 : decode cX8_affectedBy 8 = .ok (.isub, 1) := by decide +kernel
theorem dX8_affectedBy_9 : decode cX8_affectedBy 9 = .ok (.invokestatic 111, 3) := by decide +kernel
theorem dX8_affectedBy_12 : decode cX8_affectedBy 12 = .ok (.ifCond .eq 7, 3) := by decide +kernel
theorem dX8_affectedBy_15 : decode cX8_affectedBy 15 = .ok (.iconst 0, 1) := by decide +kernel
theorem dX8_affectedBy_16 : decode cX8_affectedBy 16 = .ok (.goto 4, 3) := by decide +kernel
theorem dX8_affectedBy_19 : decode cX8_affectedBy 19 = .ok (.iconst 1, 1) := by decide +kernel
theorem dX8_affectedBy_20 : decode cX8_affectedBy 20 = .ok (.putfield 77, 3) := by decide +kernel
theorem dX8_affectedBy_23 : decode cX8_affectedBy 23 = .ok (.aload_n 0, 1) := by decide +kernel
theorem dX8_affectedBy_24 : decode cX8_affectedBy 24 = .ok (.getfield 77, 3) := by decide +kernel
theorem dX8_affectedBy_27 : decode cX8_affectedBy 27 = .ok (.ifCond .le 7, 3) := by decide +kernel
theorem dX8_affectedBy_30 : decode cX8_affectedBy 30 = .ok (.iconst 0, 1) := by decide +kernel
theorem dX8_affectedBy_31 : decode cX8_affectedBy 31 = .ok (.goto 8, 3) := by decide +kernel
theorem dX8_affectedBy_34 : decode cX8_affectedBy 34 = .ok (.aload_n 0, 1) := by decide +kernel
theorem dX8_affectedBy_35 : decode cX8_affectedBy 35 = .ok (.iload_n 1, 1) := by decide +kernel
theorem dX8_affectedBy_36 : decode cX8_affectedBy 36 = .ok (.invokevirtual 156, 3) := by decide +kernel
theorem dX8_affectedBy_39 : decode cX8_affectedBy 39 = .ok (.ireturn, 1) := by decide +kernel
theorem dX8_affectedByGoingDown_0 : decode cX8_affectedByGoingDown 0 = .ok (.aload_n 0, 1) := by decide +kernel
theorem dX8_affectedByGoingDown_1 : decode cX8_affectedByGoingDown 1 = .ok (.iload_n 1, 1) := by decide +kernel
theorem dX8_affectedByGoingDown_2 : decode cX8_affectedByGoingDown 2 = .ok (.iconst 0, 1) := by decide +kernel
theorem dX8_affectedByGoingDown_3 : decode cX8_affectedByGoingDown 3 = .ok (.aload_n 0, 1) := by decide +kernel
theorem dX8_affectedByGoingDown_4 : decode cX8_affectedByGoingDown 4 = .ok (.getfield 108, 3) := by decide +kernel
theorem dX8_affectedByGoingDown_7 : decode cX8_affectedByGoingDown 7 = .ok (.iconst 1, 1) := by decide +kernel
theorem dX8_affectedByGoingDown_8 : decode cX8_affectedByGoingDown 8 = .ok (.isub, 1) := by decide +kernel
theorem dX8_affectedByGoingDown_9 : decode cX8_affectedByGoingDown 9 = .ok (.invokestatic 111, 3) := by decide +kernel
theorem dX8_affectedByGoingDown_12 : decode cX8_affectedByGoingDown 12 = .ok (.ifCond .eq 7, 3) := by decide +kernel
theorem dX8_affectedByGoingDown_15 : decode cX8_affectedByGoingDown 15 = .ok (.iconst 0, 1) := by decide +kernel
theorem dX8_affectedByGoingDown_16 : decode cX8_affectedByGoingDown 16 = .ok (.goto 4, 3) := by decide +kernel
theorem dX8_affectedByGoingDown_19 : decode cX8_affectedByGoingDown 19 = .ok (.iconst 1, 1) := by decide +kernel
theorem dX8_affectedByGoingDown_20 : decode cX8_affectedByGoingDown 20 = .ok (.putfield 77, 3) := by decide +kernel
theorem dX8_affectedByGoingDown_23 : decode cX8_affectedByGoingDown 23 = .ok (.aload_n 0, 1) := by decide +kernel
theorem dX8_affectedByGoingDown_24 : decode cX8_affectedByGoingDown 24 = .ok (.getfield 77, 3) := by decide +kernel
theorem dX8_affectedByGoingDown_27 : decode cX8_affectedByGoingDown 27 = .ok (.ifCond .le 7, 3) := by decide +kernel
theorem dX8_affectedByGoingDown_30 : decode cX8_affectedByGoingDown 30 = .ok (.iconst 0, 1) := by decide +kernel
theorem dX8_affectedByGoingDown_31 : decode cX8_affectedByGoingDown 31 = .ok (.goto 8, 3) := by decide +kernel
theorem dX8_affectedByGoingDown_34 : decode cX8_affectedByGoingDown 34 = .ok (.aload_n 0, 1) := by decide +kernel
theorem dX8_affectedByGoingDown_35 : decode cX8_affectedByGoingDown 35 = .ok (.iload_n 1, 1) := by decide +kernel
theorem dX8_affectedByGoingDown_36 : decode cX8_affectedByGoingDown 36 = .ok (.invokevirtual 156, 3) := by decide +kernel
theorem dX8_affectedByGoingDown_39 : decode cX8_affectedByGoingDown 39 = .ok (.ireturn, 1) := by decide +kernel
theorem dX8_hasInputs_0 : decode cX8_hasInputs 0 = .ok (.aload_n 0, 1) := by decide +kernel
theorem dX8_hasInputs_1 : decode cX8_hasInputs 1 = .ok (.getfield 53, 3) := by decide +kernel
theorem dX8_hasInputs_4 : decode cX8_hasInputs 4 = .ok (.iload_n 1, 1) := by decide +kernel
theorem dX8_hasInputs_5 : decode cX8_hasInputs 5 = .ok (.iaload, 1) := by decide +kernel
theorem dX8_hasInputs_6 : decode cX8_hasInputs 6 = .ok (.iload_n 2, 1) := by decide +kernel
theorem dX8_hasInputs_7 : decode cX8_hasInputs 7 = .ok (.if_icmp .ne 7, 3) := by decide +kernel
theorem dX8_hasInputs_10 : decode cX8_hasInputs 10 = .ok (.iconst 1, 1) := by decide +kernel
theorem dX8_hasInputs_11 : decode cX8_hasInputs 11 = .ok (.goto 4, 3) := by decide +kernel
theorem dX8_hasInputs_14 : decode cX8_hasInputs 14 = .ok (.iconst 0, 1) := by decide +kernel
theorem dX8_hasInputs_15 : decode cX8_hasInputs 15 = .ok (.istore_n 3, 1) := by decide +kernel
theorem dX8_hasInputs_16 : decode cX8_hasInputs 16 = .ok (.iconst 0, 1) := by decide +kernel
theorem dX8_hasInputs_17 : decode cX8_hasInputs 17 = .ok (.istore 4, 2) := by decide +kernel
theorem dX8_hasInputs_19 : decode cX8_hasInputs 19 = .ok (.iload 4, 2) := by decide +kernel
theorem dX8_hasInputs_21 : decode cX8_hasInputs 21 = .ok (.aload_n 0, 1) := by decide +kernel
theorem dX8_hasInputs_22 : decode cX8_hasInputs 22 = .ok (.getfield 108, 3) := by decide +kernel
theorem dX8_hasInputs_25 : decode cX8_hasInputs 25 = .ok (.if_icmp .ge 48, 3) := by decide +kernel
theorem dX8_hasInputs_28 : decode cX8_hasInputs 28 = .ok (.iload_n 3, 1) := by decide +kernel
theorem dX8_hasInputs_29 : decode cX8_hasInputs 29 = .ok (.iload_n 2, 1) := by decide +kernel
theorem dX8_hasInputs_30 : decode cX8_hasInputs 30 = .ok (.iload 4, 2) := by decide +kernel
theorem dX8_hasInputs_32 : decode cX8_hasInputs 32 = .ok (.ishr, 1) := by decide +kernel
theorem dX8_hasInputs_33 : decode cX8_hasInputs 33 = .ok (.iconst 1, 1) := by decide +kernel
theorem dX8_hasInputs_34 : decode cX8_hasInputs 34 = .ok (.iand, 1) := by decide +kernel
theorem dX8_hasInputs_35 : decode cX8_hasInputs 35 = .ok (.ifCond .eq 25, 3) := by decide +kernel
theorem dX8_hasInputs_38 : decode cX8_hasInputs 38 = .ok (.aload_n 0, 1) := by decide +kernel
theorem dX8_hasInputs_39 : decode cX8_hasInputs 39 = .ok (.getfield 59, 3) := by decide +kernel
theorem dX8_hasInputs_42 : decode cX8_hasInputs 42 = .ok (.bipush 24, 2) := by decide +kernel
theorem dX8_hasInputs_44 : decode cX8_hasInputs 44 = .ok (.iload_n 1, 1) := by decide +kernel
theorem dX8_hasInputs_45 : decode cX8_hasInputs 45 = .ok (.imul, 1) := by decide +kernel
theorem dX8_hasInputs_46 : decode cX8_hasInputs 46 = .ok (.iload 4, 2) := by decide +kernel
theorem dX8_hasInputs_48 : decode cX8_hasInputs 48 = .ok (.iadd, 1) := by decide +kernel
theorem dX8_hasInputs_49 : decode cX8_hasInputs 49 = .ok (.iaload, 1) := by decide +kernel
theorem dX8_hasInputs_50 : decode cX8_hasInputs 50 = .ok (.aload_n 0, 1) := by decide +kernel
theorem dX8_hasInputs_51 : decode cX8_hasInputs 51 = .ok (.getfield 26, 3) := by decide +kernel
theorem dX8_hasInputs_54 : decode cX8_hasInputs 54 = .ok (.iload 4, 2) := by decide +kernel
theorem dX8_hasInputs_56 : decode cX8_hasInputs 56 = .ok (.iaload, 1) := by decide +kernel
theorem dX8_hasInputs_57 : decode cX8_hasInputs 57 = .ok (.if_icmp .ne 7, 3) := by decide +kernel
theorem dX8_hasInputs_60 : decode cX8_hasInputs 60 = .ok (.iconst 1, 1) := by decide +kernel
theorem dX8_hasInputs_61 : decode cX8_hasInputs 61 = .ok (.goto 4, 3) := by decide +kernel
theorem dX8_hasInputs_64 : decode cX8_hasInputs 64 = .ok (.iconst 0, 1) := by decide +kernel
theorem dX8_hasInputs_65 : decode cX8_hasInputs 65 = .ok (.iand, 1) := by decide +kernel
theorem dX8_hasInputs_66 : decode cX8_hasInputs 66 = .ok (.istore_n 3, 1) := by decide +kernel
theorem dX8_hasInputs_67 : decode cX8_hasInputs 67 = .ok (.iinc 4 1, 3) := by decide +kernel
theorem dX8_hasInputs_70 : decode cX8_hasInputs 70 = .ok (.goto (-51), 3) := by decide +kernel
theorem dX8_hasInputs_73 : decode cX8_hasInputs 73 = .ok (.iload_n 3, 1) := by decide +kernel
theorem dX8_hasInputs_74 : decode cX8_hasInputs 74 = .ok (.ireturn, 1) := by decide +kernel
theorem dX8_given_0 : decode cX8_given 0 = .ok (.aload_n 0, 1) := by decide +kernel
theorem dX8_given_1 : decode cX8_given 1 = .ok (.iload_n 1, 1) := by decide +kernel
theorem dX8_given_2 : decode cX8_given 2 = .ok (.invokevirtual 140, 3) := by decide +kernel
theorem dX8_given_5 : decode cX8_given 5 = .ok (.istore_n 2, 1) := by decide +kernel
theorem dX8_given_6 : decode cX8_given 6 = .ok (.iconst 0, 1) := by decide +kernel
theorem dX8_given_7 : decode cX8_given 7 = .ok (.istore_n 3, 1) := by decide +kernel
theorem dX8_given_8 : decode cX8_given 8 = .ok (.iconst 0, 1) := by decide +kernel
theorem dX8_given_9 : decode cX8_given 9 = .ok (.istore 4, 2) := by decide +kernel
theorem dX8_given_11 : decode cX8_given 11 = .ok (.iload 4, 2) := by decide +kernel
theorem dX8_given_13 : decode cX8_given 13 = .ok (.aload_n 0, 1) := by decide +kernel
theorem dX8_given_14 : decode cX8_given 14 = .ok (.getfield 159, 3) := by decide +kernel
theorem dX8_given_17 : decode cX8_given 17 = .ok (.if_icmp .ge 132, 3) := by decide +kernel
theorem dX8_given_20 : decode cX8_given 20 = .ok (.aload_n 0, 1) := by decide +kernel
theorem dX8_given_21 : decode cX8_given 21 = .ok (.getfield 50, 3) := by decide +kernel
theorem dX8_given_24 : decode cX8_given 24 = .ok (.iload 4, 2) := by decide +kernel
theorem dX8_given_26 : decode cX8_given 26 = .ok (.iaload, 1) := by decide +kernel
theorem dX8_given_27 : decode cX8_given 27 = .ok (.iload_n 1, 1) := by decide +kernel
theorem dX8_given_28 : decode cX8_given 28 = .ok (.if_icmp .ne 33, 3) := by decide +kernel
theorem dX8_given_31 : decode cX8_given 31 = .ok (.aload_n 0, 1) := by decide +kernel
theorem dX8_given_32 : decode cX8_given 32 = .ok (.getfield 56, 3) := by decide +kernel
theorem dX8_given_35 : decode cX8_given 35 = .ok (.iload 4, 2) := by decide +kernel
theorem dX8_given_37 : decode cX8_given 37 = .ok (.iaload, 1) := by decide +kernel
theorem dX8_given_38 : decode cX8_given 38 = .ok (.aload_n 0, 1) := by decide +kernel
theorem dX8_given_39 : decode cX8_given 39 = .ok (.getfield 41, 3) := by decide +kernel
theorem dX8_given_42 : decode cX8_given 42 = .ok (.iload_n 1, 1) := by decide +kernel
theorem dX8_given_43 : decode cX8_given 43 = .ok (.iaload, 1) := by decide +kernel
theorem dX8_given_44 : decode cX8_given 44 = .ok (.if_icmp .ne 17, 3) := by decide +kernel
theorem dX8_given_47 : decode cX8_given 47 = .ok (.aload_n 0, 1) := by decide +kernel
theorem dX8_given_48 : decode cX8_given 48 = .ok (.iload 4, 2) := by decide +kernel
theorem dX8_given_50 : decode cX8_given 50 = .ok (.iload_n 2, 1) := by decide +kernel
theorem dX8_given_51 : decode cX8_given 51 = .ok (.invokevirtual 162, 3) := by decide +kernel
theorem dX8_given_54 : decode cX8_given 54 = .ok (.ifCond .eq 7, 3) := by decide +kernel
theorem dX8_given_57 : decode cX8_given 57 = .ok (.iconst 1, 1) := by decide +kernel
theorem dX8_given_58 : decode cX8_given 58 = .ok (.goto 4, 3) := by decide +kernel
theorem dX8_given_61 : decode cX8_given 61 = .ok (.iconst 0, 1) := by decide +kernel
theorem dX8_given_62 : decode cX8_given 62 = .ok (.istore 5, 2) := by decide +kernel
theorem dX8_given_64 : decode cX8_given 64 = .ok (.iconst 0, 1) := by decide +kernel
theorem dX8_given_65 : decode cX8_given 65 = .ok (.istore 6, 2) := by decide +kernel
theorem dX8_given_67 : decode cX8_given 67 = .ok (.iload 6, 2) := by decide +kernel
theorem dX8_given_69 : decode cX8_given 69 = .ok (.aload_n 0, 1) := by decide +kernel
theorem dX8_given_70 : decode cX8_given 70 = .ok (.getfield 127, 3) := by decide +kernel
theorem dX8_given_73 : decode cX8_given 73 = .ok (.if_icmp .ge 56, 3) := by decide +kernel
theorem dX8_given_76 : decode cX8_given 76 = .ok (.iload 5, 2) := by decide +kernel
theorem dX8_given_78 : decode cX8_given 78 = .ok (.aload_n 0, 1) := by decide +kernel
theorem dX8_given_79 : decode cX8_given 79 = .ok (.getfield 41, 3) := by decide +kernel
theorem dX8_given_82 : decode cX8_given 82 = .ok (.iload_n 1, 1) := by decide +kernel
theorem dX8_given_83 : decode cX8_given 83 = .ok (.iaload, 1) := by decide +kernel
theorem dX8_given_84 : decode cX8_given 84 = .ok (.iload 6, 2) := by decide +kernel
theorem dX8_given_86 : decode cX8_given 86 = .ok (.ishr, 1) := by decide +kernel
theorem dX8_given_87 : decode cX8_given 87 = .ok (.iconst 1, 1) := by decide +kernel
theorem dX8_given_88 : decode cX8_given 88 = .ok (.iand, 1) := by decide +kernel
theorem dX8_given_89 : decode cX8_given 89 = .ok (.ifCond .eq 26, 3) := by decide +kernel
theorem dX8_given_92 : decode cX8_given 92 = .ok (.aload_n 0, 1) := by decide +kernel
theorem dX8_given_93 : decode cX8_given 93 = .ok (.getfield 62, 3) := by decide +kernel
theorem dX8_given_96 : decode cX8_given 96 = .ok (.bipush 16, 2) := by decide +kernel
theorem dX8_given_98 : decode cX8_given 98 = .ok (.iload 4, 2) := by decide +kernel
theorem dX8_given_100 : decode cX8_given 100 = .ok (.imul, 1) := by decide +kernel
theorem dX8_given_101 : decode cX8_given 101 = .ok (.iload 6, 2) := by decide +kernel
theorem dX8_given_103 : decode cX8_given 103 = .ok (.iadd, 1) := by decide +kernel
theorem dX8_given_104 : decode cX8_given 104 = .ok (.iaload, 1) := by decide +kernel
theorem dX8_given_105 : decode cX8_given 105 = .ok (.aload_n 0, 1) := by decide +kernel
theorem dX8_given_106 : decode cX8_given 106 = .ok (.getfield 68, 3) := by decide +kernel
theorem dX8_given_109 : decode cX8_given 109 = .ok (.iload 6, 2) := by decide +kernel
theorem dX8_given_111 : decode cX8_given 111 = .ok (.iaload, 1) := by decide +kernel
theorem dX8_given_112 : decode cX8_given 112 = .ok (.if_icmp .ne 7, 3) := by decide +kernel
theorem dX8_given_115 : decode cX8_given 115 = .ok (.iconst 1, 1) := by decide +kernel
theorem dX8_given_116 : decode cX8_given 116 = .ok (.goto 4, 3) := by decide +kernel
theorem dX8_given_119 : decode cX8_given 119 = .ok (.iconst 0, 1) := by decide +kernel
theorem dX8_given_120 : decode cX8_given 120 = .ok (.iand, 1) := by decide +kernel
theorem dX8_given_121 : decode cX8_given 121 = .ok (.istore 5, 2) := by decide +kernel
theorem dX8_given_123 : decode cX8_given 123 = .ok (.iinc 6 1, 3) := by decide +kernel
theorem dX8_given_126 : decode cX8_given 126 = .ok (.goto (-59), 3) := by decide +kernel
theorem dX8_given_129 : decode cX8_given 129 = .ok (.iload 5, 2) := by decide +kernel
theorem dX8_given_131 : decode cX8_given 131 = .ok (.ifCond .eq 10, 3) := by decide +kernel
theorem dX8_given_134 : decode cX8_given 134 = .ok (.iload 4, 2) := by decide +kernel
theorem dX8_given_136 : decode cX8_given 136 = .ok (.iconst 1, 1) := by decide +kernel
theorem dX8_given_137 : decode cX8_given 137 = .ok (.iadd, 1) := by decide +kernel
theorem dX8_given_138 : decode cX8_given 138 = .ok (.goto 4, 3) := by decide +kernel
theorem dX8_given_141 : decode cX8_given 141 = .ok (.iload_n 3, 1) := by decide +kernel
theorem dX8_given_142 : decode cX8_given 142 = .ok (.istore_n 3, 1) := by decide +kernel
theorem dX8_given_143 : decode cX8_given 143 = .ok (.iinc 4 1, 3) := by decide +kernel
theorem dX8_given_146 : decode cX8_given 146 = .ok (.goto (-135), 3) := by decide +kernel
theorem dX8_given_149 : decode cX8_given 149 = .ok (.iload_n 3, 1) := by decide +kernel
theorem dX8_given_150 : decode cX8_given 150 = .ok (.ireturn, 1) := by decide +kernel
theorem dX8_laysKeys_0 : decode cX8_laysKeys 0 = .ok (.aload_n 0, 1) := by decide +kernel
theorem dX8_laysKeys_1 : decode cX8_laysKeys 1 = .ok (.invokevirtual 153, 3) := by decide +kernel
theorem dX8_laysKeys_4 : decode cX8_laysKeys 4 = .ok (.iconst 0, 1) := by decide +kernel
theorem dX8_laysKeys_5 : decode cX8_laysKeys 5 = .ok (.istore_n 1, 1) := by decide +kernel
theorem dX8_laysKeys_6 : decode cX8_laysKeys 6 = .ok (.iload_n 1, 1) := by decide +kernel
theorem dX8_laysKeys_7 : decode cX8_laysKeys 7 = .ok (.aload_n 0, 1) := by decide +kernel
theorem dX8_laysKeys_8 : decode cX8_laysKeys 8 = .ok (.getfield 127, 3) := by decide +kernel
theorem dX8_laysKeys_11 : decode cX8_laysKeys 11 = .ok (.if_icmp .ge 87, 3) := by decide +kernel
theorem dX8_laysKeys_14 : decode cX8_laysKeys 14 = .ok (.aload_n 0, 1) := by decide +kernel
theorem dX8_laysKeys_15 : decode cX8_laysKeys 15 = .ok (.getfield 65, 3) := by decide +kernel
theorem dX8_laysKeys_18 : decode cX8_laysKeys 18 = .ok (.iload_n 1, 1) := by decide +kernel
theorem dX8_laysKeys_19 : decode cX8_laysKeys 19 = .ok (.iaload, 1) := by decide +kernel
theorem dX8_laysKeys_20 : decode cX8_laysKeys 20 = .ok (.istore_n 2, 1) := by decide +kernel
theorem dX8_laysKeys_21 : decode cX8_laysKeys 21 = .ok (.iconst 1, 1) := by decide +kernel
theorem dX8_laysKeys_22 : decode cX8_laysKeys 22 = .ok (.istore_n 3, 1) := by decide +kernel
theorem dX8_laysKeys_23 : decode cX8_laysKeys 23 = .ok (.iconst 0, 1) := by decide +kernel
theorem dX8_laysKeys_24 : decode cX8_laysKeys 24 = .ok (.istore 4, 2) := by decide +kernel
theorem dX8_laysKeys_26 : decode cX8_laysKeys 26 = .ok (.iload 4, 2) := by decide +kernel
theorem dX8_laysKeys_28 : decode cX8_laysKeys 28 = .ok (.aload_n 0, 1) := by decide +kernel
theorem dX8_laysKeys_29 : decode cX8_laysKeys 29 = .ok (.getfield 127, 3) := by decide +kernel
theorem dX8_laysKeys_32 : decode cX8_laysKeys 32 = .ok (.if_icmp .ge 41, 3) := by decide +kernel
theorem dX8_laysKeys_35 : decode cX8_laysKeys 35 = .ok (.iload_n 3, 1) := by decide +kernel
theorem dX8_laysKeys_36 : decode cX8_laysKeys 36 = .ok (.aload_n 0, 1) := by decide +kernel
theorem dX8_laysKeys_37 : decode cX8_laysKeys 37 = .ok (.getfield 41, 3) := by decide +kernel
theorem dX8_laysKeys_40 : decode cX8_laysKeys 40 = .ok (.iload_n 2, 1) := by decide +kernel
theorem dX8_laysKeys_41 : decode cX8_laysKeys 41 = .ok (.iaload, 1) := by decide +kernel
theorem dX8_laysKeys_42 : decode cX8_laysKeys 42 = .ok (.iload 4, 2) := by decide +kernel
theorem dX8_laysKeys_44 : decode cX8_laysKeys 44 = .ok (.ishr, 1) := by decide +kernel
theorem dX8_laysKeys_45 : decode cX8_laysKeys 45 = .ok (.iconst 1, 1) := by decide +kernel
theorem dX8_laysKeys_46 : decode cX8_laysKeys 46 = .ok (.iand, 1) := by decide +kernel
theorem dX8_laysKeys_47 : decode cX8_laysKeys 47 = .ok (.ifCond .eq 13, 3) := by decide +kernel
theorem dX8_laysKeys_50 : decode cX8_laysKeys 50 = .ok (.aload_n 0, 1) := by decide +kernel
theorem dX8_laysKeys_51 : decode cX8_laysKeys 51 = .ok (.getfield 68, 3) := by decide +kernel
theorem dX8_laysKeys_54 : decode cX8_laysKeys 54 = .ok (.iload 4, 2) := by decide +kernel
theorem dX8_laysKeys_56 : decode cX8_laysKeys 56 = .ok (.iaload, 1) := by decide +kernel
theorem dX8_laysKeys_57 : decode cX8_laysKeys 57 = .ok (.ifCond .le 7, 3) := by decide +kernel
theorem dX8_laysKeys_60 : decode cX8_laysKeys 60 = .ok (.iconst 1, 1) := by decide +kernel
theorem dX8_laysKeys_61 : decode cX8_laysKeys 61 = .ok (.goto 4, 3) := by decide +kernel
theorem dX8_laysKeys_64 : decode cX8_laysKeys 64 = .ok (.iconst 0, 1) := by decide +kernel
theorem dX8_laysKeys_65 : decode cX8_laysKeys 65 = .ok (.iand, 1) := by decide +kernel
theorem dX8_laysKeys_66 : decode cX8_laysKeys 66 = .ok (.istore_n 3, 1) := by decide +kernel
theorem dX8_laysKeys_67 : decode cX8_laysKeys 67 = .ok (.iinc 4 1, 3) := by decide +kernel
theorem dX8_laysKeys_70 : decode cX8_laysKeys 70 = .ok (.goto (-44), 3) := by decide +kernel
theorem dX8_laysKeys_73 : decode cX8_laysKeys 73 = .ok (.aload_n 0, 1) := by decide +kernel
theorem dX8_laysKeys_74 : decode cX8_laysKeys 74 = .ok (.getfield 68, 3) := by decide +kernel
theorem dX8_laysKeys_77 : decode cX8_laysKeys 77 = .ok (.iload_n 2, 1) := by decide +kernel
theorem dX8_laysKeys_78 : decode cX8_laysKeys 78 = .ok (.iload_n 3, 1) := by decide +kernel
theorem dX8_laysKeys_79 : decode cX8_laysKeys 79 = .ok (.ifCond .eq 11, 3) := by decide +kernel
theorem dX8_laysKeys_82 : decode cX8_laysKeys 82 = .ok (.aload_n 0, 1) := by decide +kernel
theorem dX8_laysKeys_83 : decode cX8_laysKeys 83 = .ok (.iload_n 2, 1) := by decide +kernel
theorem dX8_laysKeys_84 : decode cX8_laysKeys 84 = .ok (.invokevirtual 165, 3) := by decide +kernel
theorem dX8_laysKeys_87 : decode cX8_laysKeys 87 = .ok (.goto 4, 3) := by decide +kernel
theorem dX8_laysKeys_90 : decode cX8_laysKeys 90 = .ok (.iconst 0, 1) := by decide +kernel
theorem dX8_laysKeys_91 : decode cX8_laysKeys 91 = .ok (.iastore, 1) := by decide +kernel
theorem dX8_laysKeys_92 : decode cX8_laysKeys 92 = .ok (.iinc 1 1, 3) := by decide +kernel
theorem dX8_laysKeys_95 : decode cX8_laysKeys 95 = .ok (.goto (-89), 3) := by decide +kernel
theorem dX8_laysKeys_98 : decode cX8_laysKeys 98 = .ok (.return_, 1) := by decide +kernel
theorem dX8_keyOf_0 : decode cX8_keyOf 0 = .ok (.aload_n 0, 1) := by decide +kernel
theorem dX8_keyOf_1 : decode cX8_keyOf 1 = .ok (.aload_n 0, 1) := by decide +kernel
theorem dX8_keyOf_2 : decode cX8_keyOf 2 = .ok (.iload_n 1, 1) := by decide +kernel
theorem dX8_keyOf_3 : decode cX8_keyOf 3 = .ok (.invokevirtual 133, 3) := by decide +kernel
theorem dX8_keyOf_6 : decode cX8_keyOf 6 = .ok (.ifCond .eq 7, 3) := by decide +kernel
theorem dX8_keyOf_9 : decode cX8_keyOf 9 = .ok (.iconst 0, 1) := by decide +kernel
theorem dX8_keyOf_10 : decode cX8_keyOf 10 = .ok (.goto 4, 3) := by decide +kernel
theorem dX8_keyOf_13 : decode cX8_keyOf 13 = .ok (.iconst 1, 1) := by decide +kernel
theorem dX8_keyOf_14 : decode cX8_keyOf 14 = .ok (.putfield 77, 3) := by decide +kernel
theorem dX8_keyOf_17 : decode cX8_keyOf 17 = .ok (.aload_n 0, 1) := by decide +kernel
theorem dX8_keyOf_18 : decode cX8_keyOf 18 = .ok (.getfield 77, 3) := by decide +kernel
theorem dX8_keyOf_21 : decode cX8_keyOf 21 = .ok (.ifCond .le 5, 3) := by decide +kernel
theorem dX8_keyOf_24 : decode cX8_keyOf 24 = .ok (.iconst 0, 1) := by decide +kernel
theorem dX8_keyOf_25 : decode cX8_keyOf 25 = .ok (.ireturn, 1) := by decide +kernel
theorem dX8_keyOf_26 : decode cX8_keyOf 26 = .ok (.aload_n 0, 1) := by decide +kernel
theorem dX8_keyOf_27 : decode cX8_keyOf 27 = .ok (.invokevirtual 168, 3) := by decide +kernel
theorem dX8_keyOf_30 : decode cX8_keyOf 30 = .ok (.aload_n 0, 1) := by decide +kernel
theorem dX8_keyOf_31 : decode cX8_keyOf 31 = .ok (.getfield 68, 3) := by decide +kernel
theorem dX8_keyOf_34 : decode cX8_keyOf 34 = .ok (.iload_n 1, 1) := by decide +kernel
theorem dX8_keyOf_35 : decode cX8_keyOf 35 = .ok (.iaload, 1) := by decide +kernel
theorem dX8_keyOf_36 : decode cX8_keyOf 36 = .ok (.ireturn, 1) := by decide +kernel
theorem dX8_neededNow_0 : decode cX8_neededNow 0 = .ok (.aload_n 0, 1) := by decide +kernel
theorem dX8_neededNow_1 : decode cX8_neededNow 1 = .ok (.invokevirtual 168, 3) := by decide +kernel
theorem dX8_neededNow_4 : decode cX8_neededNow 4 = .ok (.iconst 0, 1) := by decide +kernel
theorem dX8_neededNow_5 : decode cX8_neededNow 5 = .ok (.istore_n 1, 1) := by decide +kernel
theorem dX8_neededNow_6 : decode cX8_neededNow 6 = .ok (.iconst 0, 1) := by decide +kernel
theorem dX8_neededNow_7 : decode cX8_neededNow 7 = .ok (.istore_n 2, 1) := by decide +kernel
theorem dX8_neededNow_8 : decode cX8_neededNow 8 = .ok (.iload_n 2, 1) := by decide +kernel
theorem dX8_neededNow_9 : decode cX8_neededNow 9 = .ok (.aload_n 0, 1) := by decide +kernel
theorem dX8_neededNow_10 : decode cX8_neededNow 10 = .ok (.getfield 127, 3) := by decide +kernel
theorem dX8_neededNow_13 : decode cX8_neededNow 13 = .ok (.if_icmp .ge 28, 3) := by decide +kernel
theorem dX8_neededNow_16 : decode cX8_neededNow 16 = .ok (.iload_n 1, 1) := by decide +kernel
theorem dX8_neededNow_17 : decode cX8_neededNow 17 = .ok (.aload_n 0, 1) := by decide +kernel
theorem dX8_neededNow_18 : decode cX8_neededNow 18 = .ok (.getfield 68, 3) := by decide +kernel
theorem dX8_neededNow_21 : decode cX8_neededNow 21 = .ok (.iload_n 2, 1) := by decide +kernel
theorem dX8_neededNow_22 : decode cX8_neededNow 22 = .ok (.iaload, 1) := by decide +kernel
theorem dX8_neededNow_23 : decode cX8_neededNow 23 = .ok (.ifCond .ne 9, 3) := by decide +kernel
theorem dX8_neededNow_26 : decode cX8_neededNow 26 = .ok (.iconst 1, 1) := by decide +kernel
theorem dX8_neededNow_27 : decode cX8_neededNow 27 = .ok (.iload_n 2, 1) := by decide +kernel
theorem dX8_neededNow_28 : decode cX8_neededNow 28 = .ok (.ishl, 1) := by decide +kernel
theorem dX8_neededNow_29 : decode cX8_neededNow 29 = .ok (.goto 4, 3) := by decide +kernel
theorem dX8_neededNow_32 : decode cX8_neededNow 32 = .ok (.iconst 0, 1) := by decide +kernel
theorem dX8_neededNow_33 : decode cX8_neededNow 33 = .ok (.ior, 1) := by decide +kernel
theorem dX8_neededNow_34 : decode cX8_neededNow 34 = .ok (.istore_n 1, 1) := by decide +kernel
theorem dX8_neededNow_35 : decode cX8_neededNow 35 = .ok (.iinc 2 1, 3) := by decide +kernel
theorem dX8_neededNow_38 : decode cX8_neededNow 38 = .ok (.goto (-30), 3) := by decide +kernel
theorem dX8_neededNow_41 : decode cX8_neededNow 41 = .ok (.iload_n 1, 1) := by decide +kernel
theorem dX8_neededNow_42 : decode cX8_neededNow 42 = .ok (.ireturn, 1) := by decide +kernel
theorem dX8_needed_0 : decode cX8_needed 0 = .ok (.aload_n 0, 1) := by decide +kernel
theorem dX8_needed_1 : decode cX8_needed 1 = .ok (.iconst 0, 1) := by decide +kernel
theorem dX8_needed_2 : decode cX8_needed 2 = .ok (.putfield 77, 3) := by decide +kernel
theorem dX8_needed_5 : decode cX8_needed 5 = .ok (.aload_n 0, 1) := by decide +kernel
theorem dX8_needed_6 : decode cX8_needed 6 = .ok (.invokevirtual 171, 3) := by decide +kernel
theorem dX8_needed_9 : decode cX8_needed 9 = .ok (.ireturn, 1) := by decide +kernel
theorem dX8_whyRun_0 : decode cX8_whyRun 0 = .ok (.aload_n 0, 1) := by decide +kernel
theorem dX8_whyRun_1 : decode cX8_whyRun 1 = .ok (.aload_n 0, 1) := by decide +kernel
theorem dX8_whyRun_2 : decode cX8_whyRun 2 = .ok (.iload_n 1, 1) := by decide +kernel
theorem dX8_whyRun_3 : decode cX8_whyRun 3 = .ok (.invokevirtual 133, 3) := by decide +kernel
theorem dX8_whyRun_6 : decode cX8_whyRun 6 = .ok (.ifCond .eq 7, 3) := by decide +kernel
theorem dX8_whyRun_9 : decode cX8_whyRun 9 = .ok (.iconst 0, 1) := by decide +kernel
theorem dX8_whyRun_10 : decode cX8_whyRun 10 = .ok (.goto 4, 3) := by decide +kernel
theorem dX8_whyRun_13 : decode cX8_whyRun 13 = .ok (.iconst 1, 1) := by decide +kernel
theorem dX8_whyRun_14 : decode cX8_whyRun 14 = .ok (.putfield 77, 3) := by decide +kernel
theorem dX8_whyRun_17 : decode cX8_whyRun 17 = .ok (.aload_n 0, 1) := by decide +kernel
theorem dX8_whyRun_18 : decode cX8_whyRun 18 = .ok (.getfield 77, 3) := by decide +kernel
theorem dX8_whyRun_21 : decode cX8_whyRun 21 = .ok (.ifCond .le 5, 3) := by decide +kernel
theorem dX8_whyRun_24 : decode cX8_whyRun 24 = .ok (.iconst 0, 1) := by decide +kernel
theorem dX8_whyRun_25 : decode cX8_whyRun 25 = .ok (.ireturn, 1) := by decide +kernel
theorem dX8_whyRun_26 : decode cX8_whyRun 26 = .ok (.aload_n 0, 1) := by decide +kernel
theorem dX8_whyRun_27 : decode cX8_whyRun 27 = .ok (.invokevirtual 168, 3) := by decide +kernel
theorem dX8_whyRun_30 : decode cX8_whyRun 30 = .ok (.aload_n 0, 1) := by decide +kernel
theorem dX8_whyRun_31 : decode cX8_whyRun 31 = .ok (.getfield 68, 3) := by decide +kernel
theorem dX8_whyRun_34 : decode cX8_whyRun 34 = .ok (.iload_n 1, 1) := by decide +kernel
theorem dX8_whyRun_35 : decode cX8_whyRun 35 = .ok (.iaload, 1) := by decide +kernel
theorem dX8_whyRun_36 : decode cX8_whyRun 36 = .ok (.ifCond .le 5, 3) := by decide +kernel
theorem dX8_whyRun_39 : decode cX8_whyRun 39 = .ok (.iconst 0, 1) := by decide +kernel
theorem dX8_whyRun_40 : decode cX8_whyRun 40 = .ok (.ireturn, 1) := by decide +kernel
theorem dX8_whyRun_41 : decode cX8_whyRun 41 = .ok (.aload_n 0, 1) := by decide +kernel
theorem dX8_whyRun_42 : decode cX8_whyRun 42 = .ok (.getfield 44, 3) := by decide +kernel
theorem dX8_whyRun_45 : decode cX8_whyRun 45 = .ok (.iload_n 1, 1) := by decide +kernel
theorem dX8_whyRun_46 : decode cX8_whyRun 46 = .ok (.iaload, 1) := by decide +kernel
theorem dX8_whyRun_47 : decode cX8_whyRun 47 = .ok (.ifCond .ne 7, 3) := by decide +kernel
theorem dX8_whyRun_50 : decode cX8_whyRun 50 = .ok (.iconst 1, 1) := by decide +kernel
theorem dX8_whyRun_51 : decode cX8_whyRun 51 = .ok (.goto 28, 3) := by decide +kernel
theorem dX8_whyRun_54 : decode cX8_whyRun 54 = .ok (.aload_n 0, 1) := by decide +kernel
theorem dX8_whyRun_55 : decode cX8_whyRun 55 = .ok (.aload_n 0, 1) := by decide +kernel
theorem dX8_whyRun_56 : decode cX8_whyRun 56 = .ok (.getfield 44, 3) := by decide +kernel
theorem dX8_whyRun_59 : decode cX8_whyRun 59 = .ok (.iload_n 1, 1) := by decide +kernel
theorem dX8_whyRun_60 : decode cX8_whyRun 60 = .ok (.iaload, 1) := by decide +kernel
theorem dX8_whyRun_61 : decode cX8_whyRun 61 = .ok (.iconst 1, 1) := by decide +kernel
theorem dX8_whyRun_62 : decode cX8_whyRun 62 = .ok (.isub, 1) := by decide +kernel
theorem dX8_whyRun_63 : decode cX8_whyRun 63 = .ok (.aload_n 0, 1) := by decide +kernel
theorem dX8_whyRun_64 : decode cX8_whyRun 64 = .ok (.iload_n 1, 1) := by decide +kernel
theorem dX8_whyRun_65 : decode cX8_whyRun 65 = .ok (.invokevirtual 140, 3) := by decide +kernel
theorem dX8_whyRun_68 : decode cX8_whyRun 68 = .ok (.invokevirtual 162, 3) := by decide +kernel
theorem dX8_whyRun_71 : decode cX8_whyRun 71 = .ok (.ifCond .eq 7, 3) := by decide +kernel
theorem dX8_whyRun_74 : decode cX8_whyRun 74 = .ok (.iconst 3, 1) := by decide +kernel
theorem dX8_whyRun_75 : decode cX8_whyRun 75 = .ok (.goto 4, 3) := by decide +kernel
theorem dX8_whyRun_78 : decode cX8_whyRun 78 = .ok (.iconst 2, 1) := by decide +kernel
theorem dX8_whyRun_79 : decode cX8_whyRun 79 = .ok (.ireturn, 1) := by decide +kernel
theorem dX8_runs_0 : decode cX8_runs 0 = .ok (.aload_n 0, 1) := by decide +kernel
theorem dX8_runs_1 : decode cX8_runs 1 = .ok (.getfield 68, 3) := by decide +kernel
theorem dX8_runs_4 : decode cX8_runs 4 = .ok (.iload_n 1, 1) := by decide +kernel
theorem dX8_runs_5 : decode cX8_runs 5 = .ok (.iaload, 1) := by decide +kernel
theorem dX8_runs_6 : decode cX8_runs 6 = .ok (.ifCond .ne 134, 3) := by decide +kernel
theorem dX8_runs_9 : decode cX8_runs 9 = .ok (.aload_n 0, 1) := by decide +kernel
theorem dX8_runs_10 : decode cX8_runs 10 = .ok (.getfield 50, 3) := by decide +kernel
theorem dX8_runs_13 : decode cX8_runs 13 = .ok (.aload_n 0, 1) := by decide +kernel
theorem dX8_runs_14 : decode cX8_runs 14 = .ok (.getfield 159, 3) := by decide +kernel
theorem dX8_runs_17 : decode cX8_runs 17 = .ok (.iload_n 1, 1) := by decide +kernel
theorem dX8_runs_18 : decode cX8_runs 18 = .ok (.iastore, 1) := by decide +kernel
theorem dX8_runs_19 : decode cX8_runs 19 = .ok (.aload_n 0, 1) := by decide +kernel
theorem dX8_runs_20 : decode cX8_runs 20 = .ok (.getfield 53, 3) := by decide +kernel
theorem dX8_runs_23 : decode cX8_runs 23 = .ok (.aload_n 0, 1) := by decide +kernel
theorem dX8_runs_24 : decode cX8_runs 24 = .ok (.getfield 159, 3) := by decide +kernel
theorem dX8_runs_27 : decode cX8_runs 27 = .ok (.aload_n 0, 1) := by decide +kernel
theorem dX8_runs_28 : decode cX8_runs 28 = .ok (.iload_n 1, 1) := by decide +kernel
theorem dX8_runs_29 : decode cX8_runs 29 = .ok (.invokevirtual 140, 3) := by decide +kernel
theorem dX8_runs_32 : decode cX8_runs 32 = .ok (.iastore, 1) := by decide +kernel
theorem dX8_runs_33 : decode cX8_runs 33 = .ok (.aload_n 0, 1) := by decide +kernel
theorem dX8_runs_34 : decode cX8_runs 34 = .ok (.getfield 56, 3) := by decide +kernel
theorem dX8_runs_37 : decode cX8_runs 37 = .ok (.aload_n 0, 1) := by decide +kernel
theorem dX8_runs_38 : decode cX8_runs 38 = .ok (.getfield 159, 3) := by decide +kernel
theorem dX8_runs_41 : decode cX8_runs 41 = .ok (.aload_n 0, 1) := by decide +kernel
theorem dX8_runs_42 : decode cX8_runs 42 = .ok (.getfield 41, 3) := by decide +kernel
theorem dX8_runs_45 : decode cX8_runs 45 = .ok (.iload_n 1, 1) := by decide +kernel
theorem dX8_runs_46 : decode cX8_runs 46 = .ok (.iaload, 1) := by decide +kernel
theorem dX8_runs_47 : decode cX8_runs 47 = .ok (.iastore, 1) := by decide +kernel
theorem dX8_runs_48 : decode cX8_runs 48 = .ok (.iconst 0, 1) := by decide +kernel
theorem dX8_runs_49 : decode cX8_runs 49 = .ok (.istore_n 2, 1) := by decide +kernel
theorem dX8_runs_50 : decode cX8_runs 50 = .ok (.iload_n 2, 1) := by decide +kernel
theorem dX8_runs_51 : decode cX8_runs 51 = .ok (.aload_n 0, 1) := by decide +kernel
theorem dX8_runs_52 : decode cX8_runs 52 = .ok (.getfield 108, 3) := by decide +kernel
theorem dX8_runs_55 : decode cX8_runs 55 = .ok (.if_icmp .ge 29, 3) := by decide +kernel
theorem dX8_runs_58 : decode cX8_runs 58 = .ok (.aload_n 0, 1) := by decide +kernel
theorem dX8_runs_59 : decode cX8_runs 59 = .ok (.getfield 59, 3) := by decide +kernel
theorem dX8_runs_62 : decode cX8_runs 62 = .ok (.bipush 24, 2) := by decide +kernel
theorem dX8_runs_64 : decode cX8_runs 64 = .ok (.aload_n 0, 1) := by decide +kernel
theorem dX8_runs_65 : decode cX8_runs 65 = .ok (.getfield 159, 3) := by decide +kernel
theorem dX8_runs_68 : decode cX8_runs 68 = .ok (.imul, 1) := by decide +kernel
theorem dX8_runs_69 : decode cX8_runs 69 = .ok (.iload_n 2, 1) := by decide +kernel
theorem dX8_runs_70 : decode cX8_runs 70 = .ok (.iadd, 1) := by decide +kernel
theorem dX8_runs_71 : decode cX8_runs 71 = .ok (.aload_n 0, 1) := by decide +kernel
theorem dX8_runs_72 : decode cX8_runs 72 = .ok (.getfield 26, 3) := by decide +kernel
theorem dX8_runs_75 : decode cX8_runs 75 = .ok (.iload_n 2, 1) := by decide +kernel
theorem dX8_runs_76 : decode cX8_runs 76 = .ok (.iaload, 1) := by decide +kernel
theorem dX8_runs_77 : decode cX8_runs 77 = .ok (.iastore, 1) := by decide +kernel
theorem dX8_runs_78 : decode cX8_runs 78 = .ok (.iinc 2 1, 3) := by decide +kernel
theorem dX8_runs_81 : decode cX8_runs 81 = .ok (.goto (-31), 3) := by decide +kernel
theorem dX8_runs_84 : decode cX8_runs 84 = .ok (.iconst 0, 1) := by decide +kernel
theorem dX8_runs_85 : decode cX8_runs 85 = .ok (.istore_n 2, 1) := by decide +kernel
theorem dX8_runs_86 : decode cX8_runs 86 = .ok (.iload_n 2, 1) := by decide +kernel
theorem dX8_runs_87 : decode cX8_runs 87 = .ok (.aload_n 0, 1) := by decide +kernel
theorem dX8_runs_88 : decode cX8_runs 88 = .ok (.getfield 127, 3) := by decide +kernel
theorem dX8_runs_91 : decode cX8_runs 91 = .ok (.if_icmp .ge 29, 3) := by decide +kernel
theorem dX8_runs_94 : decode cX8_runs 94 = .ok (.aload_n 0, 1) := by decide +kernel
theorem dX8_runs_95 : decode cX8_runs 95 = .ok (.getfield 62, 3) := by decide +kernel
theorem dX8_runs_98 : decode cX8_runs 98 = .ok (.bipush 16, 2) := by decide +kernel
theorem dX8_runs_100 : decode cX8_runs 100 = .ok (.aload_n 0, 1) := by decide +kernel
theorem dX8_runs_101 : decode cX8_runs 101 = .ok (.getfield 159, 3) := by decide +kernel
theorem dX8_runs_104 : decode cX8_runs 104 = .ok (.imul, 1) := by decide +kernel
theorem dX8_runs_105 : decode cX8_runs 105 = .ok (.iload_n 2, 1) := by decide +kernel
theorem dX8_runs_106 : decode cX8_runs 106 = .ok (.iadd, 1) := by decide +kernel
theorem dX8_runs_107 : decode cX8_runs 107 = .ok (.aload_n 0, 1) := by decide +kernel
theorem dX8_runs_108 : decode cX8_runs 108 = .ok (.getfield 68, 3) := by decide +kernel
theorem dX8_runs_111 : decode cX8_runs 111 = .ok (.iload_n 2, 1) := by decide +kernel
theorem dX8_runs_112 : decode cX8_runs 112 = .ok (.iaload, 1) := by decide +kernel
theorem dX8_runs_113 : decode cX8_runs 113 = .ok (.iastore, 1) := by decide +kernel
theorem dX8_runs_114 : decode cX8_runs 114 = .ok (.iinc 2 1, 3) := by decide +kernel
theorem dX8_runs_117 : decode cX8_runs 117 = .ok (.goto (-31), 3) := by decide +kernel
theorem dX8_runs_120 : decode cX8_runs 120 = .ok (.aload_n 0, 1) := by decide +kernel
theorem dX8_runs_121 : decode cX8_runs 121 = .ok (.dup, 1) := by decide +kernel
theorem dX8_runs_122 : decode cX8_runs 122 = .ok (.getfield 159, 3) := by decide +kernel
theorem dX8_runs_125 : decode cX8_runs 125 = .ok (.iconst 1, 1) := by decide +kernel
theorem dX8_runs_126 : decode cX8_runs 126 = .ok (.iadd, 1) := by decide +kernel
theorem dX8_runs_127 : decode cX8_runs 127 = .ok (.putfield 159, 3) := by decide +kernel
theorem dX8_runs_130 : decode cX8_runs 130 = .ok (.aload_n 0, 1) := by decide +kernel
theorem dX8_runs_131 : decode cX8_runs 131 = .ok (.getfield 68, 3) := by decide +kernel
theorem dX8_runs_134 : decode cX8_runs 134 = .ok (.iload_n 1, 1) := by decide +kernel
theorem dX8_runs_135 : decode cX8_runs 135 = .ok (.aload_n 0, 1) := by decide +kernel
theorem dX8_runs_136 : decode cX8_runs 136 = .ok (.getfield 159, 3) := by decide +kernel
theorem dX8_runs_139 : decode cX8_runs 139 = .ok (.iastore, 1) := by decide +kernel
theorem dX8_runs_140 : decode cX8_runs 140 = .ok (.aload_n 0, 1) := by decide +kernel
theorem dX8_runs_141 : decode cX8_runs 141 = .ok (.getfield 44, 3) := by decide +kernel
theorem dX8_runs_144 : decode cX8_runs 144 = .ok (.iload_n 1, 1) := by decide +kernel
theorem dX8_runs_145 : decode cX8_runs 145 = .ok (.aload_n 0, 1) := by decide +kernel
theorem dX8_runs_146 : decode cX8_runs 146 = .ok (.getfield 68, 3) := by decide +kernel
theorem dX8_runs_149 : decode cX8_runs 149 = .ok (.iload_n 1, 1) := by decide +kernel
theorem dX8_runs_150 : decode cX8_runs 150 = .ok (.iaload, 1) := by decide +kernel
theorem dX8_runs_151 : decode cX8_runs 151 = .ok (.iastore, 1) := by decide +kernel
theorem dX8_runs_152 : decode cX8_runs 152 = .ok (.return_, 1) := by decide +kernel
theorem dX8_run_0 : decode cX8_run 0 = .ok (.aload_n 0, 1) := by decide +kernel
theorem dX8_run_1 : decode cX8_run 1 = .ok (.aload_n 0, 1) := by decide +kernel
theorem dX8_run_2 : decode cX8_run 2 = .ok (.iload_n 1, 1) := by decide +kernel
theorem dX8_run_3 : decode cX8_run 3 = .ok (.invokevirtual 133, 3) := by decide +kernel
theorem dX8_run_6 : decode cX8_run 6 = .ok (.ifCond .eq 7, 3) := by decide +kernel
theorem dX8_run_9 : decode cX8_run 9 = .ok (.iconst 0, 1) := by decide +kernel
theorem dX8_run_10 : decode cX8_run 10 = .ok (.goto 4, 3) := by decide +kernel
theorem dX8_run_13 : decode cX8_run 13 = .ok (.iconst 1, 1) := by decide +kernel
theorem dX8_run_14 : decode cX8_run 14 = .ok (.putfield 77, 3) := by decide +kernel
theorem dX8_run_17 : decode cX8_run 17 = .ok (.aload_n 0, 1) := by decide +kernel
theorem dX8_run_18 : decode cX8_run 18 = .ok (.getfield 77, 3) := by decide +kernel
theorem dX8_run_21 : decode cX8_run 21 = .ok (.ifCond .le 5, 3) := by decide +kernel
theorem dX8_run_24 : decode cX8_run 24 = .ok (.iconst 0, 1) := by decide +kernel
theorem dX8_run_25 : decode cX8_run 25 = .ok (.ireturn, 1) := by decide +kernel
theorem dX8_run_26 : decode cX8_run 26 = .ok (.aload_n 0, 1) := by decide +kernel
theorem dX8_run_27 : decode cX8_run 27 = .ok (.invokevirtual 171, 3) := by decide +kernel
theorem dX8_run_30 : decode cX8_run 30 = .ok (.istore_n 2, 1) := by decide +kernel
theorem dX8_run_31 : decode cX8_run 31 = .ok (.aload_n 0, 1) := by decide +kernel
theorem dX8_run_32 : decode cX8_run 32 = .ok (.iload_n 2, 1) := by decide +kernel
theorem dX8_run_33 : decode cX8_run 33 = .ok (.aload_n 0, 1) := by decide +kernel
theorem dX8_run_34 : decode cX8_run 34 = .ok (.getfield 41, 3) := by decide +kernel
theorem dX8_run_37 : decode cX8_run 37 = .ok (.iload_n 1, 1) := by decide +kernel
theorem dX8_run_38 : decode cX8_run 38 = .ok (.iaload, 1) := by decide +kernel
theorem dX8_run_39 : decode cX8_run 39 = .ok (.iand, 1) := by decide +kernel
theorem dX8_run_40 : decode cX8_run 40 = .ok (.ifCond .ne 22, 3) := by decide +kernel
theorem dX8_run_43 : decode cX8_run 43 = .ok (.iload_n 2, 1) := by decide +kernel
theorem dX8_run_44 : decode cX8_run 44 = .ok (.iload_n 1, 1) := by decide +kernel
theorem dX8_run_45 : decode cX8_run 45 = .ok (.ishr, 1) := by decide +kernel
theorem dX8_run_46 : decode cX8_run 46 = .ok (.iconst 1, 1) := by decide +kernel
theorem dX8_run_47 : decode cX8_run 47 = .ok (.iand, 1) := by decide +kernel
theorem dX8_run_48 : decode cX8_run 48 = .ok (.iconst 1, 1) := by decide +kernel
theorem dX8_run_49 : decode cX8_run 49 = .ok (.if_icmp .ne 17, 3) := by decide +kernel
theorem dX8_run_52 : decode cX8_run 52 = .ok (.aload_n 0, 1) := by decide +kernel
theorem dX8_run_53 : decode cX8_run 53 = .ok (.getfield 159, 3) := by decide +kernel
theorem dX8_run_56 : decode cX8_run 56 = .ok (.sipush 200, 3) := by decide +kernel
theorem dX8_run_59 : decode cX8_run 59 = .ok (.if_icmp .ne 7, 3) := by decide +kernel
theorem dX8_run_62 : decode cX8_run 62 = .ok (.iconst 2, 1) := by decide +kernel
theorem dX8_run_63 : decode cX8_run 63 = .ok (.goto 4, 3) := by decide +kernel
theorem dX8_run_66 : decode cX8_run 66 = .ok (.iconst 0, 1) := by decide +kernel
theorem dX8_run_67 : decode cX8_run 67 = .ok (.putfield 77, 3) := by decide +kernel
theorem dX8_run_70 : decode cX8_run 70 = .ok (.aload_n 0, 1) := by decide +kernel
theorem dX8_run_71 : decode cX8_run 71 = .ok (.getfield 77, 3) := by decide +kernel
theorem dX8_run_74 : decode cX8_run 74 = .ok (.ifCond .le 5, 3) := by decide +kernel
theorem dX8_run_77 : decode cX8_run 77 = .ok (.iconst 0, 1) := by decide +kernel
theorem dX8_run_78 : decode cX8_run 78 = .ok (.ireturn, 1) := by decide +kernel
theorem dX8_run_79 : decode cX8_run 79 = .ok (.aload_n 0, 1) := by decide +kernel
theorem dX8_run_80 : decode cX8_run 80 = .ok (.iload_n 1, 1) := by decide +kernel
theorem dX8_run_81 : decode cX8_run 81 = .ok (.invokevirtual 174, 3) := by decide +kernel
theorem dX8_run_84 : decode cX8_run 84 = .ok (.aload_n 0, 1) := by decide +kernel
theorem dX8_run_85 : decode cX8_run 85 = .ok (.getfield 68, 3) := by decide +kernel
theorem dX8_run_88 : decode cX8_run 88 = .ok (.iload_n 1, 1) := by decide +kernel
theorem dX8_run_89 : decode cX8_run 89 = .ok (.iaload, 1) := by decide +kernel
theorem dX8_run_90 : decode cX8_run 90 = .ok (.ireturn, 1) := by decide +kernel
theorem dX8_runAll_0 : decode cX8_runAll 0 = .ok (.aload_n 0, 1) := by decide +kernel
theorem dX8_runAll_1 : decode cX8_runAll 1 = .ok (.invokevirtual 171, 3) := by decide +kernel
theorem dX8_runAll_4 : decode cX8_runAll 4 = .ok (.invokestatic 144, 3) := by decide +kernel
theorem dX8_runAll_7 : decode cX8_runAll 7 = .ok (.istore_n 1, 1) := by decide +kernel
theorem dX8_runAll_8 : decode cX8_runAll 8 = .ok (.aload_n 0, 1) := by decide +kernel
theorem dX8_runAll_9 : decode cX8_runAll 9 = .ok (.aload_n 0, 1) := by decide +kernel
theorem dX8_runAll_10 : decode cX8_runAll 10 = .ok (.getfield 159, 3) := by decide +kernel
theorem dX8_runAll_13 : decode cX8_runAll 13 = .ok (.iload_n 1, 1) := by decide +kernel
theorem dX8_runAll_14 : decode cX8_runAll 14 = .ok (.iadd, 1) := by decide +kernel
theorem dX8_runAll_15 : decode cX8_runAll 15 = .ok (.sipush 200, 3) := by decide +kernel
theorem dX8_runAll_18 : decode cX8_runAll 18 = .ok (.if_icmp .le 7, 3) := by decide +kernel
theorem dX8_runAll_21 : decode cX8_runAll 21 = .ok (.iconst 1, 1) := by decide +kernel
theorem dX8_runAll_22 : decode cX8_runAll 22 = .ok (.goto 4, 3) := by decide +kernel
theorem dX8_runAll_25 : decode cX8_runAll 25 = .ok (.iconst 0, 1) := by decide +kernel
theorem dX8_runAll_26 : decode cX8_runAll 26 = .ok (.putfield 77, 3) := by decide +kernel
theorem dX8_runAll_29 : decode cX8_runAll 29 = .ok (.iconst 0, 1) := by decide +kernel
theorem dX8_runAll_30 : decode cX8_runAll 30 = .ok (.istore_n 2, 1) := by decide +kernel
theorem dX8_runAll_31 : decode cX8_runAll 31 = .ok (.iload_n 2, 1) := by decide +kernel
theorem dX8_runAll_32 : decode cX8_runAll 32 = .ok (.aload_n 0, 1) := by decide +kernel
theorem dX8_runAll_33 : decode cX8_runAll 33 = .ok (.getfield 127, 3) := by decide +kernel
theorem dX8_runAll_36 : decode cX8_runAll 36 = .ok (.if_icmp .ge 26, 3) := by decide +kernel
theorem dX8_runAll_39 : decode cX8_runAll 39 = .ok (.aload_n 0, 1) := by decide +kernel
theorem dX8_runAll_40 : decode cX8_runAll 40 = .ok (.getfield 77, 3) := by decide +kernel
theorem dX8_runAll_43 : decode cX8_runAll 43 = .ok (.ifCond .ne 19, 3) := by decide +kernel
theorem dX8_runAll_46 : decode cX8_runAll 46 = .ok (.aload_n 0, 1) := by decide +kernel
theorem dX8_runAll_47 : decode cX8_runAll 47 = .ok (.aload_n 0, 1) := by decide +kernel
theorem dX8_runAll_48 : decode cX8_runAll 48 = .ok (.getfield 65, 3) := by decide +kernel
theorem dX8_runAll_51 : decode cX8_runAll 51 = .ok (.iload_n 2, 1) := by decide +kernel
theorem dX8_runAll_52 : decode cX8_runAll 52 = .ok (.iaload, 1) := by decide +kernel
theorem dX8_runAll_53 : decode cX8_runAll 53 = .ok (.invokevirtual 174, 3) := by decide +kernel
theorem dX8_runAll_56 : decode cX8_runAll 56 = .ok (.iinc 2 1, 3) := by decide +kernel
theorem dX8_runAll_59 : decode cX8_runAll 59 = .ok (.goto (-28), 3) := by decide +kernel
theorem dX8_runAll_62 : decode cX8_runAll 62 = .ok (.aload_n 0, 1) := by decide +kernel
theorem dX8_runAll_63 : decode cX8_runAll 63 = .ok (.getfield 77, 3) := by decide +kernel
theorem dX8_runAll_66 : decode cX8_runAll 66 = .ok (.ifCond .le 7, 3) := by decide +kernel
theorem dX8_runAll_69 : decode cX8_runAll 69 = .ok (.iconst 0, 1) := by decide +kernel
theorem dX8_runAll_70 : decode cX8_runAll 70 = .ok (.goto 4, 3) := by decide +kernel
theorem dX8_runAll_73 : decode cX8_runAll 73 = .ok (.iload_n 1, 1) := by decide +kernel
theorem dX8_runAll_74 : decode cX8_runAll 74 = .ok (.ireturn, 1) := by decide +kernel
theorem dX8_keys_0 : decode cX8_keys 0 = .ok (.aload_n 0, 1) := by decide +kernel
theorem dX8_keys_1 : decode cX8_keys 1 = .ok (.iconst 0, 1) := by decide +kernel
theorem dX8_keys_2 : decode cX8_keys 2 = .ok (.putfield 77, 3) := by decide +kernel
theorem dX8_keys_5 : decode cX8_keys 5 = .ok (.aload_n 0, 1) := by decide +kernel
theorem dX8_keys_6 : decode cX8_keys 6 = .ok (.getfield 159, 3) := by decide +kernel
theorem dX8_keys_9 : decode cX8_keys 9 = .ok (.ireturn, 1) := by decide +kernel
theorem dX8_spreads_0 : decode cX8_spreads 0 = .ok (.aload_n 0, 1) := by decide +kernel
theorem dX8_spreads_1 : decode cX8_spreads 1 = .ok (.invokevirtual 171, 3) := by decide +kernel
theorem dX8_spreads_4 : decode cX8_spreads 4 = .ok (.istore_n 2, 1) := by decide +kernel
theorem dX8_spreads_5 : decode cX8_spreads 5 = .ok (.iconst 0, 1) := by decide +kernel
theorem dX8_spreads_6 : decode cX8_spreads 6 = .ok (.istore_n 3, 1) := by decide +kernel
theorem dX8_spreads_7 : decode cX8_spreads 7 = .ok (.iload_n 3, 1) := by decide +kernel
theorem dX8_spreads_8 : decode cX8_spreads 8 = .ok (.bipush 16, 2) := by decide +kernel
theorem dX8_spreads_10 : decode cX8_spreads 10 = .ok (.if_icmp .ge 16, 3) := by decide +kernel
theorem dX8_spreads_13 : decode cX8_spreads 13 = .ok (.aload_n 0, 1) := by decide +kernel
theorem dX8_spreads_14 : decode cX8_spreads 14 = .ok (.getfield 74, 3) := by decide +kernel
theorem dX8_spreads_17 : decode cX8_spreads 17 = .ok (.iload_n 3, 1) := by decide +kernel
theorem dX8_spreads_18 : decode cX8_spreads 18 = .ok (.iconst (-1), 1) := by decide +kernel
theorem dX8_spreads_19 : decode cX8_spreads 19 = .ok (.iastore, 1) := by decide +kernel
theorem dX8_spreads_20 : decode cX8_spreads 20 = .ok (.iinc 3 1, 3) := by decide +kernel
theorem dX8_spreads_23 : decode cX8_spreads 23 = .ok (.goto (-16), 3) := by decide +kernel
theorem dX8_spreads_26 : decode cX8_spreads 26 = .ok (.iconst 0, 1) := by decide +kernel
theorem dX8_spreads_27 : decode cX8_spreads 27 = .ok (.istore_n 3, 1) := by decide +kernel
theorem dX8_spreads_28 : decode cX8_spreads 28 = .ok (.iload_n 3, 1) := by decide +kernel
theorem dX8_spreads_29 : decode cX8_spreads 29 = .ok (.bipush 8, 2) := by decide +kernel
theorem dX8_spreads_31 : decode cX8_spreads 31 = .ok (.if_icmp .ge 16, 3) := by decide +kernel
theorem dX8_spreads_34 : decode cX8_spreads 34 = .ok (.aload_n 0, 1) := by decide +kernel
theorem dX8_spreads_35 : decode cX8_spreads 35 = .ok (.getfield 71, 3) := by decide +kernel
theorem dX8_spreads_38 : decode cX8_spreads 38 = .ok (.iload_n 3, 1) := by decide +kernel
theorem dX8_spreads_39 : decode cX8_spreads 39 = .ok (.iconst 0, 1) := by decide +kernel
theorem dX8_spreads_40 : decode cX8_spreads 40 = .ok (.iastore, 1) := by decide +kernel
theorem dX8_spreads_41 : decode cX8_spreads 41 = .ok (.iinc 3 1, 3) := by decide +kernel
theorem dX8_spreads_44 : decode cX8_spreads 44 = .ok (.goto (-16), 3) := by decide +kernel
theorem dX8_spreads_47 : decode cX8_spreads 47 = .ok (.iconst 0, 1) := by decide +kernel
theorem dX8_spreads_48 : decode cX8_spreads 48 = .ok (.istore_n 3, 1) := by decide +kernel
theorem dX8_spreads_49 : decode cX8_spreads 49 = .ok (.iload_n 2, 1) := by decide +kernel
theorem dX8_spreads_50 : decode cX8_spreads 50 = .ok (.ifCond .eq 170, 3) := by decide +kernel
theorem dX8_spreads_53 : decode cX8_spreads 53 = .ok (.iconst (-1), 1) := by decide +kernel
theorem dX8_spreads_54 : decode cX8_spreads 54 = .ok (.istore 4, 2) := by decide +kernel
theorem dX8_spreads_56 : decode cX8_spreads 56 = .ok (.iconst 0, 1) := by decide +kernel
theorem dX8_spreads_57 : decode cX8_spreads 57 = .ok (.istore 5, 2) := by decide +kernel
theorem dX8_spreads_59 : decode cX8_spreads 59 = .ok (.iload 5, 2) := by decide +kernel
theorem dX8_spreads_61 : decode cX8_spreads 61 = .ok (.aload_n 0, 1) := by decide +kernel
theorem dX8_spreads_62 : decode cX8_spreads 62 = .ok (.getfield 127, 3) := by decide +kernel
theorem dX8_spreads_65 : decode cX8_spreads 65 = .ok (.if_icmp .ge 50, 3) := by decide +kernel
theorem dX8_spreads_68 : decode cX8_spreads 68 = .ok (.iload_n 2, 1) := by decide +kernel
theorem dX8_spreads_69 : decode cX8_spreads 69 = .ok (.iload 5, 2) := by decide +kernel
theorem dX8_spreads_71 : decode cX8_spreads 71 = .ok (.ishr, 1) := by decide +kernel
theorem dX8_spreads_72 : decode cX8_spreads 72 = .ok (.iconst 1, 1) := by decide +kernel
theorem dX8_spreads_73 : decode cX8_spreads 73 = .ok (.iand, 1) := by decide +kernel
theorem dX8_spreads_74 : decode cX8_spreads 74 = .ok (.iconst 1, 1) := by decide +kernel
theorem dX8_spreads_75 : decode cX8_spreads 75 = .ok (.if_icmp .ne 30, 3) := by decide +kernel
theorem dX8_spreads_78 : decode cX8_spreads 78 = .ok (.iload 4, 2) := by decide +kernel
theorem dX8_spreads_80 : decode cX8_spreads 80 = .ok (.ifCond .lt 20, 3) := by decide +kernel
theorem dX8_spreads_83 : decode cX8_spreads 83 = .ok (.aload_n 0, 1) := by decide +kernel
theorem dX8_spreads_84 : decode cX8_spreads 84 = .ok (.getfield 35, 3) := by decide +kernel
theorem dX8_spreads_87 : decode cX8_spreads 87 = .ok (.iload 5, 2) := by decide +kernel
theorem dX8_spreads_89 : decode cX8_spreads 89 = .ok (.iaload, 1) := by decide +kernel
theorem dX8_spreads_90 : decode cX8_spreads 90 = .ok (.aload_n 0, 1) := by decide +kernel
theorem dX8_spreads_91 : decode cX8_spreads 91 = .ok (.getfield 35, 3) := by decide +kernel
theorem dX8_spreads_94 : decode cX8_spreads 94 = .ok (.iload 4, 2) := by decide +kernel
theorem dX8_spreads_96 : decode cX8_spreads 96 = .ok (.iaload, 1) := by decide +kernel
theorem dX8_spreads_97 : decode cX8_spreads 97 = .ok (.if_icmp .le 8, 3) := by decide +kernel
theorem dX8_spreads_100 : decode cX8_spreads 100 = .ok (.iload 5, 2) := by decide +kernel
theorem dX8_spreads_102 : decode cX8_spreads 102 = .ok (.goto 5, 3) := by decide +kernel
theorem dX8_spreads_105 : decode cX8_spreads 105 = .ok (.iload 4, 2) := by decide +kernel
theorem dX8_spreads_107 : decode cX8_spreads 107 = .ok (.istore 4, 2) := by decide +kernel
theorem dX8_spreads_109 : decode cX8_spreads 109 = .ok (.iinc 5 1, 3) := by decide +kernel
theorem dX8_spreads_112 : decode cX8_spreads 112 = .ok (.goto (-53), 3) := by decide +kernel
theorem dX8_spreads_115 : decode cX8_spreads 115 = .ok (.iconst 0, 1) := by decide +kernel
theorem dX8_spreads_116 : decode cX8_spreads 116 = .ok (.istore 5, 2) := by decide +kernel
theorem dX8_spreads_118 : decode cX8_spreads 118 = .ok (.iconst 1, 1) := by decide +kernel
theorem dX8_spreads_119 : decode cX8_spreads 119 = .ok (.istore 6, 2) := by decide +kernel
theorem dX8_spreads_121 : decode cX8_spreads 121 = .ok (.iload 6, 2) := by decide +kernel
theorem dX8_spreads_123 : decode cX8_spreads 123 = .ok (.iload_n 1, 1) := by decide +kernel
theorem dX8_spreads_124 : decode cX8_spreads 124 = .ok (.if_icmp .ge 35, 3) := by decide +kernel
theorem dX8_spreads_127 : decode cX8_spreads 127 = .ok (.aload_n 0, 1) := by decide +kernel
theorem dX8_spreads_128 : decode cX8_spreads 128 = .ok (.getfield 71, 3) := by decide +kernel
theorem dX8_spreads_131 : decode cX8_spreads 131 = .ok (.iload 6, 2) := by decide +kernel
theorem dX8_spreads_133 : decode cX8_spreads 133 = .ok (.iaload, 1) := by decide +kernel
theorem dX8_spreads_134 : decode cX8_spreads 134 = .ok (.aload_n 0, 1) := by decide +kernel
theorem dX8_spreads_135 : decode cX8_spreads 135 = .ok (.getfield 71, 3) := by decide +kernel
theorem dX8_spreads_138 : decode cX8_spreads 138 = .ok (.iload 5, 2) := by decide +kernel
theorem dX8_spreads_140 : decode cX8_spreads 140 = .ok (.iaload, 1) := by decide +kernel
theorem dX8_spreads_141 : decode cX8_spreads 141 = .ok (.if_icmp .ge 8, 3) := by decide +kernel
theorem dX8_spreads_144 : decode cX8_spreads 144 = .ok (.iload 6, 2) := by decide +kernel
theorem dX8_spreads_146 : decode cX8_spreads 146 = .ok (.goto 5, 3) := by decide +kernel
theorem dX8_spreads_149 : decode cX8_spreads 149 = .ok (.iload 5, 2) := by decide +kernel
theorem dX8_spreads_151 : decode cX8_spreads 151 = .ok (.istore 5, 2) := by decide +kernel
theorem dX8_spreads_153 : decode cX8_spreads 153 = .ok (.iinc 6 1, 3) := by decide +kernel
theorem dX8_spreads_156 : decode cX8_spreads 156 = .ok (.goto (-35), 3) := by decide +kernel
theorem dX8_spreads_159 : decode cX8_spreads 159 = .ok (.aload_n 0, 1) := by decide +kernel
theorem dX8_spreads_160 : decode cX8_spreads 160 = .ok (.getfield 74, 3) := by decide +kernel
theorem dX8_spreads_163 : decode cX8_spreads 163 = .ok (.iload 4, 2) := by decide +kernel
theorem dX8_spreads_165 : decode cX8_spreads 165 = .ok (.iload 5, 2) := by decide +kernel
theorem dX8_spreads_167 : decode cX8_spreads 167 = .ok (.iastore, 1) := by decide +kernel
theorem dX8_spreads_168 : decode cX8_spreads 168 = .ok (.aload_n 0, 1) := by decide +kernel
theorem dX8_spreads_169 : decode cX8_spreads 169 = .ok (.getfield 71, 3) := by decide +kernel
theorem dX8_spreads_172 : decode cX8_spreads 172 = .ok (.iload 5, 2) := by decide +kernel
theorem dX8_spreads_174 : decode cX8_spreads 174 = .ok (.dup2, 1) := by decide +kernel
theorem dX8_spreads_175 : decode cX8_spreads 175 = .ok (.iaload, 1) := by decide +kernel
theorem dX8_spreads_176 : decode cX8_spreads 176 = .ok (.aload_n 0, 1) := by decide +kernel
theorem dX8_spreads_177 : decode cX8_spreads 177 = .ok (.getfield 35, 3) := by decide +kernel
theorem dX8_spreads_180 : decode cX8_spreads 180 = .ok (.iload 4, 2) := by decide +kernel
theorem dX8_spreads_182 : decode cX8_spreads 182 = .ok (.iaload, 1) := by decide +kernel
theorem dX8_spreads_183 : decode cX8_spreads 183 = .ok (.iadd, 1) := by decide +kernel
theorem dX8_spreads_184 : decode cX8_spreads 184 = .ok (.iastore, 1) := by decide +kernel
theorem dX8_spreads_185 : decode cX8_spreads 185 = .ok (.aload_n 0, 1) := by decide +kernel
theorem dX8_spreads_186 : decode cX8_spreads 186 = .ok (.getfield 71, 3) := by decide +kernel
theorem dX8_spreads_189 : decode cX8_spreads 189 = .ok (.iload 5, 2) := by decide +kernel
theorem dX8_spreads_191 : decode cX8_spreads 191 = .ok (.iaload, 1) := by decide +kernel
theorem dX8_spreads_192 : decode cX8_spreads 192 = .ok (.iload_n 3, 1) := by decide +kernel
theorem dX8_spreads_193 : decode cX8_spreads 193 = .ok (.if_icmp .le 13, 3) := by decide +kernel
theorem dX8_spreads_196 : decode cX8_spreads 196 = .ok (.aload_n 0, 1) := by decide +kernel
theorem dX8_spreads_197 : decode cX8_spreads 197 = .ok (.getfield 71, 3) := by decide +kernel
theorem dX8_spreads_200 : decode cX8_spreads 200 = .ok (.iload 5, 2) := by decide +kernel
theorem dX8_spreads_202 : decode cX8_spreads 202 = .ok (.iaload, 1) := by decide +kernel
theorem dX8_spreads_203 : decode cX8_spreads 203 = .ok (.goto 4, 3) := by decide +kernel
theorem dX8_spreads_206 : decode cX8_spreads 206 = .ok (.iload_n 3, 1) := by decide +kernel
theorem dX8_spreads_207 : decode cX8_spreads 207 = .ok (.istore_n 3, 1) := by decide +kernel
theorem dX8_spreads_208 : decode cX8_spreads 208 = .ok (.iload_n 2, 1) := by decide +kernel
theorem dX8_spreads_209 : decode cX8_spreads 209 = .ok (.iconst 1, 1) := by decide +kernel
theorem dX8_spreads_210 : decode cX8_spreads 210 = .ok (.iload 4, 2) := by decide +kernel
theorem dX8_spreads_212 : decode cX8_spreads 212 = .ok (.ishl, 1) := by decide +kernel
theorem dX8_spreads_213 : decode cX8_spreads 213 = .ok (.iconst (-1), 1) := by decide +kernel
theorem dX8_spreads_214 : decode cX8_spreads 214 = .ok (.ixor, 1) := by decide +kernel
theorem dX8_spreads_215 : decode cX8_spreads 215 = .ok (.iand, 1) := by decide +kernel
theorem dX8_spreads_216 : decode cX8_spreads 216 = .ok (.istore_n 2, 1) := by decide +kernel
theorem dX8_spreads_217 : decode cX8_spreads 217 = .ok (.goto (-168), 3) := by decide +kernel
theorem dX8_spreads_220 : decode cX8_spreads 220 = .ok (.iload_n 3, 1) := by decide +kernel
theorem dX8_spreads_221 : decode cX8_spreads 221 = .ok (.ireturn, 1) := by decide +kernel
theorem dX8_shardOf_0 : decode cX8_shardOf 0 = .ok (.aload_n 0, 1) := by decide +kernel
theorem dX8_shardOf_1 : decode cX8_shardOf 1 = .ok (.aload_n 0, 1) := by decide +kernel
theorem dX8_shardOf_2 : decode cX8_shardOf 2 = .ok (.iload_n 1, 1) := by decide +kernel
theorem dX8_shardOf_3 : decode cX8_shardOf 3 = .ok (.invokevirtual 133, 3) := by decide +kernel
theorem dX8_shardOf_6 : decode cX8_shardOf 6 = .ok (.ifCond .ne 7, 3) := by decide +kernel
theorem dX8_shardOf_9 : decode cX8_shardOf 9 = .ok (.iconst 1, 1) := by decide +kernel
theorem dX8_shardOf_10 : decode cX8_shardOf 10 = .ok (.goto 18, 3) := by decide +kernel
theorem dX8_shardOf_13 : decode cX8_shardOf 13 = .ok (.iload_n 2, 1) := by decide +kernel
theorem dX8_shardOf_14 : decode cX8_shardOf 14 = .ok (.iconst 1, 1) := by decide +kernel
theorem dX8_shardOf_15 : decode cX8_shardOf 15 = .ok (.bipush 8, 2) := by decide +kernel
theorem dX8_shardOf_17 : decode cX8_shardOf 17 = .ok (.invokestatic 111, 3) := by decide +kernel
theorem dX8_shardOf_20 : decode cX8_shardOf 20 = .ok (.ifCond .eq 7, 3) := by decide +kernel
theorem dX8_shardOf_23 : decode cX8_shardOf 23 = .ok (.iconst 0, 1) := by decide +kernel
theorem dX8_shardOf_24 : decode cX8_shardOf 24 = .ok (.goto 4, 3) := by decide +kernel
theorem dX8_shardOf_27 : decode cX8_shardOf 27 = .ok (.iconst 2, 1) := by decide +kernel
theorem dX8_shardOf_28 : decode cX8_shardOf 28 = .ok (.putfield 77, 3) := by decide +kernel
theorem dX8_shardOf_31 : decode cX8_shardOf 31 = .ok (.aload_n 0, 1) := by decide +kernel
theorem dX8_shardOf_32 : decode cX8_shardOf 32 = .ok (.getfield 77, 3) := by decide +kernel
theorem dX8_shardOf_35 : decode cX8_shardOf 35 = .ok (.ifCond .le 5, 3) := by decide +kernel
theorem dX8_shardOf_38 : decode cX8_shardOf 38 = .ok (.iconst 0, 1) := by decide +kernel
theorem dX8_shardOf_39 : decode cX8_shardOf 39 = .ok (.ireturn, 1) := by decide +kernel
theorem dX8_shardOf_40 : decode cX8_shardOf 40 = .ok (.aload_n 0, 1) := by decide +kernel
theorem dX8_shardOf_41 : decode cX8_shardOf 41 = .ok (.iload_n 2, 1) := by decide +kernel
theorem dX8_shardOf_42 : decode cX8_shardOf 42 = .ok (.invokevirtual 177, 3) := by decide +kernel
theorem dX8_shardOf_45 : decode cX8_shardOf 45 = .ok (.pop, 1) := by decide +kernel
theorem dX8_shardOf_46 : decode cX8_shardOf 46 = .ok (.aload_n 0, 1) := by decide +kernel
theorem dX8_shardOf_47 : decode cX8_shardOf 47 = .ok (.getfield 74, 3) := by decide +kernel
theorem dX8_shardOf_50 : decode cX8_shardOf 50 = .ok (.iload_n 1, 1) := by decide +kernel
theorem dX8_shardOf_51 : decode cX8_shardOf 51 = .ok (.iaload, 1) := by decide +kernel
theorem dX8_shardOf_52 : decode cX8_shardOf 52 = .ok (.ireturn, 1) := by decide +kernel
theorem dX8_longestShard_0 : decode cX8_longestShard 0 = .ok (.aload_n 0, 1) := by decide +kernel
theorem dX8_longestShard_1 : decode cX8_longestShard 1 = .ok (.iload_n 1, 1) := by decide +kernel
theorem dX8_longestShard_2 : decode cX8_longestShard 2 = .ok (.iconst 1, 1) := by decide +kernel
theorem dX8_longestShard_3 : decode cX8_longestShard 3 = .ok (.bipush 8, 2) := by decide +kernel
theorem dX8_longestShard_5 : decode cX8_longestShard 5 = .ok (.invokestatic 111, 3) := by decide +kernel
theorem dX8_longestShard_8 : decode cX8_longestShard 8 = .ok (.ifCond .eq 7, 3) := by decide +kernel
theorem dX8_longestShard_11 : decode cX8_longestShard 11 = .ok (.iconst 0, 1) := by decide +kernel
theorem dX8_longestShard_12 : decode cX8_longestShard 12 = .ok (.goto 4, 3) := by decide +kernel
theorem dX8_longestShard_15 : decode cX8_longestShard 15 = .ok (.iconst 1, 1) := by decide +kernel
theorem dX8_longestShard_16 : decode cX8_longestShard 16 = .ok (.putfield 77, 3) := by decide +kernel
theorem dX8_longestShard_19 : decode cX8_longestShard 19 = .ok (.aload_n 0, 1) := by decide +kernel
theorem dX8_longestShard_20 : decode cX8_longestShard 20 = .ok (.getfield 77, 3) := by decide +kernel
theorem dX8_longestShard_23 : decode cX8_longestShard 23 = .ok (.ifCond .le 7, 3) := by decide +kernel
theorem dX8_longestShard_26 : decode cX8_longestShard 26 = .ok (.iconst 0, 1) := by decide +kernel
theorem dX8_longestShard_27 : decode cX8_longestShard 27 = .ok (.goto 8, 3) := by decide +kernel
theorem dX8_longestShard_30 : decode cX8_longestShard 30 = .ok (.aload_n 0, 1) := by decide +kernel
theorem dX8_longestShard_31 : decode cX8_longestShard 31 = .ok (.iload_n 1, 1) := by decide +kernel
theorem dX8_longestShard_32 : decode cX8_longestShard 32 = .ok (.invokevirtual 177, 3) := by decide +kernel
theorem dX8_longestShard_35 : decode cX8_longestShard 35 = .ok (.ireturn, 1) := by decide +kernel
theorem dX8_shardsFor_0 : decode cX8_shardsFor 0 = .ok (.aload_n 0, 1) := by decide +kernel
theorem dX8_shardsFor_1 : decode cX8_shardsFor 1 = .ok (.iload_n 1, 1) := by decide +kernel
theorem dX8_shardsFor_2 : decode cX8_shardsFor 2 = .ok (.iconst 1, 1) := by decide +kernel
theorem dX8_shardsFor_3 : decode cX8_shardsFor 3 = .ok (.sipush 16000, 3) := by decide +kernel
theorem dX8_shardsFor_6 : decode cX8_shardsFor 6 = .ok (.invokestatic 111, 3) := by decide +kernel
theorem dX8_shardsFor_9 : decode cX8_shardsFor 9 = .ok (.ifCond .eq 7, 3) := by decide +kernel
theorem dX8_shardsFor_12 : decode cX8_shardsFor 12 = .ok (.iconst 0, 1) := by decide +kernel
theorem dX8_shardsFor_13 : decode cX8_shardsFor 13 = .ok (.goto 4, 3) := by decide +kernel
theorem dX8_shardsFor_16 : decode cX8_shardsFor 16 = .ok (.iconst 1, 1) := by decide +kernel
theorem dX8_shardsFor_17 : decode cX8_shardsFor 17 = .ok (.putfield 77, 3) := by decide +kernel
theorem dX8_shardsFor_20 : decode cX8_shardsFor 20 = .ok (.iconst (-1), 1) := by decide +kernel
theorem dX8_shardsFor_21 : decode cX8_shardsFor 21 = .ok (.istore_n 2, 1) := by decide +kernel
theorem dX8_shardsFor_22 : decode cX8_shardsFor 22 = .ok (.bipush 8, 2) := by decide +kernel
theorem dX8_shardsFor_24 : decode cX8_shardsFor 24 = .ok (.istore_n 3, 1) := by decide +kernel
theorem dX8_shardsFor_25 : decode cX8_shardsFor 25 = .ok (.iload_n 3, 1) := by decide +kernel
theorem dX8_shardsFor_26 : decode cX8_shardsFor 26 = .ok (.iconst 1, 1) := by decide +kernel
theorem dX8_shardsFor_27 : decode cX8_shardsFor 27 = .ok (.if_icmp .lt 31, 3) := by decide +kernel
theorem dX8_shardsFor_30 : decode cX8_shardsFor 30 = .ok (.aload_n 0, 1) := by decide +kernel
theorem dX8_shardsFor_31 : decode cX8_shardsFor 31 = .ok (.getfield 77, 3) := by decide +kernel
theorem dX8_shardsFor_34 : decode cX8_shardsFor 34 = .ok (.ifCond .ne 24, 3) := by decide +kernel
theorem dX8_shardsFor_37 : decode cX8_shardsFor 37 = .ok (.aload_n 0, 1) := by decide +kernel
theorem dX8_shardsFor_38 : decode cX8_shardsFor 38 = .ok (.iload_n 3, 1) := by decide +kernel
theorem dX8_shardsFor_39 : decode cX8_shardsFor 39 = .ok (.invokevirtual 177, 3) := by decide +kernel
theorem dX8_shardsFor_42 : decode cX8_shardsFor 42 = .ok (.iload_n 1, 1) := by decide +kernel
theorem dX8_shardsFor_43 : decode cX8_shardsFor 43 = .ok (.if_icmp .gt 7, 3) := by decide +kernel
theorem dX8_shardsFor_46 : decode cX8_shardsFor 46 = .ok (.iload_n 3, 1) := by decide +kernel
theorem dX8_shardsFor_47 : decode cX8_shardsFor 47 = .ok (.goto 4, 3) := by decide +kernel
theorem dX8_shardsFor_50 : decode cX8_shardsFor 50 = .ok (.iload_n 2, 1) := by decide +kernel
theorem dX8_shardsFor_51 : decode cX8_shardsFor 51 = .ok (.istore_n 2, 1) := by decide +kernel
theorem dX8_shardsFor_52 : decode cX8_shardsFor 52 = .ok (.iinc 3 (-1), 3) := by decide +kernel
theorem dX8_shardsFor_55 : decode cX8_shardsFor 55 = .ok (.goto (-30), 3) := by decide +kernel
theorem dX8_shardsFor_58 : decode cX8_shardsFor 58 = .ok (.aload_n 0, 1) := by decide +kernel
theorem dX8_shardsFor_59 : decode cX8_shardsFor 59 = .ok (.getfield 77, 3) := by decide +kernel
theorem dX8_shardsFor_62 : decode cX8_shardsFor 62 = .ok (.ifCond .le 7, 3) := by decide +kernel
theorem dX8_shardsFor_65 : decode cX8_shardsFor 65 = .ok (.iconst 0, 1) := by decide +kernel
theorem dX8_shardsFor_66 : decode cX8_shardsFor 66 = .ok (.goto 4, 3) := by decide +kernel
theorem dX8_shardsFor_69 : decode cX8_shardsFor 69 = .ok (.iload_n 2, 1) := by decide +kernel
theorem dX8_shardsFor_70 : decode cX8_shardsFor 70 = .ok (.ireturn, 1) := by decide +kernel
theorem dX8_addRule_0 : decode cX8_addRule 0 = .ok (.aload_n 0, 1) := by decide +kernel
theorem dX8_addRule_1 : decode cX8_addRule 1 = .ok (.iload_n 1, 1) := by decide +kernel
theorem dX8_addRule_2 : decode cX8_addRule 2 = .ok (.iconst 0, 1) := by decide +kernel
theorem dX8_addRule_3 : decode cX8_addRule 3 = .ok (.bipush 7, 2) := by decide +kernel
theorem dX8_addRule_5 : decode cX8_addRule 5 = .ok (.invokestatic 111, 3) := by decide +kernel
theorem dX8_addRule_8 : decode cX8_addRule 8 = .ok (.ifCond .ne 7, 3) := by decide +kernel
theorem dX8_addRule_11 : decode cX8_addRule 11 = .ok (.iconst 1, 1) := by decide +kernel
theorem dX8_addRule_12 : decode cX8_addRule 12 = .ok (.goto 28, 3) := by decide +kernel
theorem dX8_addRule_15 : decode cX8_addRule 15 = .ok (.aload_n 0, 1) := by decide +kernel
theorem dX8_addRule_16 : decode cX8_addRule 16 = .ok (.invokevirtual 92, 3) := by decide +kernel
theorem dX8_addRule_19 : decode cX8_addRule 19 = .ok (.ifCond .ne 7, 3) := by decide +kernel
theorem dX8_addRule_22 : decode cX8_addRule 22 = .ok (.iconst 2, 1) := by decide +kernel
theorem dX8_addRule_23 : decode cX8_addRule 23 = .ok (.goto 17, 3) := by decide +kernel
theorem dX8_addRule_26 : decode cX8_addRule 26 = .ok (.aload_n 0, 1) := by decide +kernel
theorem dX8_addRule_27 : decode cX8_addRule 27 = .ok (.getfield 180, 3) := by decide +kernel
theorem dX8_addRule_30 : decode cX8_addRule 30 = .ok (.bipush 12, 2) := by decide +kernel
theorem dX8_addRule_32 : decode cX8_addRule 32 = .ok (.if_icmp .ne 7, 3) := by decide +kernel
theorem dX8_addRule_35 : decode cX8_addRule 35 = .ok (.iconst 3, 1) := by decide +kernel
theorem dX8_addRule_36 : decode cX8_addRule 36 = .ok (.goto 4, 3) := by decide +kernel
theorem dX8_addRule_39 : decode cX8_addRule 39 = .ok (.iconst 0, 1) := by decide +kernel
theorem dX8_addRule_40 : decode cX8_addRule 40 = .ok (.putfield 77, 3) := by decide +kernel
theorem dX8_addRule_43 : decode cX8_addRule 43 = .ok (.aload_n 0, 1) := by decide +kernel
theorem dX8_addRule_44 : decode cX8_addRule 44 = .ok (.getfield 77, 3) := by decide +kernel
theorem dX8_addRule_47 : decode cX8_addRule 47 = .ok (.ifCond .le 5, 3) := by decide +kernel
theorem dX8_addRule_50 : decode cX8_addRule 50 = .ok (.iconst 0, 1) := by decide +kernel
theorem dX8_addRule_51 : decode cX8_addRule 51 = .ok (.ireturn, 1) := by decide +kernel
theorem dX8_addRule_52 : decode cX8_addRule 52 = .ok (.aload_n 0, 1) := by decide +kernel
theorem dX8_addRule_53 : decode cX8_addRule 53 = .ok (.bipush 64, 2) := by decide +kernel
theorem dX8_addRule_55 : decode cX8_addRule 55 = .ok (.aload_n 0, 1) := by decide +kernel
theorem dX8_addRule_56 : decode cX8_addRule 56 = .ok (.getfield 180, 3) := by decide +kernel
theorem dX8_addRule_59 : decode cX8_addRule 59 = .ok (.iadd, 1) := by decide +kernel
theorem dX8_addRule_60 : decode cX8_addRule 60 = .ok (.invokevirtual 136, 3) := by decide +kernel
theorem dX8_addRule_63 : decode cX8_addRule 63 = .ok (.aload_n 0, 1) := by decide +kernel
theorem dX8_addRule_64 : decode cX8_addRule 64 = .ok (.getfield 47, 3) := by decide +kernel
theorem dX8_addRule_67 : decode cX8_addRule 67 = .ok (.aload_n 0, 1) := by decide +kernel
theorem dX8_addRule_68 : decode cX8_addRule 68 = .ok (.getfield 180, 3) := by decide +kernel
theorem dX8_addRule_71 : decode cX8_addRule 71 = .ok (.iload_n 1, 1) := by decide +kernel
theorem dX8_addRule_72 : decode cX8_addRule 72 = .ok (.iastore, 1) := by decide +kernel
theorem dX8_addRule_73 : decode cX8_addRule 73 = .ok (.aload_n 0, 1) := by decide +kernel
theorem dX8_addRule_74 : decode cX8_addRule 74 = .ok (.dup, 1) := by decide +kernel
theorem dX8_addRule_75 : decode cX8_addRule 75 = .ok (.getfield 180, 3) := by decide +kernel
theorem dX8_addRule_78 : decode cX8_addRule 78 = .ok (.iconst 1, 1) := by decide +kernel
theorem dX8_addRule_79 : decode cX8_addRule 79 = .ok (.iadd, 1) := by decide +kernel
theorem dX8_addRule_80 : decode cX8_addRule 80 = .ok (.putfield 180, 3) := by decide +kernel
theorem dX8_addRule_83 : decode cX8_addRule 83 = .ok (.aload_n 0, 1) := by decide +kernel
theorem dX8_addRule_84 : decode cX8_addRule 84 = .ok (.getfield 180, 3) := by decide +kernel
theorem dX8_addRule_87 : decode cX8_addRule 87 = .ok (.ireturn, 1) := by decide +kernel
theorem dX8_ownerNow_0 : decode cX8_ownerNow 0 = .ok (.iconst (-1), 1) := by decide +kernel
theorem dX8_ownerNow_1 : decode cX8_ownerNow 1 = .ok (.istore_n 2, 1) := by decide +kernel
theorem dX8_ownerNow_2 : decode cX8_ownerNow 2 = .ok (.iconst 0, 1) := by decide +kernel
theorem dX8_ownerNow_3 : decode cX8_ownerNow 3 = .ok (.istore_n 3, 1) := by decide +kernel
theorem dX8_ownerNow_4 : decode cX8_ownerNow 4 = .ok (.iload_n 3, 1) := by decide +kernel
theorem dX8_ownerNow_5 : decode cX8_ownerNow 5 = .ok (.aload_n 0, 1) := by decide +kernel
theorem dX8_ownerNow_6 : decode cX8_ownerNow 6 = .ok (.getfield 180, 3) := by decide +kernel
theorem dX8_ownerNow_9 : decode cX8_ownerNow 9 = .ok (.if_icmp .ge 32, 3) := by decide +kernel
theorem dX8_ownerNow_12 : decode cX8_ownerNow 12 = .ok (.aload_n 0, 1) := by decide +kernel
theorem dX8_ownerNow_13 : decode cX8_ownerNow 13 = .ok (.bipush 64, 2) := by decide +kernel
theorem dX8_ownerNow_15 : decode cX8_ownerNow 15 = .ok (.iload_n 3, 1) := by decide +kernel
theorem dX8_ownerNow_16 : decode cX8_ownerNow 16 = .ok (.iadd, 1) := by decide +kernel
theorem dX8_ownerNow_17 : decode cX8_ownerNow 17 = .ok (.iload_n 1, 1) := by decide +kernel
theorem dX8_ownerNow_18 : decode cX8_ownerNow 18 = .ok (.invokevirtual 123, 3) := by decide +kernel
theorem dX8_ownerNow_21 : decode cX8_ownerNow 21 = .ok (.ifCond .eq 12, 3) := by decide +kernel
theorem dX8_ownerNow_24 : decode cX8_ownerNow 24 = .ok (.aload_n 0, 1) := by decide +kernel
theorem dX8_ownerNow_25 : decode cX8_ownerNow 25 = .ok (.getfield 47, 3) := by decide +kernel
theorem dX8_ownerNow_28 : decode cX8_ownerNow 28 = .ok (.iload_n 3, 1) := by decide +kernel
theorem dX8_ownerNow_29 : decode cX8_ownerNow 29 = .ok (.iaload, 1) := by decide +kernel
theorem dX8_ownerNow_30 : decode cX8_ownerNow 30 = .ok (.goto 4, 3) := by decide +kernel
theorem dX8_ownerNow_33 : decode cX8_ownerNow 33 = .ok (.iload_n 2, 1) := by decide +kernel
theorem dX8_ownerNow_34 : decode cX8_ownerNow 34 = .ok (.istore_n 2, 1) := by decide +kernel
theorem dX8_ownerNow_35 : decode cX8_ownerNow 35 = .ok (.iinc 3 1, 3) := by decide +kernel
theorem dX8_ownerNow_38 : decode cX8_ownerNow 38 = .ok (.goto (-34), 3) := by decide +kernel
theorem dX8_ownerNow_41 : decode cX8_ownerNow 41 = .ok (.iload_n 2, 1) := by decide +kernel
theorem dX8_ownerNow_42 : decode cX8_ownerNow 42 = .ok (.ireturn, 1) := by decide +kernel
theorem dX8_ownerOf_0 : decode cX8_ownerOf 0 = .ok (.aload_n 0, 1) := by decide +kernel
theorem dX8_ownerOf_1 : decode cX8_ownerOf 1 = .ok (.iload_n 1, 1) := by decide +kernel
theorem dX8_ownerOf_2 : decode cX8_ownerOf 2 = .ok (.iconst 0, 1) := by decide +kernel
theorem dX8_ownerOf_3 : decode cX8_ownerOf 3 = .ok (.aload_n 0, 1) := by decide +kernel
theorem dX8_ownerOf_4 : decode cX8_ownerOf 4 = .ok (.getfield 108, 3) := by decide +kernel
theorem dX8_ownerOf_7 : decode cX8_ownerOf 7 = .ok (.iconst 1, 1) := by decide +kernel
theorem dX8_ownerOf_8 : decode cX8_ownerOf 8 = .ok (.isub, 1) := by decide +kernel
theorem dX8_ownerOf_9 : decode cX8_ownerOf 9 = .ok (.invokestatic 111, 3) := by decide +kernel
theorem dX8_ownerOf_12 : decode cX8_ownerOf 12 = .ok (.ifCond .eq 7, 3) := by decide +kernel
theorem dX8_ownerOf_15 : decode cX8_ownerOf 15 = .ok (.iconst 0, 1) := by decide +kernel
theorem dX8_ownerOf_16 : decode cX8_ownerOf 16 = .ok (.goto 4, 3) := by decide +kernel
theorem dX8_ownerOf_19 : decode cX8_ownerOf 19 = .ok (.iconst 1, 1) := by decide +kernel
theorem dX8_ownerOf_20 : decode cX8_ownerOf 20 = .ok (.putfield 77, 3) := by decide +kernel
theorem dX8_ownerOf_23 : decode cX8_ownerOf 23 = .ok (.aload_n 0, 1) := by decide +kernel
theorem dX8_ownerOf_24 : decode cX8_ownerOf 24 = .ok (.getfield 77, 3) := by decide +kernel
theorem dX8_ownerOf_27 : decode cX8_ownerOf 27 = .ok (.ifCond .le 7, 3) := by decide +kernel
theorem dX8_ownerOf_30 : decode cX8_ownerOf 30 = .ok (.iconst 0, 1) := by decide +kernel
theorem dX8_ownerOf_31 : decode cX8_ownerOf 31 = .ok (.goto 8, 3) := by decide +kernel
theorem dX8_ownerOf_34 : decode cX8_ownerOf 34 = .ok (.aload_n 0, 1) := by decide +kernel
theorem dX8_ownerOf_35 : decode cX8_ownerOf 35 = .ok (.iload_n 1, 1) := by decide +kernel
theorem dX8_ownerOf_36 : decode cX8_ownerOf 36 = .ok (.invokevirtual 183, 3) := by decide +kernel
theorem dX8_ownerOf_39 : decode cX8_ownerOf 39 = .ok (.ireturn, 1) := by decide +kernel
theorem dX8_mark_0 : decode cX8_mark 0 = .ok (.aload_n 0, 1) := by decide +kernel
theorem dX8_mark_1 : decode cX8_mark 1 = .ok (.iconst 0, 1) := by decide +kernel
theorem dX8_mark_2 : decode cX8_mark 2 = .ok (.putfield 77, 3) := by decide +kernel
theorem dX8_mark_5 : decode cX8_mark 5 = .ok (.iconst 0, 1) := by decide +kernel
theorem dX8_mark_6 : decode cX8_mark 6 = .ok (.istore_n 1, 1) := by decide +kernel
theorem dX8_mark_7 : decode cX8_mark 7 = .ok (.iconst 0, 1) := by decide +kernel
theorem dX8_mark_8 : decode cX8_mark 8 = .ok (.istore_n 2, 1) := by decide +kernel
theorem dX8_mark_9 : decode cX8_mark 9 = .ok (.iload_n 2, 1) := by decide +kernel
theorem dX8_mark_10 : decode cX8_mark 10 = .ok (.aload_n 0, 1) := by decide +kernel
theorem dX8_mark_11 : decode cX8_mark 11 = .ok (.getfield 108, 3) := by decide +kernel
theorem dX8_mark_14 : decode cX8_mark 14 = .ok (.if_icmp .ge 50, 3) := by decide +kernel
theorem dX8_mark_17 : decode cX8_mark 17 = .ok (.aload_n 0, 1) := by decide +kernel
theorem dX8_mark_18 : decode cX8_mark 18 = .ok (.getfield 29, 3) := by decide +kernel
theorem dX8_mark_21 : decode cX8_mark 21 = .ok (.iload_n 2, 1) := by decide +kernel
theorem dX8_mark_22 : decode cX8_mark 22 = .ok (.aload_n 0, 1) := by decide +kernel
theorem dX8_mark_23 : decode cX8_mark 23 = .ok (.getfield 22, 3) := by decide +kernel
theorem dX8_mark_26 : decode cX8_mark 26 = .ok (.iload_n 2, 1) := by decide +kernel
theorem dX8_mark_27 : decode cX8_mark 27 = .ok (.baload, 1) := by decide +kernel
theorem dX8_mark_28 : decode cX8_mark 28 = .ok (.bastore, 1) := by decide +kernel
theorem dX8_mark_29 : decode cX8_mark 29 = .ok (.aload_n 0, 1) := by decide +kernel
theorem dX8_mark_30 : decode cX8_mark 30 = .ok (.getfield 32, 3) := by decide +kernel
theorem dX8_mark_33 : decode cX8_mark 33 = .ok (.iload_n 2, 1) := by decide +kernel
theorem dX8_mark_34 : decode cX8_mark 34 = .ok (.aload_n 0, 1) := by decide +kernel
theorem dX8_mark_35 : decode cX8_mark 35 = .ok (.getfield 26, 3) := by decide +kernel
theorem dX8_mark_38 : decode cX8_mark 38 = .ok (.iload_n 2, 1) := by decide +kernel
theorem dX8_mark_39 : decode cX8_mark 39 = .ok (.iaload, 1) := by decide +kernel
theorem dX8_mark_40 : decode cX8_mark 40 = .ok (.iastore, 1) := by decide +kernel
theorem dX8_mark_41 : decode cX8_mark 41 = .ok (.iload_n 1, 1) := by decide +kernel
theorem dX8_mark_42 : decode cX8_mark 42 = .ok (.aload_n 0, 1) := by decide +kernel
theorem dX8_mark_43 : decode cX8_mark 43 = .ok (.getfield 22, 3) := by decide +kernel
theorem dX8_mark_46 : decode cX8_mark 46 = .ok (.iload_n 2, 1) := by decide +kernel
theorem dX8_mark_47 : decode cX8_mark 47 = .ok (.baload, 1) := by decide +kernel
theorem dX8_mark_48 : decode cX8_mark 48 = .ok (.ifCond .eq 7, 3) := by decide +kernel
theorem dX8_mark_51 : decode cX8_mark 51 = .ok (.iconst 1, 1) := by decide +kernel
theorem dX8_mark_52 : decode cX8_mark 52 = .ok (.goto 4, 3) := by decide +kernel
theorem dX8_mark_55 : decode cX8_mark 55 = .ok (.iconst 0, 1) := by decide +kernel
theorem dX8_mark_56 : decode cX8_mark 56 = .ok (.iadd, 1) := by decide +kernel
theorem dX8_mark_57 : decode cX8_mark 57 = .ok (.istore_n 1, 1) := by decide +kernel
theorem dX8_mark_58 : decode cX8_mark 58 = .ok (.iinc 2 1, 3) := by decide +kernel
theorem dX8_mark_61 : decode cX8_mark 61 = .ok (.goto (-52), 3) := by decide +kernel
theorem dX8_mark_64 : decode cX8_mark 64 = .ok (.iload_n 1, 1) := by decide +kernel
theorem dX8_mark_65 : decode cX8_mark 65 = .ok (.ireturn, 1) := by decide +kernel
theorem dX8_isChanged_0 : decode cX8_isChanged 0 = .ok (.aload_n 0, 1) := by decide +kernel
theorem dX8_isChanged_1 : decode cX8_isChanged 1 = .ok (.getfield 22, 3) := by decide +kernel
theorem dX8_isChanged_4 : decode cX8_isChanged 4 = .ok (.iload_n 1, 1) := by decide +kernel
theorem dX8_isChanged_5 : decode cX8_isChanged 5 = .ok (.baload, 1) := by decide +kernel
theorem dX8_isChanged_6 : decode cX8_isChanged 6 = .ok (.aload_n 0, 1) := by decide +kernel
theorem dX8_isChanged_7 : decode cX8_isChanged 7 = .ok (.getfield 29, 3) := by decide +kernel
theorem dX8_isChanged_10 : decode cX8_isChanged 10 = .ok (.iload_n 1, 1) := by decide +kernel
theorem dX8_isChanged_11 : decode cX8_isChanged 11 = .ok (.baload, 1) := by decide +kernel
theorem dX8_isChanged_12 : decode cX8_isChanged 12 = .ok (.if_icmp .ne 27, 3) := by decide +kernel
theorem dX8_isChanged_15 : decode cX8_isChanged 15 = .ok (.aload_n 0, 1) := by decide +kernel
theorem dX8_isChanged_16 : decode cX8_isChanged 16 = .ok (.getfield 22, 3) := by decide +kernel
theorem dX8_isChanged_19 : decode cX8_isChanged 19 = .ok (.iload_n 1, 1) := by decide +kernel
theorem dX8_isChanged_20 : decode cX8_isChanged 20 = .ok (.baload, 1) := by decide +kernel
theorem dX8_isChanged_21 : decode cX8_isChanged 21 = .ok (.ifCond .eq 22, 3) := by decide +kernel
theorem dX8_isChanged_24 : decode cX8_isChanged 24 = .ok (.aload_n 0, 1) := by decide +kernel
theorem dX8_isChanged_25 : decode cX8_isChanged 25 = .ok (.getfield 26, 3) := by decide +kernel
theorem dX8_isChanged_28 : decode cX8_isChanged 28 = .ok (.iload_n 1, 1) := by decide +kernel
theorem dX8_isChanged_29 : decode cX8_isChanged 29 = .ok (.iaload, 1) := by decide +kernel
theorem dX8_isChanged_30 : decode cX8_isChanged 30 = .ok (.aload_n 0, 1) := by decide +kernel
theorem dX8_isChanged_31 : decode cX8_isChanged 31 = .ok (.getfield 32, 3) := by decide +kernel
theorem dX8_isChanged_34 : decode cX8_isChanged 34 = .ok (.iload_n 1, 1) := by decide +kernel
theorem dX8_isChanged_35 : decode cX8_isChanged 35 = .ok (.iaload, 1) := by decide +kernel
theorem dX8_isChanged_36 : decode cX8_isChanged 36 = .ok (.if_icmp .eq 7, 3) := by decide +kernel
theorem dX8_isChanged_39 : decode cX8_isChanged 39 = .ok (.iconst 1, 1) := by decide +kernel
theorem dX8_isChanged_40 : decode cX8_isChanged 40 = .ok (.goto 4, 3) := by decide +kernel
theorem dX8_isChanged_43 : decode cX8_isChanged 43 = .ok (.iconst 0, 1) := by decide +kernel
theorem dX8_isChanged_44 : decode cX8_isChanged 44 = .ok (.ireturn, 1) := by decide +kernel
theorem dX8_changed_0 : decode cX8_changed 0 = .ok (.aload_n 0, 1) := by decide +kernel
theorem dX8_changed_1 : decode cX8_changed 1 = .ok (.iconst 0, 1) := by decide +kernel
theorem dX8_changed_2 : decode cX8_changed 2 = .ok (.putfield 77, 3) := by decide +kernel
theorem dX8_changed_5 : decode cX8_changed 5 = .ok (.iconst 0, 1) := by decide +kernel
theorem dX8_changed_6 : decode cX8_changed 6 = .ok (.istore_n 1, 1) := by decide +kernel
theorem dX8_changed_7 : decode cX8_changed 7 = .ok (.iconst 0, 1) := by decide +kernel
theorem dX8_changed_8 : decode cX8_changed 8 = .ok (.istore_n 2, 1) := by decide +kernel
theorem dX8_changed_9 : decode cX8_changed 9 = .ok (.iload_n 2, 1) := by decide +kernel
theorem dX8_changed_10 : decode cX8_changed 10 = .ok (.aload_n 0, 1) := by decide +kernel
theorem dX8_changed_11 : decode cX8_changed 11 = .ok (.getfield 108, 3) := by decide +kernel
theorem dX8_changed_14 : decode cX8_changed 14 = .ok (.if_icmp .ge 27, 3) := by decide +kernel
theorem dX8_changed_17 : decode cX8_changed 17 = .ok (.iload_n 1, 1) := by decide +kernel
theorem dX8_changed_18 : decode cX8_changed 18 = .ok (.aload_n 0, 1) := by decide +kernel
theorem dX8_changed_19 : decode cX8_changed 19 = .ok (.iload_n 2, 1) := by decide +kernel
theorem dX8_changed_20 : decode cX8_changed 20 = .ok (.invokevirtual 186, 3) := by decide +kernel
theorem dX8_changed_23 : decode cX8_changed 23 = .ok (.ifCond .eq 9, 3) := by decide +kernel
theorem dX8_changed_26 : decode cX8_changed 26 = .ok (.iconst 1, 1) := by decide +kernel
theorem dX8_changed_27 : decode cX8_changed 27 = .ok (.iload_n 2, 1) := by decide +kernel
theorem dX8_changed_28 : decode cX8_changed 28 = .ok (.ishl, 1) := by decide +kernel
theorem dX8_changed_29 : decode cX8_changed 29 = .ok (.goto 4, 3) := by decide +kernel
theorem dX8_changed_32 : decode cX8_changed 32 = .ok (.iconst 0, 1) := by decide +kernel
theorem dX8_changed_33 : decode cX8_changed 33 = .ok (.ior, 1) := by decide +kernel
theorem dX8_changed_34 : decode cX8_changed 34 = .ok (.istore_n 1, 1) := by decide +kernel
theorem dX8_changed_35 : decode cX8_changed 35 = .ok (.iinc 2 1, 3) := by decide +kernel
theorem dX8_changed_38 : decode cX8_changed 38 = .ok (.goto (-29), 3) := by decide +kernel
theorem dX8_changed_41 : decode cX8_changed 41 = .ok (.iload_n 1, 1) := by decide +kernel
theorem dX8_changed_42 : decode cX8_changed 42 = .ok (.ireturn, 1) := by decide +kernel
theorem dX8_reviewers_0 : decode cX8_reviewers 0 = .ok (.aload_n 0, 1) := by decide +kernel
theorem dX8_reviewers_1 : decode cX8_reviewers 1 = .ok (.iconst 0, 1) := by decide +kernel
theorem dX8_reviewers_2 : decode cX8_reviewers 2 = .ok (.putfield 77, 3) := by decide +kernel
theorem dX8_reviewers_5 : decode cX8_reviewers 5 = .ok (.iconst 0, 1) := by decide +kernel
theorem dX8_reviewers_6 : decode cX8_reviewers 6 = .ok (.istore_n 1, 1) := by decide +kernel
theorem dX8_reviewers_7 : decode cX8_reviewers 7 = .ok (.iconst 0, 1) := by decide +kernel
theorem dX8_reviewers_8 : decode cX8_reviewers 8 = .ok (.istore_n 2, 1) := by decide +kernel
theorem dX8_reviewers_9 : decode cX8_reviewers 9 = .ok (.iload_n 2, 1) := by decide +kernel
theorem dX8_reviewers_10 : decode cX8_reviewers 10 = .ok (.aload_n 0, 1) := by decide +kernel
theorem dX8_reviewers_11 : decode cX8_reviewers 11 = .ok (.getfield 108, 3) := by decide +kernel
theorem dX8_reviewers_14 : decode cX8_reviewers 14 = .ok (.if_icmp .ge 41, 3) := by decide +kernel
theorem dX8_reviewers_17 : decode cX8_reviewers 17 = .ok (.aload_n 0, 1) := by decide +kernel
theorem dX8_reviewers_18 : decode cX8_reviewers 18 = .ok (.iload_n 2, 1) := by decide +kernel
theorem dX8_reviewers_19 : decode cX8_reviewers 19 = .ok (.invokevirtual 186, 3) := by decide +kernel
theorem dX8_reviewers_22 : decode cX8_reviewers 22 = .ok (.ifCond .eq 11, 3) := by decide +kernel
theorem dX8_reviewers_25 : decode cX8_reviewers 25 = .ok (.aload_n 0, 1) := by decide +kernel
theorem dX8_reviewers_26 : decode cX8_reviewers 26 = .ok (.iload_n 2, 1) := by decide +kernel
theorem dX8_reviewers_27 : decode cX8_reviewers 27 = .ok (.invokevirtual 183, 3) := by decide +kernel
theorem dX8_reviewers_30 : decode cX8_reviewers 30 = .ok (.goto 4, 3) := by decide +kernel
theorem dX8_reviewers_33 : decode cX8_reviewers 33 = .ok (.iconst (-1), 1) := by decide +kernel
theorem dX8_reviewers_34 : decode cX8_reviewers 34 = .ok (.istore_n 3, 1) := by decide +kernel
theorem dX8_reviewers_35 : decode cX8_reviewers 35 = .ok (.iload_n 1, 1) := by decide +kernel
theorem dX8_reviewers_36 : decode cX8_reviewers 36 = .ok (.iload_n 3, 1) := by decide +kernel
theorem dX8_reviewers_37 : decode cX8_reviewers 37 = .ok (.ifCond .lt 9, 3) := by decide +kernel
theorem dX8_reviewers_40 : decode cX8_reviewers 40 = .ok (.iconst 1, 1) := by decide +kernel
theorem dX8_reviewers_41 : decode cX8_reviewers 41 = .ok (.iload_n 3, 1) := by decide +kernel
theorem dX8_reviewers_42 : decode cX8_reviewers 42 = .ok (.ishl, 1) := by decide +kernel
theorem dX8_reviewers_43 : decode cX8_reviewers 43 = .ok (.goto 4, 3) := by decide +kernel
theorem dX8_reviewers_46 : decode cX8_reviewers 46 = .ok (.iconst 0, 1) := by decide +kernel
theorem dX8_reviewers_47 : decode cX8_reviewers 47 = .ok (.ior, 1) := by decide +kernel
theorem dX8_reviewers_48 : decode cX8_reviewers 48 = .ok (.istore_n 1, 1) := by decide +kernel
theorem dX8_reviewers_49 : decode cX8_reviewers 49 = .ok (.iinc 2 1, 3) := by decide +kernel
theorem dX8_reviewers_52 : decode cX8_reviewers 52 = .ok (.goto (-43), 3) := by decide +kernel
theorem dX8_reviewers_55 : decode cX8_reviewers 55 = .ok (.iload_n 1, 1) := by decide +kernel
theorem dX8_reviewers_56 : decode cX8_reviewers 56 = .ok (.ireturn, 1) := by decide +kernel

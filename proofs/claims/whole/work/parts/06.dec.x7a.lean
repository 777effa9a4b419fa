theorem dX7_init_0 : decode cX7_init 0 = .ok (.aload_n 0, 1) := by decide +kernel
theorem dX7_init_1 : decode cX7_init 1 = .ok (.invokespecial 1, 3) := by decide +kernel
theorem dX7_init_4 : decode cX7_init 4 = .ok (.aload_n 0, 1) := by decide +kernel
theorem dX7_init_5 : decode cX7_init 5 = .ok (.bipush 16, 2) := by decide +kernel
theorem dX7_init_7 : decode cX7_init 7 = .ok (.newarray .char, 2) := by decide +kernel
theorem dX7_init_9 : decode cX7_init 9 = .ok (.putfield 7, 3) := by decide +kernel
theorem dX7_init_12 : decode cX7_init 12 = .ok (.aload_n 0, 1) := by decide +kernel
theorem dX7_init_13 : decode cX7_init 13 = .ok (.bipush 86, 2) := by decide +kernel
theorem dX7_init_15 : decode cX7_init 15 = .ok (.newarray .int, 2) := by decide +kernel
theorem dX7_init_17 : decode cX7_init 17 = .ok (.putfield 13, 3) := by decide +kernel
theorem dX7_init_20 : decode cX7_init 20 = .ok (.aload_n 0, 1) := by decide +kernel
theorem dX7_init_21 : decode cX7_init 21 = .ok (.bipush 86, 2) := by decide +kernel
theorem dX7_init_23 : decode cX7_init 23 = .ok (.newarray .int, 2) := by decide +kernel
theorem dX7_init_25 : decode cX7_init 25 = .ok (.putfield 17, 3) := by decide +kernel
theorem dX7_init_28 : decode cX7_init 28 = .ok (.aload_n 0, 1) := by decide +kernel
theorem dX7_init_29 : decode cX7_init 29 = .ok (.sipush 258, 3) := by decide +kernel
theorem dX7_init_32 : decode cX7_init 32 = .ok (.newarray .int, 2) := by decide +kernel
theorem dX7_init_34 : decode cX7_init 34 = .ok (.putfield 20, 3) := by decide +kernel
theorem dX7_init_37 : decode cX7_init 37 = .ok (.aload_n 0, 1) := by decide +kernel
theorem dX7_init_38 : decode cX7_init 38 = .ok (.bipush 86, 2) := by decide +kernel
theorem dX7_init_40 : decode cX7_init 40 = .ok (.newarray .int, 2) := by decide +kernel
theorem dX7_init_42 : decode cX7_init 42 = .ok (.putfield 23, 3) := by decide +kernel
theorem dX7_init_45 : decode cX7_init 45 = .ok (.aload_n 0, 1) := by decide +kernel
theorem dX7_init_46 : decode cX7_init 46 = .ok (.bipush 86, 2) := by decide +kernel
theorem dX7_init_48 : decode cX7_init 48 = .ok (.newarray .int, 2) := by decide +kernel
theorem dX7_init_50 : decode cX7_init 50 = .ok (.putfield 26, 3) := by decide +kernel
theorem dX7_init_53 : decode cX7_init 53 = .ok (.aload_n 0, 1) := by decide +kernel
theorem dX7_init_54 : decode cX7_init 54 = .ok (.bipush 86, 2) := by decide +kernel
theorem dX7_init_56 : decode cX7_init 56 = .ok (.newarray .int, 2) := by decide +kernel
theorem dX7_init_58 : decode cX7_init 58 = .ok (.putfield 29, 3) := by decide +kernel
theorem dX7_init_61 : decode cX7_init 61 = .ok (.aload_n 0, 1) := by decide +kernel
theorem dX7_init_62 : decode cX7_init 62 = .ok (.bipush 86, 2) := by decide +kernel
theorem dX7_init_64 : decode cX7_init 64 = .ok (.newarray .int, 2) := by decide +kernel
theorem dX7_init_66 : decode cX7_init 66 = .ok (.putfield 32, 3) := by decide +kernel
theorem dX7_init_69 : decode cX7_init 69 = .ok (.aload_n 0, 1) := by decide +kernel
theorem dX7_init_70 : decode cX7_init 70 = .ok (.bipush 20, 2) := by decide +kernel
theorem dX7_init_72 : decode cX7_init 72 = .ok (.newarray .char, 2) := by decide +kernel
theorem dX7_init_74 : decode cX7_init 74 = .ok (.putfield 35, 3) := by decide +kernel
theorem dX7_init_77 : decode cX7_init 77 = .ok (.aload_n 0, 1) := by decide +kernel
theorem dX7_init_78 : decode cX7_init 78 = .ok (.bipush 6, 2) := by decide +kernel
theorem dX7_init_80 : decode cX7_init 80 = .ok (.newarray .int, 2) := by decide +kernel
theorem dX7_init_82 : decode cX7_init 82 = .ok (.putfield 38, 3) := by decide +kernel
theorem dX7_init_85 : decode cX7_init 85 = .ok (.aload_n 0, 1) := by decide +kernel
theorem dX7_init_86 : decode cX7_init 86 = .ok (.iconst 4, 1) := by decide +kernel
theorem dX7_init_87 : decode cX7_init 87 = .ok (.newarray .boolean, 2) := by decide +kernel
theorem dX7_init_89 : decode cX7_init 89 = .ok (.putfield 41, 3) := by decide +kernel
theorem dX7_init_92 : decode cX7_init 92 = .ok (.aload_n 0, 1) := by decide +kernel
theorem dX7_init_93 : decode cX7_init 93 = .ok (.iconst 4, 1) := by decide +kernel
theorem dX7_init_94 : decode cX7_init 94 = .ok (.newarray .int, 2) := by decide +kernel
theorem dX7_init_96 : decode cX7_init 96 = .ok (.putfield 45, 3) := by decide +kernel
theorem dX7_init_99 : decode cX7_init 99 = .ok (.aload_n 0, 1) := by decide +kernel
theorem dX7_init_100 : decode cX7_init 100 = .ok (.iconst 4, 1) := by decide +kernel
theorem dX7_init_101 : decode cX7_init 101 = .ok (.newarray .int, 2) := by decide +kernel
theorem dX7_init_103 : decode cX7_init 103 = .ok (.putfield 48, 3) := by decide +kernel
theorem dX7_init_106 : decode cX7_init 106 = .ok (.aload_n 0, 1) := by decide +kernel
theorem dX7_init_107 : decode cX7_init 107 = .ok (.bipush 40, 2) := by decide +kernel
theorem dX7_init_109 : decode cX7_init 109 = .ok (.newarray .int, 2) := by decide +kernel
theorem dX7_init_111 : decode cX7_init 111 = .ok (.putfield 51, 3) := by decide +kernel
theorem dX7_init_114 : decode cX7_init 114 = .ok (.aload_n 0, 1) := by decide +kernel
theorem dX7_init_115 : decode cX7_init 115 = .ok (.bipush 40, 2) := by decide +kernel
theorem dX7_init_117 : decode cX7_init 117 = .ok (.newarray .boolean, 2) := by decide +kernel
theorem dX7_init_119 : decode cX7_init 119 = .ok (.putfield 54, 3) := by decide +kernel
theorem dX7_init_122 : decode cX7_init 122 = .ok (.aload_n 0, 1) := by decide +kernel
theorem dX7_init_123 : decode cX7_init 123 = .ok (.bipush 40, 2) := by decide +kernel
theorem dX7_init_125 : decode cX7_init 125 = .ok (.newarray .int, 2) := by decide +kernel
theorem dX7_init_127 : decode cX7_init 127 = .ok (.putfield 57, 3) := by decide +kernel
theorem dX7_init_130 : decode cX7_init 130 = .ok (.aload_n 0, 1) := by decide +kernel
theorem dX7_init_131 : decode cX7_init 131 = .ok (.bipush 8, 2) := by decide +kernel
theorem dX7_init_133 : decode cX7_init 133 = .ok (.newarray .boolean, 2) := by decide +kernel
theorem dX7_init_135 : decode cX7_init 135 = .ok (.putfield 60, 3) := by decide +kernel
theorem dX7_init_138 : decode cX7_init 138 = .ok (.aload_n 0, 1) := by decide +kernel
theorem dX7_init_139 : decode cX7_init 139 = .ok (.bipush 8, 2) := by decide +kernel
theorem dX7_init_141 : decode cX7_init 141 = .ok (.newarray .int, 2) := by decide +kernel
theorem dX7_init_143 : decode cX7_init 143 = .ok (.putfield 63, 3) := by decide +kernel
theorem dX7_init_146 : decode cX7_init 146 = .ok (.aload_n 0, 1) := by decide +kernel
theorem dX7_init_147 : decode cX7_init 147 = .ok (.bipush 14, 2) := by decide +kernel
theorem dX7_init_149 : decode cX7_init 149 = .ok (.newarray .int, 2) := by decide +kernel
theorem dX7_init_151 : decode cX7_init 151 = .ok (.putfield 66, 3) := by decide +kernel
theorem dX7_init_154 : decode cX7_init 154 = .ok (.aload_n 0, 1) := by decide +kernel
theorem dX7_init_155 : decode cX7_init 155 = .ok (.getfield 41, 3) := by decide +kernel
theorem dX7_init_158 : decode cX7_init 158 = .ok (.iconst 0, 1) := by decide +kernel
theorem dX7_init_159 : decode cX7_init 159 = .ok (.iconst 1, 1) := by decide +kernel
theorem dX7_init_160 : decode cX7_init 160 = .ok (.bastore, 1) := by decide +kernel
theorem dX7_init_161 : decode cX7_init 161 = .ok (.return_, 1) := by decide +kernel
theorem dX7_thrown_0 : decode cX7_thrown 0 = .ok (.aload_n 0, 1) := by decide +kernel
theorem dX7_thrown_1 : decode cX7_thrown 1 = .ok (.getfield 69, 3) := by decide +kernel
theorem dX7_thrown_4 : decode cX7_thrown 4 = .ok (.ireturn, 1) := by decide +kernel
theorem dX7_fail_0 : decode cX7_fail 0 = .ok (.aload_n 0, 1) := by decide +kernel
theorem dX7_fail_1 : decode cX7_fail 1 = .ok (.iload_n 1, 1) := by decide +kernel
theorem dX7_fail_2 : decode cX7_fail 2 = .ok (.putfield 69, 3) := by decide +kernel
theorem dX7_fail_5 : decode cX7_fail 5 = .ok (.iconst 0, 1) := by decide +kernel
theorem dX7_fail_6 : decode cX7_fail 6 = .ok (.ireturn, 1) := by decide +kernel
theorem dX7_in_0 : decode cX7_in 0 = .ok (.iload_n 0, 1) := by decide +kernel
theorem dX7_in_1 : decode cX7_in 1 = .ok (.iload_n 1, 1) := by decide +kernel
theorem dX7_in_2 : decode cX7_in 2 = .ok (.if_icmp .lt 12, 3) := by decide +kernel
theorem dX7_in_5 : decode cX7_in 5 = .ok (.iload_n 0, 1) := by decide +kernel
theorem dX7_in_6 : decode cX7_in 6 = .ok (.iload_n 2, 1) := by decide +kernel
theorem dX7_in_7 : decode cX7_in 7 = .ok (.if_icmp .gt 7, 3) := by decide +kernel
theorem dX7_in_10 : decode cX7_in 10 = .ok (.iconst 1, 1) := by decide +kernel
theorem dX7_in_11 : decode cX7_in 11 = .ok (.goto 4, 3) := by decide +kernel
theorem dX7_in_14 : decode cX7_in 14 = .ok (.iconst 0, 1) := by decide +kernel
theorem dX7_in_15 : decode cX7_in 15 = .ok (.ireturn, 1) := by decide +kernel
theorem dX7_type_0 : decode cX7_type 0 = .ok (.aload_n 0, 1) := by decide +kernel
theorem dX7_type_1 : decode cX7_type 1 = .ok (.iconst 0, 1) := by decide +kernel
theorem dX7_type_2 : decode cX7_type 2 = .ok (.putfield 69, 3) := by decide +kernel
theorem dX7_type_5 : decode cX7_type 5 = .ok (.iload_n 1, 1) := by decide +kernel
theorem dX7_type_6 : decode cX7_type 6 = .ok (.bipush 32, 2) := by decide +kernel
theorem dX7_type_8 : decode cX7_type 8 = .ok (.if_icmp .lt 18, 3) := by decide +kernel
theorem dX7_type_11 : decode cX7_type 11 = .ok (.iload_n 1, 1) := by decide +kernel
theorem dX7_type_12 : decode cX7_type 12 = .ok (.bipush 126, 2) := by decide +kernel
theorem dX7_type_14 : decode cX7_type 14 = .ok (.if_icmp .gt 12, 3) := by decide +kernel
theorem dX7_type_17 : decode cX7_type 17 = .ok (.aload_n 0, 1) := by decide +kernel
theorem dX7_type_18 : decode cX7_type 18 = .ok (.getfield 73, 3) := by decide +kernel
theorem dX7_type_21 : decode cX7_type 21 = .ok (.bipush 16, 2) := by decide +kernel
theorem dX7_type_23 : decode cX7_type 23 = .ok (.if_icmp .ne 5, 3) := by decide +kernel
theorem dX7_type_26 : decode cX7_type 26 = .ok (.iconst 0, 1) := by decide +kernel
theorem dX7_type_27 : decode cX7_type 27 = .ok (.ireturn, 1) := by decide +kernel
theorem dX7_type_28 : decode cX7_type 28 = .ok (.aload_n 0, 1) := by decide +kernel
theorem dX7_type_29 : decode cX7_type 29 = .ok (.getfield 7, 3) := by decide +kernel
theorem dX7_type_32 : decode cX7_type 32 = .ok (.aload_n 0, 1) := by decide +kernel
theorem dX7_type_33 : decode cX7_type 33 = .ok (.getfield 73, 3) := by decide +kernel
theorem dX7_type_36 : decode cX7_type 36 = .ok (.iload_n 1, 1) := by decide +kernel
theorem dX7_type_37 : decode cX7_type 37 = .ok (.castore, 1) := by decide +kernel
theorem dX7_type_38 : decode cX7_type 38 = .ok (.aload_n 0, 1) := by decide +kernel
theorem dX7_type_39 : decode cX7_type 39 = .ok (.dup, 1) := by decide +kernel
theorem dX7_type_40 : decode cX7_type 40 = .ok (.getfield 73, 3) := by decide +kernel
theorem dX7_type_43 : decode cX7_type 43 = .ok (.iconst 1, 1) := by decide +kernel
theorem dX7_type_44 : decode cX7_type 44 = .ok (.iadd, 1) := by decide +kernel
theorem dX7_type_45 : decode cX7_type 45 = .ok (.putfield 73, 3) := by decide +kernel
theorem dX7_type_48 : decode cX7_type 48 = .ok (.iconst 1, 1) := by decide +kernel
theorem dX7_type_49 : decode cX7_type 49 = .ok (.ireturn, 1) := by decide +kernel
theorem dX7_isLabel_0 : decode cX7_isLabel 0 = .ok (.iload_n 0, 1) := by decide +kernel
theorem dX7_isLabel_1 : decode cX7_isLabel 1 = .ok (.bipush 97, 2) := by decide +kernel
theorem dX7_isLabel_3 : decode cX7_isLabel 3 = .ok (.if_icmp .lt 13, 3) := by decide +kernel
theorem dX7_isLabel_6 : decode cX7_isLabel 6 = .ok (.iload_n 0, 1) := by decide +kernel
theorem dX7_isLabel_7 : decode cX7_isLabel 7 = .ok (.bipush 105, 2) := by decide +kernel
theorem dX7_isLabel_9 : decode cX7_isLabel 9 = .ok (.if_icmp .gt 7, 3) := by decide +kernel
theorem dX7_isLabel_12 : decode cX7_isLabel 12 = .ok (.iconst 1, 1) := by decide +kernel
theorem dX7_isLabel_13 : decode cX7_isLabel 13 = .ok (.goto 4, 3) := by decide +kernel
theorem dX7_isLabel_16 : decode cX7_isLabel 16 = .ok (.iconst 0, 1) := by decide +kernel
theorem dX7_isLabel_17 : decode cX7_isLabel 17 = .ok (.ireturn, 1) := by decide +kernel
theorem dX7_isDigit_0 : decode cX7_isDigit 0 = .ok (.iload_n 0, 1) := by decide +kernel
theorem dX7_isDigit_1 : decode cX7_isDigit 1 = .ok (.bipush 48, 2) := by decide +kernel
theorem dX7_isDigit_3 : decode cX7_isDigit 3 = .ok (.if_icmp .lt 13, 3) := by decide +kernel
theorem dX7_isDigit_6 : decode cX7_isDigit 6 = .ok (.iload_n 0, 1) := by decide +kernel
theorem dX7_isDigit_7 : decode cX7_isDigit 7 = .ok (.bipush 57, 2) := by decide +kernel
theorem dX7_isDigit_9 : decode cX7_isDigit 9 = .ok (.if_icmp .gt 7, 3) := by decide +kernel
theorem dX7_isDigit_12 : decode cX7_isDigit 12 = .ok (.iconst 1, 1) := by decide +kernel
theorem dX7_isDigit_13 : decode cX7_isDigit 13 = .ok (.goto 4, 3) := by decide +kernel
theorem dX7_isDigit_16 : decode cX7_isDigit 16 = .ok (.iconst 0, 1) := by decide +kernel
theorem dX7_isDigit_17 : decode cX7_isDigit 17 = .ok (.ireturn, 1) := by decide +kernel
theorem dX7_letterOf_0 : decode cX7_letterOf 0 = .ok (.iload_n 0, 1) := by decide +kernel
theorem dX7_letterOf_1 : decode cX7_letterOf 1 = .ok (.bipush 114, 2) := by decide +kernel
theorem dX7_letterOf_3 : decode cX7_letterOf 3 = .ok (.if_icmp .ne 7, 3) := by decide +kernel
theorem dX7_letterOf_6 : decode cX7_letterOf 6 = .ok (.iconst 1, 1) := by decide +kernel
theorem dX7_letterOf_7 : decode cX7_letterOf 7 = .ok (.goto 35, 3) := by decide +kernel
theorem dX7_letterOf_10 : decode cX7_letterOf 10 = .ok (.iload_n 0, 1) := by decide +kernel
theorem dX7_letterOf_11 : decode cX7_letterOf 11 = .ok (.bipush 119, 2) := by decide +kernel
theorem dX7_letterOf_13 : decode cX7_letterOf 13 = .ok (.if_icmp .ne 7, 3) := by decide +kernel
theorem dX7_letterOf_16 : decode cX7_letterOf 16 = .ok (.iconst 2, 1) := by decide +kernel
theorem dX7_letterOf_17 : decode cX7_letterOf 17 = .ok (.goto 25, 3) := by decide +kernel
theorem dX7_letterOf_20 : decode cX7_letterOf 20 = .ok (.iload_n 0, 1) := by decide +kernel
theorem dX7_letterOf_21 : decode cX7_letterOf 21 = .ok (.bipush 120, 2) := by decide +kernel
theorem dX7_letterOf_23 : decode cX7_letterOf 23 = .ok (.if_icmp .ne 7, 3) := by decide +kernel
theorem dX7_letterOf_26 : decode cX7_letterOf 26 = .ok (.iconst 4, 1) := by decide +kernel
theorem dX7_letterOf_27 : decode cX7_letterOf 27 = .ok (.goto 15, 3) := by decide +kernel
theorem dX7_letterOf_30 : decode cX7_letterOf 30 = .ok (.iload_n 0, 1) := by decide +kernel
theorem dX7_letterOf_31 : decode cX7_letterOf 31 = .ok (.bipush 100, 2) := by decide +kernel
theorem dX7_letterOf_33 : decode cX7_letterOf 33 = .ok (.if_icmp .ne 8, 3) := by decide +kernel
theorem dX7_letterOf_36 : decode cX7_letterOf 36 = .ok (.bipush 8, 2) := by decide +kernel
theorem dX7_letterOf_38 : decode cX7_letterOf 38 = .ok (.goto 4, 3) := by decide +kernel
theorem dX7_letterOf_41 : decode cX7_letterOf 41 = .ok (.iconst 0, 1) := by decide +kernel
theorem dX7_letterOf_42 : decode cX7_letterOf 42 = .ok (.ireturn, 1) := by decide +kernel
theorem dX7_addLabel_0 : decode cX7_addLabel 0 = .ok (.aload_n 0, 1) := by decide +kernel
theorem dX7_addLabel_1 : decode cX7_addLabel 1 = .ok (.getfield 20, 3) := by decide +kernel
theorem dX7_addLabel_4 : decode cX7_addLabel 4 = .ok (.iconst 3, 1) := by decide +kernel
theorem dX7_addLabel_5 : decode cX7_addLabel 5 = .ok (.iload_n 1, 1) := by decide +kernel
theorem dX7_addLabel_6 : decode cX7_addLabel 6 = .ok (.imul, 1) := by decide +kernel
theorem dX7_addLabel_7 : decode cX7_addLabel 7 = .ok (.aload_n 0, 1) := by decide +kernel
theorem dX7_addLabel_8 : decode cX7_addLabel 8 = .ok (.getfield 17, 3) := by decide +kernel
theorem dX7_addLabel_11 : decode cX7_addLabel 11 = .ok (.iload_n 1, 1) := by decide +kernel
theorem dX7_addLabel_12 : decode cX7_addLabel 12 = .ok (.iaload, 1) := by decide +kernel
theorem dX7_addLabel_13 : decode cX7_addLabel 13 = .ok (.iadd, 1) := by decide +kernel
theorem dX7_addLabel_14 : decode cX7_addLabel 14 = .ok (.iload_n 2, 1) := by decide +kernel
theorem dX7_addLabel_15 : decode cX7_addLabel 15 = .ok (.bipush 97, 2) := by decide +kernel
theorem dX7_addLabel_17 : decode cX7_addLabel 17 = .ok (.isub, 1) := by decide +kernel
theorem dX7_addLabel_18 : decode cX7_addLabel 18 = .ok (.iastore, 1) := by decide +kernel
theorem dX7_addLabel_19 : decode cX7_addLabel 19 = .ok (.aload_n 0, 1) := by decide +kernel
theorem dX7_addLabel_20 : decode cX7_addLabel 20 = .ok (.getfield 17, 3) := by decide +kernel
theorem dX7_addLabel_23 : decode cX7_addLabel 23 = .ok (.iload_n 1, 1) := by decide +kernel
theorem dX7_addLabel_24 : decode cX7_addLabel 24 = .ok (.dup2, 1) := by decide +kernel
theorem dX7_addLabel_25 : decode cX7_addLabel 25 = .ok (.iaload, 1) := by decide +kernel
theorem dX7_addLabel_26 : decode cX7_addLabel 26 = .ok (.iconst 1, 1) := by decide +kernel
theorem dX7_addLabel_27 : decode cX7_addLabel 27 = .ok (.iadd, 1) := by decide +kernel
theorem dX7_addLabel_28 : decode cX7_addLabel 28 = .ok (.iastore, 1) := by decide +kernel
theorem dX7_addLabel_29 : decode cX7_addLabel 29 = .ok (.return_, 1) := by decide +kernel
theorem dX7_go_0 : decode cX7_go 0 = .ok (.iload_n 2, 1) := by decide +kernel
theorem dX7_go_1 : decode cX7_go 1 = .ok (.tableswitch 361 0 23 #[111, 361, 118, 130, 137, 170, 183, 361, 361, 361, 190, 197, 221, 230, 278, 278, 278, 361, 278, 361, 286, 361, 312, 335], 111) := by decide +kernel
theorem dX7_go_112 : decode cX7_go 112 = .ok (.aload_n 0, 1) := by decide +kernel
theorem dX7_go_113 : decode cX7_go 113 = .ok (.iload_n 1, 1) := by decide +kernel
theorem dX7_go_114 : decode cX7_go 114 = .ok (.iload_n 3, 1) := by decide +kernel
theorem dX7_go_115 : decode cX7_go 115 = .ok (.invokevirtual 76, 3) := by decide +kernel
theorem dX7_go_118 : decode cX7_go 118 = .ok (.ireturn, 1) := by decide +kernel
theorem dX7_go_119 : decode cX7_go 119 = .ok (.iload_n 3, 1) := by decide +kernel
theorem dX7_go_120 : decode cX7_go 120 = .ok (.bipush 47, 2) := by decide +kernel
theorem dX7_go_122 : decode cX7_go 122 = .ok (.if_icmp .ne 7, 3) := by decide +kernel
theorem dX7_go_125 : decode cX7_go 125 = .ok (.iconst 3, 1) := by decide +kernel
theorem dX7_go_126 : decode cX7_go 126 = .ok (.goto 4, 3) := by decide +kernel
theorem dX7_go_129 : decode cX7_go 129 = .ok (.iconst (-1), 1) := by decide +kernel
theorem dX7_go_130 : decode cX7_go 130 = .ok (.ireturn, 1) := by decide +kernel
theorem dX7_go_131 : decode cX7_go 131 = .ok (.aload_n 0, 1) := by decide +kernel
theorem dX7_go_132 : decode cX7_go 132 = .ok (.iload_n 1, 1) := by decide +kernel
theorem dX7_go_133 : decode cX7_go 133 = .ok (.iload_n 3, 1) := by decide +kernel
theorem dX7_go_134 : decode cX7_go 134 = .ok (.invokevirtual 80, 3) := by decide +kernel
theorem dX7_go_137 : decode cX7_go 137 = .ok (.ireturn, 1) := by decide +kernel
theorem dX7_go_138 : decode cX7_go 138 = .ok (.iload_n 3, 1) := by decide +kernel
theorem dX7_go_139 : decode cX7_go 139 = .ok (.bipush 47, 2) := by decide +kernel
theorem dX7_go_141 : decode cX7_go 141 = .ok (.if_icmp .ne 17, 3) := by decide +kernel
theorem dX7_go_144 : decode cX7_go 144 = .ok (.aload_n 0, 1) := by decide +kernel
theorem dX7_go_145 : decode cX7_go 145 = .ok (.getfield 17, 3) := by decide +kernel
theorem dX7_go_148 : decode cX7_go 148 = .ok (.iload_n 1, 1) := by decide +kernel
theorem dX7_go_149 : decode cX7_go 149 = .ok (.iaload, 1) := by decide +kernel
theorem dX7_go_150 : decode cX7_go 150 = .ok (.iconst 3, 1) := by decide +kernel
theorem dX7_go_151 : decode cX7_go 151 = .ok (.if_icmp .ge 7, 3) := by decide +kernel
theorem dX7_go_154 : decode cX7_go 154 = .ok (.iconst 3, 1) := by decide +kernel
theorem dX7_go_155 : decode cX7_go 155 = .ok (.goto 15, 3) := by decide +kernel
theorem dX7_go_158 : decode cX7_go 158 = .ok (.iload_n 3, 1) := by decide +kernel
theorem dX7_go_159 : decode cX7_go 159 = .ok (.bipush 58, 2) := by decide +kernel
theorem dX7_go_161 : decode cX7_go 161 = .ok (.if_icmp .ne 8, 3) := by decide +kernel
theorem dX7_go_164 : decode cX7_go 164 = .ok (.bipush 6, 2) := by decide +kernel
theorem dX7_go_166 : decode cX7_go 166 = .ok (.goto 4, 3) := by decide +kernel
theorem dX7_go_169 : decode cX7_go 169 = .ok (.iconst (-1), 1) := by decide +kernel
theorem dX7_go_170 : decode cX7_go 170 = .ok (.ireturn, 1) := by decide +kernel
theorem dX7_go_171 : decode cX7_go 171 = .ok (.iload_n 3, 1) := by decide +kernel
theorem dX7_go_172 : decode cX7_go 172 = .ok (.bipush 58, 2) := by decide +kernel
theorem dX7_go_174 : decode cX7_go 174 = .ok (.if_icmp .ne 8, 3) := by decide +kernel
theorem dX7_go_177 : decode cX7_go 177 = .ok (.bipush 6, 2) := by decide +kernel
theorem dX7_go_179 : decode cX7_go 179 = .ok (.goto 4, 3) := by decide +kernel
theorem dX7_go_182 : decode cX7_go 182 = .ok (.iconst (-1), 1) := by decide +kernel
theorem dX7_go_183 : decode cX7_go 183 = .ok (.ireturn, 1) := by decide +kernel
theorem dX7_go_184 : decode cX7_go 184 = .ok (.aload_n 0, 1) := by decide +kernel
theorem dX7_go_185 : decode cX7_go 185 = .ok (.iload_n 1, 1) := by decide +kernel
theorem dX7_go_186 : decode cX7_go 186 = .ok (.iload_n 3, 1) := by decide +kernel
theorem dX7_go_187 : decode cX7_go 187 = .ok (.invokevirtual 83, 3) := by decide +kernel
theorem dX7_go_190 : decode cX7_go 190 = .ok (.ireturn, 1) := by decide +kernel
theorem dX7_go_191 : decode cX7_go 191 = .ok (.aload_n 0, 1) := by decide +kernel
theorem dX7_go_192 : decode cX7_go 192 = .ok (.iload_n 1, 1) := by decide +kernel
theorem dX7_go_193 : decode cX7_go 193 = .ok (.iload_n 3, 1) := by decide +kernel
theorem dX7_go_194 : decode cX7_go 194 = .ok (.invokevirtual 86, 3) := by decide +kernel
theorem dX7_go_197 : decode cX7_go 197 = .ok (.ireturn, 1) := by decide +kernel
theorem dX7_go_198 : decode cX7_go 198 = .ok (.iload_n 3, 1) := by decide +kernel
theorem dX7_go_199 : decode cX7_go 199 = .ok (.bipush 46, 2) := by decide +kernel
theorem dX7_go_201 : decode cX7_go 201 = .ok (.if_icmp .ne 8, 3) := by decide +kernel
theorem dX7_go_204 : decode cX7_go 204 = .ok (.bipush 12, 2) := by decide +kernel
theorem dX7_go_206 : decode cX7_go 206 = .ok (.goto 15, 3) := by decide +kernel
theorem dX7_go_209 : decode cX7_go 209 = .ok (.iload_n 3, 1) := by decide +kernel
theorem dX7_go_210 : decode cX7_go 210 = .ok (.bipush 58, 2) := by decide +kernel
theorem dX7_go_212 : decode cX7_go 212 = .ok (.if_icmp .ne 8, 3) := by decide +kernel
theorem dX7_go_215 : decode cX7_go 215 = .ok (.bipush 14, 2) := by decide +kernel
theorem dX7_go_217 : decode cX7_go 217 = .ok (.goto 4, 3) := by decide +kernel
theorem dX7_go_220 : decode cX7_go 220 = .ok (.iconst (-1), 1) := by decide +kernel
theorem dX7_go_221 : decode cX7_go 221 = .ok (.ireturn, 1) := by decide +kernel
theorem dX7_go_222 : decode cX7_go 222 = .ok (.aload_n 0, 1) := by decide +kernel
theorem dX7_go_223 : decode cX7_go 223 = .ok (.iload_n 1, 1) := by decide +kernel
theorem dX7_go_224 : decode cX7_go 224 = .ok (.iload_n 3, 1) := by decide +kernel
theorem dX7_go_225 : decode cX7_go 225 = .ok (.bipush 13, 2) := by decide +kernel
theorem dX7_go_227 : decode cX7_go 227 = .ok (.invokevirtual 89, 3) := by decide +kernel
theorem dX7_go_230 : decode cX7_go 230 = .ok (.ireturn, 1) := by decide +kernel
theorem dX7_go_231 : decode cX7_go 231 = .ok (.iload_n 3, 1) := by decide +kernel
theorem dX7_go_232 : decode cX7_go 232 = .ok (.bipush 46, 2) := by decide +kernel
theorem dX7_go_234 : decode cX7_go 234 = .ok (.if_icmp .ne 32, 3) := by decide +kernel
theorem dX7_go_237 : decode cX7_go 237 = .ok (.aload_n 0, 1) := by decide +kernel
theorem dX7_go_238 : decode cX7_go 238 = .ok (.getfield 17, 3) := by decide +kernel
theorem dX7_go_241 : decode cX7_go 241 = .ok (.iload_n 1, 1) := by decide +kernel
theorem dX7_go_242 : decode cX7_go 242 = .ok (.iaload, 1) := by decide +kernel
theorem dX7_go_243 : decode cX7_go 243 = .ok (.aload_n 0, 1) := by decide +kernel
theorem dX7_go_244 : decode cX7_go 244 = .ok (.getfield 23, 3) := by decide +kernel
theorem dX7_go_247 : decode cX7_go 247 = .ok (.iload_n 1, 1) := by decide +kernel
theorem dX7_go_248 : decode cX7_go 248 = .ok (.iaload, 1) := by decide +kernel
theorem dX7_go_249 : decode cX7_go 249 = .ok (.iconst 1, 1) := by decide +kernel
theorem dX7_go_250 : decode cX7_go 250 = .ok (.if_icmp .ne 7, 3) := by decide +kernel
theorem dX7_go_253 : decode cX7_go 253 = .ok (.iconst 2, 1) := by decide +kernel
theorem dX7_go_254 : decode cX7_go 254 = .ok (.goto 4, 3) := by decide +kernel
theorem dX7_go_257 : decode cX7_go 257 = .ok (.iconst 3, 1) := by decide +kernel
theorem dX7_go_258 : decode cX7_go 258 = .ok (.if_icmp .ge 8, 3) := by decide +kernel
theorem dX7_go_261 : decode cX7_go 261 = .ok (.bipush 12, 2) := by decide +kernel
theorem dX7_go_263 : decode cX7_go 263 = .ok (.goto 15, 3) := by decide +kernel
theorem dX7_go_266 : decode cX7_go 266 = .ok (.iload_n 3, 1) := by decide +kernel
theorem dX7_go_267 : decode cX7_go 267 = .ok (.bipush 58, 2) := by decide +kernel
theorem dX7_go_269 : decode cX7_go 269 = .ok (.if_icmp .ne 8, 3) := by decide +kernel
theorem dX7_go_272 : decode cX7_go 272 = .ok (.bipush 14, 2) := by decide +kernel
theorem dX7_go_274 : decode cX7_go 274 = .ok (.goto 4, 3) := by decide +kernel
theorem dX7_go_277 : decode cX7_go 277 = .ok (.iconst (-1), 1) := by decide +kernel
theorem dX7_go_278 : decode cX7_go 278 = .ok (.ireturn, 1) := by decide +kernel
theorem dX7_go_279 : decode cX7_go 279 = .ok (.aload_n 0, 1) := by decide +kernel
theorem dX7_go_280 : decode cX7_go 280 = .ok (.iload_n 1, 1) := by decide +kernel
theorem dX7_go_281 : decode cX7_go 281 = .ok (.iload_n 2, 1) := by decide +kernel
theorem dX7_go_282 : decode cX7_go 282 = .ok (.iload_n 3, 1) := by decide +kernel
theorem dX7_go_283 : decode cX7_go 283 = .ok (.invokevirtual 93, 3) := by decide +kernel
theorem dX7_go_286 : decode cX7_go 286 = .ok (.ireturn, 1) := by decide +kernel
theorem dX7_go_287 : decode cX7_go 287 = .ok (.iload_n 3, 1) := by decide +kernel
theorem dX7_go_288 : decode cX7_go 288 = .ok (.bipush 42, 2) := by decide +kernel
theorem dX7_go_290 : decode cX7_go 290 = .ok (.if_icmp .ne 14, 3) := by decide +kernel
theorem dX7_go_293 : decode cX7_go 293 = .ok (.aload_n 0, 1) := by decide +kernel
theorem dX7_go_294 : decode cX7_go 294 = .ok (.iload_n 1, 1) := by decide +kernel
theorem dX7_go_295 : decode cX7_go 295 = .ok (.iconst 1, 1) := by decide +kernel
theorem dX7_go_296 : decode cX7_go 296 = .ok (.bipush 21, 2) := by decide +kernel
theorem dX7_go_298 : decode cX7_go 298 = .ok (.invokevirtual 97, 3) := by decide +kernel
theorem dX7_go_301 : decode cX7_go 301 = .ok (.goto 11, 3) := by decide +kernel
theorem dX7_go_304 : decode cX7_go 304 = .ok (.aload_n 0, 1) := by decide +kernel
theorem dX7_go_305 : decode cX7_go 305 = .ok (.iload_n 1, 1) := by decide +kernel
theorem dX7_go_306 : decode cX7_go 306 = .ok (.iload_n 3, 1) := by decide +kernel
theorem dX7_go_307 : decode cX7_go 307 = .ok (.bipush 22, 2) := by decide +kernel
theorem dX7_go_309 : decode cX7_go 309 = .ok (.invokevirtual 89, 3) := by decide +kernel
theorem dX7_go_312 : decode cX7_go 312 = .ok (.ireturn, 1) := by decide +kernel
theorem dX7_go_313 : decode cX7_go 313 = .ok (.iload_n 3, 1) := by decide +kernel
theorem dX7_go_314 : decode cX7_go 314 = .ok (.bipush 46, 2) := by decide +kernel
theorem dX7_go_316 : decode cX7_go 316 = .ok (.if_icmp .ne 18, 3) := by decide +kernel
theorem dX7_go_319 : decode cX7_go 319 = .ok (.aload_n 0, 1) := by decide +kernel
theorem dX7_go_320 : decode cX7_go 320 = .ok (.getfield 17, 3) := by decide +kernel
theorem dX7_go_323 : decode cX7_go 323 = .ok (.iload_n 1, 1) := by decide +kernel
theorem dX7_go_324 : decode cX7_go 324 = .ok (.iaload, 1) := by decide +kernel
theorem dX7_go_325 : decode cX7_go 325 = .ok (.iconst 3, 1) := by decide +kernel
theorem dX7_go_326 : decode cX7_go 326 = .ok (.if_icmp .ge 8, 3) := by decide +kernel
theorem dX7_go_329 : decode cX7_go 329 = .ok (.bipush 23, 2) := by decide +kernel
theorem dX7_go_331 : decode cX7_go 331 = .ok (.goto 4, 3) := by decide +kernel
theorem dX7_go_334 : decode cX7_go 334 = .ok (.iconst (-1), 1) := by decide +kernel
theorem dX7_go_335 : decode cX7_go 335 = .ok (.ireturn, 1) := by decide +kernel
theorem dX7_go_336 : decode cX7_go 336 = .ok (.iload_n 3, 1) := by decide +kernel
theorem dX7_go_337 : decode cX7_go 337 = .ok (.bipush 42, 2) := by decide +kernel
theorem dX7_go_339 : decode cX7_go 339 = .ok (.if_icmp .ne 14, 3) := by decide +kernel
theorem dX7_go_342 : decode cX7_go 342 = .ok (.aload_n 0, 1) := by decide +kernel
theorem dX7_go_343 : decode cX7_go 343 = .ok (.iload_n 1, 1) := by decide +kernel
theorem dX7_go_344 : decode cX7_go 344 = .ok (.iconst 1, 1) := by decide +kernel
theorem dX7_go_345 : decode cX7_go 345 = .ok (.bipush 21, 2) := by decide +kernel
theorem dX7_go_347 : decode cX7_go 347 = .ok (.invokevirtual 97, 3) := by decide +kernel
theorem dX7_go_350 : decode cX7_go 350 = .ok (.goto 11, 3) := by decide +kernel
theorem dX7_go_353 : decode cX7_go 353 = .ok (.aload_n 0, 1) := by decide +kernel
theorem dX7_go_354 : decode cX7_go 354 = .ok (.iload_n 1, 1) := by decide +kernel
theorem dX7_go_355 : decode cX7_go 355 = .ok (.iload_n 3, 1) := by decide +kernel
theorem dX7_go_356 : decode cX7_go 356 = .ok (.bipush 22, 2) := by decide +kernel
theorem dX7_go_358 : decode cX7_go 358 = .ok (.invokevirtual 89, 3) := by decide +kernel
theorem dX7_go_361 : decode cX7_go 361 = .ok (.ireturn, 1) := by decide +kernel
theorem dX7_go_362 : decode cX7_go 362 = .ok (.iconst (-1), 1) := by decide +kernel
theorem dX7_go_363 : decode cX7_go 363 = .ok (.ireturn, 1) := by decide +kernel
theorem dX7_begin_0 : decode cX7_begin 0 = .ok (.aload_n 0, 1) := by decide +kernel
theorem dX7_begin_1 : decode cX7_begin 1 = .ok (.getfield 13, 3) := by decide +kernel
theorem dX7_begin_4 : decode cX7_begin 4 = .ok (.iload_n 1, 1) := by decide +kernel
theorem dX7_begin_5 : decode cX7_begin 5 = .ok (.iload_n 2, 1) := by decide +kernel
theorem dX7_begin_6 : decode cX7_begin 6 = .ok (.bipush 42, 2) := by decide +kernel
theorem dX7_begin_8 : decode cX7_begin 8 = .ok (.if_icmp .ne 7, 3) := by decide +kernel
theorem dX7_begin_11 : decode cX7_begin 11 = .ok (.iconst 1, 1) := by decide +kernel
theorem dX7_begin_12 : decode cX7_begin 12 = .ok (.goto 34, 3) := by decide +kernel
theorem dX7_begin_15 : decode cX7_begin 15 = .ok (.iload_n 2, 1) := by decide +kernel
theorem dX7_begin_16 : decode cX7_begin 16 = .ok (.bipush 102, 2) := by decide +kernel
theorem dX7_begin_18 : decode cX7_begin 18 = .ok (.if_icmp .ne 7, 3) := by decide +kernel
theorem dX7_begin_21 : decode cX7_begin 21 = .ok (.iconst 2, 1) := by decide +kernel
theorem dX7_begin_22 : decode cX7_begin 22 = .ok (.goto 24, 3) := by decide +kernel
theorem dX7_begin_25 : decode cX7_begin 25 = .ok (.iload_n 2, 1) := by decide +kernel
theorem dX7_begin_26 : decode cX7_begin 26 = .ok (.bipush 104, 2) := by decide +kernel
theorem dX7_begin_28 : decode cX7_begin 28 = .ok (.if_icmp .ne 7, 3) := by decide +kernel
theorem dX7_begin_31 : decode cX7_begin 31 = .ok (.iconst 3, 1) := by decide +kernel
theorem dX7_begin_32 : decode cX7_begin 32 = .ok (.goto 14, 3) := by decide +kernel
theorem dX7_begin_35 : decode cX7_begin 35 = .ok (.iload_n 2, 1) := by decide +kernel
theorem dX7_begin_36 : decode cX7_begin 36 = .ok (.bipush 110, 2) := by decide +kernel
theorem dX7_begin_38 : decode cX7_begin 38 = .ok (.if_icmp .ne 7, 3) := by decide +kernel
theorem dX7_begin_41 : decode cX7_begin 41 = .ok (.iconst 4, 1) := by decide +kernel
theorem dX7_begin_42 : decode cX7_begin 42 = .ok (.goto 4, 3) := by decide +kernel
theorem dX7_begin_45 : decode cX7_begin 45 = .ok (.iconst 0, 1) := by decide +kernel
theorem dX7_begin_46 : decode cX7_begin 46 = .ok (.iastore, 1) := by decide +kernel
theorem dX7_begin_47 : decode cX7_begin 47 = .ok (.iload_n 2, 1) := by decide +kernel
theorem dX7_begin_48 : decode cX7_begin 48 = .ok (.bipush 42, 2) := by decide +kernel
theorem dX7_begin_50 : decode cX7_begin 50 = .ok (.if_icmp .ne 7, 3) := by decide +kernel
theorem dX7_begin_53 : decode cX7_begin 53 = .ok (.iconst 1, 1) := by decide +kernel
theorem dX7_begin_54 : decode cX7_begin 54 = .ok (.goto 36, 3) := by decide +kernel
theorem dX7_begin_57 : decode cX7_begin 57 = .ok (.iload_n 2, 1) := by decide +kernel
theorem dX7_begin_58 : decode cX7_begin 58 = .ok (.bipush 102, 2) := by decide +kernel
theorem dX7_begin_60 : decode cX7_begin 60 = .ok (.if_icmp .ne 7, 3) := by decide +kernel
theorem dX7_begin_63 : decode cX7_begin 63 = .ok (.iconst 2, 1) := by decide +kernel
theorem dX7_begin_64 : decode cX7_begin 64 = .ok (.goto 26, 3) := by decide +kernel
theorem dX7_begin_67 : decode cX7_begin 67 = .ok (.iload_n 2, 1) := by decide +kernel
theorem dX7_begin_68 : decode cX7_begin 68 = .ok (.bipush 104, 2) := by decide +kernel
theorem dX7_begin_70 : decode cX7_begin 70 = .ok (.if_icmp .ne 8, 3) := by decide +kernel
theorem dX7_begin_73 : decode cX7_begin 73 = .ok (.bipush 10, 2) := by decide +kernel
theorem dX7_begin_75 : decode cX7_begin 75 = .ok (.goto 15, 3) := by decide +kernel
theorem dX7_begin_78 : decode cX7_begin 78 = .ok (.iload_n 2, 1) := by decide +kernel
theorem dX7_begin_79 : decode cX7_begin 79 = .ok (.bipush 110, 2) := by decide +kernel
theorem dX7_begin_81 : decode cX7_begin 81 = .ok (.if_icmp .ne 8, 3) := by decide +kernel
theorem dX7_begin_84 : decode cX7_begin 84 = .ok (.bipush 20, 2) := by decide +kernel
theorem dX7_begin_86 : decode cX7_begin 86 = .ok (.goto 4, 3) := by decide +kernel
theorem dX7_begin_89 : decode cX7_begin 89 = .ok (.iconst (-1), 1) := by decide +kernel
theorem dX7_begin_90 : decode cX7_begin 90 = .ok (.ireturn, 1) := by decide +kernel
theorem dX7_labelled_0 : decode cX7_labelled 0 = .ok (.iload_n 2, 1) := by decide +kernel
theorem dX7_labelled_1 : decode cX7_labelled 1 = .ok (.invokestatic 101, 3) := by decide +kernel
theorem dX7_labelled_4 : decode cX7_labelled 4 = .ok (.ifCond .ne 5, 3) := by decide +kernel
theorem dX7_labelled_7 : decode cX7_labelled 7 = .ok (.iconst (-1), 1) := by decide +kernel
theorem dX7_labelled_8 : decode cX7_labelled 8 = .ok (.ireturn, 1) := by decide +kernel
theorem dX7_labelled_9 : decode cX7_labelled 9 = .ok (.aload_n 0, 1) := by decide +kernel
theorem dX7_labelled_10 : decode cX7_labelled 10 = .ok (.iload_n 1, 1) := by decide +kernel
theorem dX7_labelled_11 : decode cX7_labelled 11 = .ok (.iload_n 2, 1) := by decide +kernel
theorem dX7_labelled_12 : decode cX7_labelled 12 = .ok (.invokevirtual 105, 3) := by decide +kernel
theorem dX7_labelled_15 : decode cX7_labelled 15 = .ok (.iload_n 3, 1) := by decide +kernel
theorem dX7_labelled_16 : decode cX7_labelled 16 = .ok (.ireturn, 1) := by decide +kernel
theorem dX7_starred_0 : decode cX7_starred 0 = .ok (.aload_n 0, 1) := by decide +kernel
theorem dX7_starred_1 : decode cX7_starred 1 = .ok (.getfield 23, 3) := by decide +kernel
theorem dX7_starred_4 : decode cX7_starred 4 = .ok (.iload_n 1, 1) := by decide +kernel
theorem dX7_starred_5 : decode cX7_starred 5 = .ok (.iload_n 2, 1) := by decide +kernel
theorem dX7_starred_6 : decode cX7_starred 6 = .ok (.iastore, 1) := by decide +kernel
theorem dX7_starred_7 : decode cX7_starred 7 = .ok (.iload_n 3, 1) := by decide +kernel
theorem dX7_starred_8 : decode cX7_starred 8 = .ok (.ireturn, 1) := by decide +kernel
theorem dX7_path_0 : decode cX7_path 0 = .ok (.iload_n 2, 1) := by decide +kernel
theorem dX7_path_1 : decode cX7_path 1 = .ok (.bipush 42, 2) := by decide +kernel
theorem dX7_path_3 : decode cX7_path 3 = .ok (.if_icmp .ne 13, 3) := by decide +kernel
theorem dX7_path_6 : decode cX7_path 6 = .ok (.aload_n 0, 1) := by decide +kernel
theorem dX7_path_7 : decode cX7_path 7 = .ok (.iload_n 1, 1) := by decide +kernel
theorem dX7_path_8 : decode cX7_path 8 = .ok (.iconst 1, 1) := by decide +kernel
theorem dX7_path_9 : decode cX7_path 9 = .ok (.iconst 5, 1) := by decide +kernel
theorem dX7_path_10 : decode cX7_path 10 = .ok (.invokevirtual 97, 3) := by decide +kernel
theorem dX7_path_13 : decode cX7_path 13 = .ok (.goto 26, 3) := by decide +kernel
theorem dX7_path_16 : decode cX7_path 16 = .ok (.iload_n 2, 1) := by decide +kernel
theorem dX7_path_17 : decode cX7_path 17 = .ok (.bipush 45, 2) := by decide +kernel
theorem dX7_path_19 : decode cX7_path 19 = .ok (.if_icmp .ne 13, 3) := by decide +kernel
theorem dX7_path_22 : decode cX7_path 22 = .ok (.aload_n 0, 1) := by decide +kernel
theorem dX7_path_23 : decode cX7_path 23 = .ok (.iload_n 1, 1) := by decide +kernel
theorem dX7_path_24 : decode cX7_path 24 = .ok (.iconst 2, 1) := by decide +kernel
theorem dX7_path_25 : decode cX7_path 25 = .ok (.iconst 5, 1) := by decide +kernel
theorem dX7_path_26 : decode cX7_path 26 = .ok (.invokevirtual 97, 3) := by decide +kernel
theorem dX7_path_29 : decode cX7_path 29 = .ok (.goto 10, 3) := by decide +kernel
theorem dX7_path_32 : decode cX7_path 32 = .ok (.aload_n 0, 1) := by decide +kernel
theorem dX7_path_33 : decode cX7_path 33 = .ok (.iload_n 1, 1) := by decide +kernel
theorem dX7_path_34 : decode cX7_path 34 = .ok (.iload_n 2, 1) := by decide +kernel
theorem dX7_path_35 : decode cX7_path 35 = .ok (.iconst 4, 1) := by decide +kernel
theorem dX7_path_36 : decode cX7_path 36 = .ok (.invokevirtual 89, 3) := by decide +kernel
theorem dX7_path_39 : decode cX7_path 39 = .ok (.ireturn, 1) := by decide +kernel
theorem dX7_letter_0 : decode cX7_letter 0 = .ok (.iload_n 2, 1) := by decide +kernel
theorem dX7_letter_1 : decode cX7_letter 1 = .ok (.invokestatic 109, 3) := by decide +kernel
theorem dX7_letter_4 : decode cX7_letter 4 = .ok (.istore_n 3, 1) := by decide +kernel
theorem dX7_letter_5 : decode cX7_letter 5 = .ok (.iload_n 3, 1) := by decide +kernel
theorem dX7_letter_6 : decode cX7_letter 6 = .ok (.ifCond .eq 14, 3) := by decide +kernel
theorem dX7_letter_9 : decode cX7_letter 9 = .ok (.aload_n 0, 1) := by decide +kernel
theorem dX7_letter_10 : decode cX7_letter 10 = .ok (.getfield 26, 3) := by decide +kernel
theorem dX7_letter_13 : decode cX7_letter 13 = .ok (.iload_n 1, 1) := by decide +kernel
theorem dX7_letter_14 : decode cX7_letter 14 = .ok (.iaload, 1) := by decide +kernel
theorem dX7_letter_15 : decode cX7_letter 15 = .ok (.iload_n 3, 1) := by decide +kernel
theorem dX7_letter_16 : decode cX7_letter 16 = .ok (.iand, 1) := by decide +kernel
theorem dX7_letter_17 : decode cX7_letter 17 = .ok (.ifCond .eq 5, 3) := by decide +kernel
theorem dX7_letter_20 : decode cX7_letter 20 = .ok (.iconst (-1), 1) := by decide +kernel
theorem dX7_letter_21 : decode cX7_letter 21 = .ok (.ireturn, 1) := by decide +kernel
theorem dX7_letter_22 : decode cX7_letter 22 = .ok (.aload_n 0, 1) := by decide +kernel
theorem dX7_letter_23 : decode cX7_letter 23 = .ok (.getfield 26, 3) := by decide +kernel
theorem dX7_letter_26 : decode cX7_letter 26 = .ok (.iload_n 1, 1) := by decide +kernel
theorem dX7_letter_27 : decode cX7_letter 27 = .ok (.aload_n 0, 1) := by decide +kernel
theorem dX7_letter_28 : decode cX7_letter 28 = .ok (.getfield 26, 3) := by decide +kernel
theorem dX7_letter_31 : decode cX7_letter 31 = .ok (.iload_n 1, 1) := by decide +kernel
theorem dX7_letter_32 : decode cX7_letter 32 = .ok (.iaload, 1) := by decide +kernel
theorem dX7_letter_33 : decode cX7_letter 33 = .ok (.iload_n 3, 1) := by decide +kernel
theorem dX7_letter_34 : decode cX7_letter 34 = .ok (.ior, 1) := by decide +kernel
theorem dX7_letter_35 : decode cX7_letter 35 = .ok (.iastore, 1) := by decide +kernel
theorem dX7_letter_36 : decode cX7_letter 36 = .ok (.bipush 6, 2) := by decide +kernel
theorem dX7_letter_38 : decode cX7_letter 38 = .ok (.ireturn, 1) := by decide +kernel
theorem dX7_host_0 : decode cX7_host 0 = .ok (.iload_n 2, 1) := by decide +kernel
theorem dX7_host_1 : decode cX7_host 1 = .ok (.bipush 42, 2) := by decide +kernel
theorem dX7_host_3 : decode cX7_host 3 = .ok (.if_icmp .ne 14, 3) := by decide +kernel
theorem dX7_host_6 : decode cX7_host 6 = .ok (.aload_n 0, 1) := by decide +kernel
theorem dX7_host_7 : decode cX7_host 7 = .ok (.iload_n 1, 1) := by decide +kernel
theorem dX7_host_8 : decode cX7_host 8 = .ok (.iconst 1, 1) := by decide +kernel
theorem dX7_host_9 : decode cX7_host 9 = .ok (.bipush 11, 2) := by decide +kernel
theorem dX7_host_11 : decode cX7_host 11 = .ok (.invokevirtual 97, 3) := by decide +kernel
theorem dX7_host_14 : decode cX7_host 14 = .ok (.goto 11, 3) := by decide +kernel
theorem dX7_host_17 : decode cX7_host 17 = .ok (.aload_n 0, 1) := by decide +kernel
theorem dX7_host_18 : decode cX7_host 18 = .ok (.iload_n 1, 1) := by decide +kernel
theorem dX7_host_19 : decode cX7_host 19 = .ok (.iload_n 2, 1) := by decide +kernel
theorem dX7_host_20 : decode cX7_host 20 = .ok (.bipush 13, 2) := by decide +kernel
theorem dX7_host_22 : decode cX7_host 22 = .ok (.invokevirtual 89, 3) := by decide +kernel
theorem dX7_host_25 : decode cX7_host 25 = .ok (.ireturn, 1) := by decide +kernel
theorem dX7_range_0 : decode cX7_range 0 = .ok (.iload_n 3, 1) := by decide +kernel
theorem dX7_range_1 : decode cX7_range 1 = .ok (.bipush 45, 2) := by decide +kernel
theorem dX7_range_3 : decode cX7_range 3 = .ok (.if_icmp .ne 53, 3) := by decide +kernel
theorem dX7_range_6 : decode cX7_range 6 = .ok (.iload_n 2, 1) := by decide +kernel
theorem dX7_range_7 : decode cX7_range 7 = .ok (.bipush 16, 2) := by decide +kernel
theorem dX7_range_9 : decode cX7_range 9 = .ok (.if_icmp .ge 47, 3) := by decide +kernel
theorem dX7_range_12 : decode cX7_range 12 = .ok (.aload_n 0, 1) := by decide +kernel
theorem dX7_range_13 : decode cX7_range 13 = .ok (.getfield 29, 3) := by decide +kernel
theorem dX7_range_16 : decode cX7_range 16 = .ok (.iload_n 1, 1) := by decide +kernel
theorem dX7_range_17 : decode cX7_range 17 = .ok (.iload_n 2, 1) := by decide +kernel
theorem dX7_range_18 : decode cX7_range 18 = .ok (.bipush 14, 2) := by decide +kernel
theorem dX7_range_20 : decode cX7_range 20 = .ok (.if_icmp .ne 7, 3) := by decide +kernel
theorem dX7_range_23 : decode cX7_range 23 = .ok (.iconst 0, 1) := by decide +kernel
theorem dX7_range_24 : decode cX7_range 24 = .ok (.goto 9, 3) := by decide +kernel
theorem dX7_range_27 : decode cX7_range 27 = .ok (.aload_n 0, 1) := by decide +kernel
theorem dX7_range_28 : decode cX7_range 28 = .ok (.getfield 29, 3) := by decide +kernel
theorem dX7_range_31 : decode cX7_range 31 = .ok (.iload_n 1, 1) := by decide +kernel
theorem dX7_range_32 : decode cX7_range 32 = .ok (.iaload, 1) := by decide +kernel
theorem dX7_range_33 : decode cX7_range 33 = .ok (.iastore, 1) := by decide +kernel
theorem dX7_range_34 : decode cX7_range 34 = .ok (.aload_n 0, 1) := by decide +kernel
theorem dX7_range_35 : decode cX7_range 35 = .ok (.getfield 32, 3) := by decide +kernel
theorem dX7_range_38 : decode cX7_range 38 = .ok (.iload_n 1, 1) := by decide +kernel
theorem dX7_range_39 : decode cX7_range 39 = .ok (.bipush 9, 2) := by decide +kernel
theorem dX7_range_41 : decode cX7_range 41 = .ok (.iastore, 1) := by decide +kernel
theorem dX7_range_42 : decode cX7_range 42 = .ok (.iload_n 2, 1) := by decide +kernel
theorem dX7_range_43 : decode cX7_range 43 = .ok (.bipush 14, 2) := by decide +kernel
theorem dX7_range_45 : decode cX7_range 45 = .ok (.if_icmp .ne 8, 3) := by decide +kernel
theorem dX7_range_48 : decode cX7_range 48 = .ok (.bipush 18, 2) := by decide +kernel
theorem dX7_range_50 : decode cX7_range 50 = .ok (.goto 5, 3) := by decide +kernel
theorem dX7_range_53 : decode cX7_range 53 = .ok (.bipush 16, 2) := by decide +kernel
theorem dX7_range_55 : decode cX7_range 55 = .ok (.ireturn, 1) := by decide +kernel
theorem dX7_range_56 : decode cX7_range 56 = .ok (.iload_n 3, 1) := by decide +kernel
theorem dX7_range_57 : decode cX7_range 57 = .ok (.invokestatic 113, 3) := by decide +kernel
theorem dX7_range_60 : decode cX7_range 60 = .ok (.ifCond .eq 28, 3) := by decide +kernel
theorem dX7_range_63 : decode cX7_range 63 = .ok (.iload_n 2, 1) := by decide +kernel
theorem dX7_range_64 : decode cX7_range 64 = .ok (.bipush 15, 2) := by decide +kernel
theorem dX7_range_66 : decode cX7_range 66 = .ok (.if_icmp .eq 22, 3) := by decide +kernel
theorem dX7_range_69 : decode cX7_range 69 = .ok (.iload_n 2, 1) := by decide +kernel
theorem dX7_range_70 : decode cX7_range 70 = .ok (.bipush 16, 2) := by decide +kernel
theorem dX7_range_72 : decode cX7_range 72 = .ok (.if_icmp .ne 18, 3) := by decide +kernel
theorem dX7_range_75 : decode cX7_range 75 = .ok (.iload_n 3, 1) := by decide +kernel
theorem dX7_range_76 : decode cX7_range 76 = .ok (.bipush 48, 2) := by decide +kernel
theorem dX7_range_78 : decode cX7_range 78 = .ok (.isub, 1) := by decide +kernel
theorem dX7_range_79 : decode cX7_range 79 = .ok (.aload_n 0, 1) := by decide +kernel
theorem dX7_range_80 : decode cX7_range 80 = .ok (.getfield 29, 3) := by decide +kernel
theorem dX7_range_83 : decode cX7_range 83 = .ok (.iload_n 1, 1) := by decide +kernel
theorem dX7_range_84 : decode cX7_range 84 = .ok (.iaload, 1) := by decide +kernel
theorem dX7_range_85 : decode cX7_range 85 = .ok (.if_icmp .ge 5, 3) := by decide +kernel
theorem dX7_range_88 : decode cX7_range 88 = .ok (.iconst (-1), 1) := by decide +kernel
theorem dX7_range_89 : decode cX7_range 89 = .ok (.ireturn, 1) := by decide +kernel
theorem dX7_range_90 : decode cX7_range 90 = .ok (.aload_n 0, 1) := by decide +kernel
theorem dX7_range_91 : decode cX7_range 91 = .ok (.getfield 29, 3) := by decide +kernel
theorem dX7_range_94 : decode cX7_range 94 = .ok (.iload_n 1, 1) := by decide +kernel
theorem dX7_range_95 : decode cX7_range 95 = .ok (.iload_n 2, 1) := by decide +kernel
theorem dX7_range_96 : decode cX7_range 96 = .ok (.bipush 14, 2) := by decide +kernel
theorem dX7_range_98 : decode cX7_range 98 = .ok (.if_icmp .ne 10, 3) := by decide +kernel
theorem dX7_range_101 : decode cX7_range 101 = .ok (.iload_n 3, 1) := by decide +kernel
theorem dX7_range_102 : decode cX7_range 102 = .ok (.bipush 48, 2) := by decide +kernel
theorem dX7_range_104 : decode cX7_range 104 = .ok (.isub, 1) := by decide +kernel
theorem dX7_range_105 : decode cX7_range 105 = .ok (.goto 9, 3) := by decide +kernel
theorem dX7_range_108 : decode cX7_range 108 = .ok (.aload_n 0, 1) := by decide +kernel
theorem dX7_range_109 : decode cX7_range 109 = .ok (.getfield 29, 3) := by decide +kernel
theorem dX7_range_112 : decode cX7_range 112 = .ok (.iload_n 1, 1) := by decide +kernel
theorem dX7_range_113 : decode cX7_range 113 = .ok (.iaload, 1) := by decide +kernel
theorem dX7_range_114 : decode cX7_range 114 = .ok (.iastore, 1) := by decide +kernel
theorem dX7_range_115 : decode cX7_range 115 = .ok (.aload_n 0, 1) := by decide +kernel
theorem dX7_range_116 : decode cX7_range 116 = .ok (.getfield 32, 3) := by decide +kernel
theorem dX7_range_119 : decode cX7_range 119 = .ok (.iload_n 1, 1) := by decide +kernel
theorem dX7_range_120 : decode cX7_range 120 = .ok (.iload_n 3, 1) := by decide +kernel
theorem dX7_range_121 : decode cX7_range 121 = .ok (.bipush 48, 2) := by decide +kernel
theorem dX7_range_123 : decode cX7_range 123 = .ok (.isub, 1) := by decide +kernel
theorem dX7_range_124 : decode cX7_range 124 = .ok (.iastore, 1) := by decide +kernel
theorem dX7_range_125 : decode cX7_range 125 = .ok (.iload_n 2, 1) := by decide +kernel
theorem dX7_range_126 : decode cX7_range 126 = .ok (.bipush 14, 2) := by decide +kernel
theorem dX7_range_128 : decode cX7_range 128 = .ok (.if_icmp .ne 8, 3) := by decide +kernel
theorem dX7_range_131 : decode cX7_range 131 = .ok (.bipush 15, 2) := by decide +kernel
theorem dX7_range_133 : decode cX7_range 133 = .ok (.goto 5, 3) := by decide +kernel
theorem dX7_range_136 : decode cX7_range 136 = .ok (.bipush 17, 2) := by decide +kernel
theorem dX7_range_138 : decode cX7_range 138 = .ok (.ireturn, 1) := by decide +kernel
theorem dX7_whole_0 : decode cX7_whole 0 = .ok (.iload_n 0, 1) := by decide +kernel
theorem dX7_whole_1 : decode cX7_whole 1 = .ok (.iconst 1, 1) := by decide +kernel
theorem dX7_whole_2 : decode cX7_whole 2 = .ok (.if_icmp .eq 43, 3) := by decide +kernel
theorem dX7_whole_5 : decode cX7_whole 5 = .ok (.iload_n 0, 1) := by decide +kernel
theorem dX7_whole_6 : decode cX7_whole 6 = .ok (.bipush 6, 2) := by decide +kernel
theorem dX7_whole_8 : decode cX7_whole 8 = .ok (.if_icmp .ne 7, 3) := by decide +kernel
theorem dX7_whole_11 : decode cX7_whole 11 = .ok (.iload_n 1, 1) := by decide +kernel
theorem dX7_whole_12 : decode cX7_whole 12 = .ok (.ifCond .gt 33, 3) := by decide +kernel
theorem dX7_whole_15 : decode cX7_whole 15 = .ok (.iload_n 0, 1) := by decide +kernel
theorem dX7_whole_16 : decode cX7_whole 16 = .ok (.bipush 15, 2) := by decide +kernel
theorem dX7_whole_18 : decode cX7_whole 18 = .ok (.if_icmp .eq 27, 3) := by decide +kernel
theorem dX7_whole_21 : decode cX7_whole 21 = .ok (.iload_n 0, 1) := by decide +kernel
theorem dX7_whole_22 : decode cX7_whole 22 = .ok (.bipush 16, 2) := by decide +kernel
theorem dX7_whole_24 : decode cX7_whole 24 = .ok (.if_icmp .eq 21, 3) := by decide +kernel
theorem dX7_whole_27 : decode cX7_whole 27 = .ok (.iload_n 0, 1) := by decide +kernel
theorem dX7_whole_28 : decode cX7_whole 28 = .ok (.bipush 17, 2) := by decide +kernel
theorem dX7_whole_30 : decode cX7_whole 30 = .ok (.if_icmp .eq 15, 3) := by decide +kernel
theorem dX7_whole_33 : decode cX7_whole 33 = .ok (.iload_n 0, 1) := by decide +kernel
theorem dX7_whole_34 : decode cX7_whole 34 = .ok (.bipush 21, 2) := by decide +kernel
theorem dX7_whole_36 : decode cX7_whole 36 = .ok (.if_icmp .eq 9, 3) := by decide +kernel
theorem dX7_whole_39 : decode cX7_whole 39 = .ok (.iload_n 0, 1) := by decide +kernel
theorem dX7_whole_40 : decode cX7_whole 40 = .ok (.bipush 22, 2) := by decide +kernel
theorem dX7_whole_42 : decode cX7_whole 42 = .ok (.if_icmp .ne 7, 3) := by decide +kernel
theorem dX7_whole_45 : decode cX7_whole 45 = .ok (.iconst 1, 1) := by decide +kernel
theorem dX7_whole_46 : decode cX7_whole 46 = .ok (.goto 4, 3) := by decide +kernel
theorem dX7_whole_49 : decode cX7_whole 49 = .ok (.iconst 0, 1) := by decide +kernel
theorem dX7_whole_50 : decode cX7_whole 50 = .ok (.ireturn, 1) := by decide +kernel
theorem dX7_read_0 : decode cX7_read 0 = .ok (.aload_n 0, 1) := by decide +kernel
theorem dX7_read_1 : decode cX7_read 1 = .ok (.getfield 17, 3) := by decide +kernel
theorem dX7_read_4 : decode cX7_read 4 = .ok (.iload_n 1, 1) := by decide +kernel
theorem dX7_read_5 : decode cX7_read 5 = .ok (.iconst 0, 1) := by decide +kernel
theorem dX7_read_6 : decode cX7_read 6 = .ok (.iastore, 1) := by decide +kernel
theorem dX7_read_7 : decode cX7_read 7 = .ok (.aload_n 0, 1) := by decide +kernel
theorem dX7_read_8 : decode cX7_read 8 = .ok (.getfield 23, 3) := by decide +kernel
theorem dX7_read_11 : decode cX7_read 11 = .ok (.iload_n 1, 1) := by decide +kernel
theorem dX7_read_12 : decode cX7_read 12 = .ok (.iconst 0, 1) := by decide +kernel
theorem dX7_read_13 : decode cX7_read 13 = .ok (.iastore, 1) := by decide +kernel
theorem dX7_read_14 : decode cX7_read 14 = .ok (.aload_n 0, 1) := by decide +kernel
theorem dX7_read_15 : decode cX7_read 15 = .ok (.getfield 26, 3) := by decide +kernel
theorem dX7_read_18 : decode cX7_read 18 = .ok (.iload_n 1, 1) := by decide +kernel
theorem dX7_read_19 : decode cX7_read 19 = .ok (.iconst 0, 1) := by decide +kernel
theorem dX7_read_20 : decode cX7_read 20 = .ok (.iastore, 1) := by decide +kernel
theorem dX7_read_21 : decode cX7_read 21 = .ok (.aload_n 0, 1) := by decide +kernel
theorem dX7_read_22 : decode cX7_read 22 = .ok (.getfield 29, 3) := by decide +kernel
theorem dX7_read_25 : decode cX7_read 25 = .ok (.iload_n 1, 1) := by decide +kernel
theorem dX7_read_26 : decode cX7_read 26 = .ok (.iconst 0, 1) := by decide +kernel
theorem dX7_read_27 : decode cX7_read 27 = .ok (.iastore, 1) := by decide +kernel
theorem dX7_read_28 : decode cX7_read 28 = .ok (.aload_n 0, 1) := by decide +kernel
theorem dX7_read_29 : decode cX7_read 29 = .ok (.getfield 32, 3) := by decide +kernel
theorem dX7_read_32 : decode cX7_read 32 = .ok (.iload_n 1, 1) := by decide +kernel
theorem dX7_read_33 : decode cX7_read 33 = .ok (.iconst 0, 1) := by decide +kernel
theorem dX7_read_34 : decode cX7_read 34 = .ok (.iastore, 1) := by decide +kernel
theorem dX7_read_35 : decode cX7_read 35 = .ok (.aload_n 0, 1) := by decide +kernel
theorem dX7_read_36 : decode cX7_read 36 = .ok (.getfield 13, 3) := by decide +kernel
theorem dX7_read_39 : decode cX7_read 39 = .ok (.iload_n 1, 1) := by decide +kernel
theorem dX7_read_40 : decode cX7_read 40 = .ok (.iconst 0, 1) := by decide +kernel
theorem dX7_read_41 : decode cX7_read 41 = .ok (.iastore, 1) := by decide +kernel
theorem dX7_read_42 : decode cX7_read 42 = .ok (.iconst 0, 1) := by decide +kernel
theorem dX7_read_43 : decode cX7_read 43 = .ok (.istore_n 2, 1) := by decide +kernel
theorem dX7_read_44 : decode cX7_read 44 = .ok (.iconst 0, 1) := by decide +kernel
theorem dX7_read_45 : decode cX7_read 45 = .ok (.istore_n 3, 1) := by decide +kernel
theorem dX7_read_46 : decode cX7_read 46 = .ok (.iload_n 3, 1) := by decide +kernel
theorem dX7_read_47 : decode cX7_read 47 = .ok (.aload_n 0, 1) := by decide +kernel
theorem dX7_read_48 : decode cX7_read 48 = .ok (.getfield 73, 3) := by decide +kernel
theorem dX7_read_51 : decode cX7_read 51 = .ok (.if_icmp .ge 28, 3) := by decide +kernel
theorem dX7_read_54 : decode cX7_read 54 = .ok (.aload_n 0, 1) := by decide +kernel
theorem dX7_read_55 : decode cX7_read 55 = .ok (.iload_n 1, 1) := by decide +kernel
theorem dX7_read_56 : decode cX7_read 56 = .ok (.iload_n 2, 1) := by decide +kernel
theorem dX7_read_57 : decode cX7_read 57 = .ok (.aload_n 0, 1) := by decide +kernel
theorem dX7_read_58 : decode cX7_read 58 = .ok (.getfield 7, 3) := by decide +kernel
theorem dX7_read_61 : decode cX7_read 61 = .ok (.iload_n 3, 1) := by decide +kernel
theorem dX7_read_62 : decode cX7_read 62 = .ok (.caload, 1) := by decide +kernel
theorem dX7_read_63 : decode cX7_read 63 = .ok (.invokevirtual 116, 3) := by decide +kernel
theorem dX7_read_66 : decode cX7_read 66 = .ok (.istore_n 2, 1) := by decide +kernel
theorem dX7_read_67 : decode cX7_read 67 = .ok (.iload_n 2, 1) := by decide +kernel
theorem dX7_read_68 : decode cX7_read 68 = .ok (.ifCond .ge 5, 3) := by decide +kernel
theorem dX7_read_71 : decode cX7_read 71 = .ok (.iload_n 3, 1) := by decide +kernel
theorem dX7_read_72 : decode cX7_read 72 = .ok (.ireturn, 1) := by decide +kernel
theorem dX7_read_73 : decode cX7_read 73 = .ok (.iinc 3 1, 3) := by decide +kernel
theorem dX7_read_76 : decode cX7_read 76 = .ok (.goto (-30), 3) := by decide +kernel
theorem dX7_read_79 : decode cX7_read 79 = .ok (.iload_n 2, 1) := by decide +kernel
theorem dX7_read_80 : decode cX7_read 80 = .ok (.aload_n 0, 1) := by decide +kernel
theorem dX7_read_81 : decode cX7_read 81 = .ok (.getfield 26, 3) := by decide +kernel
theorem dX7_read_84 : decode cX7_read 84 = .ok (.iload_n 1, 1) := by decide +kernel
theorem dX7_read_85 : decode cX7_read 85 = .ok (.iaload, 1) := by decide +kernel
theorem dX7_read_86 : decode cX7_read 86 = .ok (.invokestatic 119, 3) := by decide +kernel
theorem dX7_read_89 : decode cX7_read 89 = .ok (.ifCond .eq 7, 3) := by decide +kernel
theorem dX7_read_92 : decode cX7_read 92 = .ok (.iconst (-1), 1) := by decide +kernel
theorem dX7_read_93 : decode cX7_read 93 = .ok (.goto 7, 3) := by decide +kernel
theorem dX7_read_96 : decode cX7_read 96 = .ok (.aload_n 0, 1) := by decide +kernel
theorem dX7_read_97 : decode cX7_read 97 = .ok (.getfield 73, 3) := by decide +kernel
theorem dX7_read_100 : decode cX7_read 100 = .ok (.ireturn, 1) := by decide +kernel
theorem dX7_copy_0 : decode cX7_copy 0 = .ok (.aload_n 0, 1) := by decide +kernel
theorem dX7_copy_1 : decode cX7_copy 1 = .ok (.getfield 13, 3) := by decide +kernel
theorem dX7_copy_4 : decode cX7_copy 4 = .ok (.iload_n 2, 1) := by decide +kernel
theorem dX7_copy_5 : decode cX7_copy 5 = .ok (.aload_n 0, 1) := by decide +kernel
theorem dX7_copy_6 : decode cX7_copy 6 = .ok (.getfield 13, 3) := by decide +kernel
theorem dX7_copy_9 : decode cX7_copy 9 = .ok (.iload_n 1, 1) := by decide +kernel
theorem dX7_copy_10 : decode cX7_copy 10 = .ok (.iaload, 1) := by decide +kernel
theorem dX7_copy_11 : decode cX7_copy 11 = .ok (.iastore, 1) := by decide +kernel
theorem dX7_copy_12 : decode cX7_copy 12 = .ok (.aload_n 0, 1) := by decide +kernel
theorem dX7_copy_13 : decode cX7_copy 13 = .ok (.getfield 17, 3) := by decide +kernel
theorem dX7_copy_16 : decode cX7_copy 16 = .ok (.iload_n 2, 1) := by decide +kernel
theorem dX7_copy_17 : decode cX7_copy 17 = .ok (.aload_n 0, 1) := by decide +kernel
theorem dX7_copy_18 : decode cX7_copy 18 = .ok (.getfield 17, 3) := by decide +kernel
theorem dX7_copy_21 : decode cX7_copy 21 = .ok (.iload_n 1, 1) := by decide +kernel
theorem dX7_copy_22 : decode cX7_copy 22 = .ok (.iaload, 1) := by decide +kernel
theorem dX7_copy_23 : decode cX7_copy 23 = .ok (.iastore, 1) := by decide +kernel
theorem dX7_copy_24 : decode cX7_copy 24 = .ok (.aload_n 0, 1) := by decide +kernel
theorem dX7_copy_25 : decode cX7_copy 25 = .ok (.getfield 23, 3) := by decide +kernel
theorem dX7_copy_28 : decode cX7_copy 28 = .ok (.iload_n 2, 1) := by decide +kernel
theorem dX7_copy_29 : decode cX7_copy 29 = .ok (.aload_n 0, 1) := by decide +kernel
theorem dX7_copy_30 : decode cX7_copy 30 = .ok (.getfield 23, 3) := by decide +kernel
theorem dX7_copy_33 : decode cX7_copy 33 = .ok (.iload_n 1, 1) := by decide +kernel
theorem dX7_copy_34 : decode cX7_copy 34 = .ok (.iaload, 1) := by decide +kernel
theorem dX7_copy_35 : decode cX7_copy 35 = .ok (.iastore, 1) := by decide +kernel
theorem dX7_copy_36 : decode cX7_copy 36 = .ok (.aload_n 0, 1) := by decide +kernel
theorem dX7_copy_37 : decode cX7_copy 37 = .ok (.getfield 26, 3) := by decide +kernel
theorem dX7_copy_40 : decode cX7_copy 40 = .ok (.iload_n 2, 1) := by decide +kernel
theorem dX7_copy_41 : decode cX7_copy 41 = .ok (.aload_n 0, 1) := by decide +kernel
theorem dX7_copy_42 : decode cX7_copy 42 = .ok (.getfield 26, 3) := by decide +kernel
theorem dX7_copy_45 : decode cX7_copy 45 = .ok (.iload_n 1, 1) := by decide +kernel
theorem dX7_copy_46 : decode cX7_copy 46 = .ok (.iaload, 1) := by decide +kernel
theorem dX7_copy_47 : decode cX7_copy 47 = .ok (.iastore, 1) := by decide +kernel
theorem dX7_copy_48 : decode cX7_copy 48 = .ok (.aload_n 0, 1) := by decide +kernel
theorem dX7_copy_49 : decode cX7_copy 49 = .ok (.getfield 29, 3) := by decide +kernel
theorem dX7_copy_52 : decode cX7_copy 52 = .ok (.iload_n 2, 1) := by decide +kernel
theorem dX7_copy_53 : decode cX7_copy 53 = .ok (.aload_n 0, 1) := by decide +kernel
theorem dX7_copy_54 : decode cX7_copy 54 = .ok (.getfield 29, 3) := by decide +kernel
theorem dX7_copy_57 : decode cX7_copy 57 = .ok (.iload_n 1, 1) := by decide +kernel
theorem dX7_copy_58 : decode cX7_copy 58 = .ok (.iaload, 1) := by decide +kernel
theorem dX7_copy_59 : decode cX7_copy 59 = .ok (.iastore, 1) := by decide +kernel
theorem dX7_copy_60 : decode cX7_copy 60 = .ok (.aload_n 0, 1) := by decide +kernel
theorem dX7_copy_61 : decode cX7_copy 61 = .ok (.getfield 32, 3) := by decide +kernel
theorem dX7_copy_64 : decode cX7_copy 64 = .ok (.iload_n 2, 1) := by decide +kernel
theorem dX7_copy_65 : decode cX7_copy 65 = .ok (.aload_n 0, 1) := by decide +kernel
theorem dX7_copy_66 : decode cX7_copy 66 = .ok (.getfield 32, 3) := by decide +kernel
theorem dX7_copy_69 : decode cX7_copy 69 = .ok (.iload_n 1, 1) := by decide +kernel
theorem dX7_copy_70 : decode cX7_copy 70 = .ok (.iaload, 1) := by decide +kernel
theorem dX7_copy_71 : decode cX7_copy 71 = .ok (.iastore, 1) := by decide +kernel
theorem dX7_copy_72 : decode cX7_copy 72 = .ok (.iconst 0, 1) := by decide +kernel
theorem dX7_copy_73 : decode cX7_copy 73 = .ok (.istore_n 3, 1) := by decide +kernel
theorem dX7_copy_74 : decode cX7_copy 74 = .ok (.iload_n 3, 1) := by decide +kernel
theorem dX7_copy_75 : decode cX7_copy 75 = .ok (.iconst 3, 1) := by decide +kernel
theorem dX7_copy_76 : decode cX7_copy 76 = .ok (.if_icmp .ge 29, 3) := by decide +kernel
theorem dX7_copy_79 : decode cX7_copy 79 = .ok (.aload_n 0, 1) := by decide +kernel
theorem dX7_copy_80 : decode cX7_copy 80 = .ok (.getfield 20, 3) := by decide +kernel
theorem dX7_copy_83 : decode cX7_copy 83 = .ok (.iconst 3, 1) := by decide +kernel
theorem dX7_copy_84 : decode cX7_copy 84 = .ok (.iload_n 2, 1) := by decide +kernel
theorem dX7_copy_85 : decode cX7_copy 85 = .ok (.imul, 1) := by decide +kernel
theorem dX7_copy_86 : decode cX7_copy 86 = .ok (.iload_n 3, 1) := by decide +kernel
theorem dX7_copy_87 : decode cX7_copy 87 = .ok (.iadd, 1) := by decide +kernel
theorem dX7_copy_88 : decode cX7_copy 88 = .ok (.aload_n 0, 1) := by decide +kernel
theorem dX7_copy_89 : decode cX7_copy 89 = .ok (.getfield 20, 3) := by decide +kernel
theorem dX7_copy_92 : decode cX7_copy 92 = .ok (.iconst 3, 1) := by decide +kernel
theorem dX7_copy_93 : decode cX7_copy 93 = .ok (.iload_n 1, 1) := by decide +kernel
theorem dX7_copy_94 : decode cX7_copy 94 = .ok (.imul, 1) := by decide +kernel
theorem dX7_copy_95 : decode cX7_copy 95 = .ok (.iload_n 3, 1) := by decide +kernel
theorem dX7_copy_96 : decode cX7_copy 96 = .ok (.iadd, 1) := by decide +kernel
theorem dX7_copy_97 : decode cX7_copy 97 = .ok (.iaload, 1) := by decide +kernel
theorem dX7_copy_98 : decode cX7_copy 98 = .ok (.iastore, 1) := by decide +kernel
theorem dX7_copy_99 : decode cX7_copy 99 = .ok (.iinc 3 1, 3) := by decide +kernel
theorem dX7_copy_102 : decode cX7_copy 102 = .ok (.goto (-28), 3) := by decide +kernel
theorem dX7_copy_105 : decode cX7_copy 105 = .ok (.return_, 1) := by decide +kernel
theorem dX7_keep_0 : decode cX7_keep 0 = .ok (.aload_n 0, 1) := by decide +kernel
theorem dX7_keep_1 : decode cX7_keep 1 = .ok (.iconst 0, 1) := by decide +kernel
theorem dX7_keep_2 : decode cX7_keep 2 = .ok (.putfield 69, 3) := by decide +kernel
theorem dX7_keep_5 : decode cX7_keep 5 = .ok (.iload_n 1, 1) := by decide +kernel
theorem dX7_keep_6 : decode cX7_keep 6 = .ok (.iconst 0, 1) := by decide +kernel
theorem dX7_keep_7 : decode cX7_keep 7 = .ok (.bipush 7, 2) := by decide +kernel
theorem dX7_keep_9 : decode cX7_keep 9 = .ok (.invokestatic 123, 3) := by decide +kernel
theorem dX7_keep_12 : decode cX7_keep 12 = .ok (.ifCond .ne 9, 3) := by decide +kernel
theorem dX7_keep_15 : decode cX7_keep 15 = .ok (.aload_n 0, 1) := by decide +kernel
theorem dX7_keep_16 : decode cX7_keep 16 = .ok (.iconst 1, 1) := by decide +kernel
theorem dX7_keep_17 : decode cX7_keep 17 = .ok (.invokevirtual 127, 3) := by decide +kernel
theorem dX7_keep_20 : decode cX7_keep 20 = .ok (.ireturn, 1) := by decide +kernel
theorem dX7_keep_21 : decode cX7_keep 21 = .ok (.aload_n 0, 1) := by decide +kernel
theorem dX7_keep_22 : decode cX7_keep 22 = .ok (.bipush 84, 2) := by decide +kernel
theorem dX7_keep_24 : decode cX7_keep 24 = .ok (.invokevirtual 131, 3) := by decide +kernel
theorem dX7_keep_27 : decode cX7_keep 27 = .ok (.istore_n 2, 1) := by decide +kernel
theorem dX7_keep_28 : decode cX7_keep 28 = .ok (.aload_n 0, 1) := by decide +kernel
theorem dX7_keep_29 : decode cX7_keep 29 = .ok (.iconst 0, 1) := by decide +kernel
theorem dX7_keep_30 : decode cX7_keep 30 = .ok (.putfield 73, 3) := by decide +kernel
theorem dX7_keep_33 : decode cX7_keep 33 = .ok (.iload_n 2, 1) := by decide +kernel
theorem dX7_keep_34 : decode cX7_keep 34 = .ok (.ifCond .lt 7, 3) := by decide +kernel
theorem dX7_keep_37 : decode cX7_keep 37 = .ok (.iconst 1, 1) := by decide +kernel
theorem dX7_keep_38 : decode cX7_keep 38 = .ok (.iload_n 2, 1) := by decide +kernel
theorem dX7_keep_39 : decode cX7_keep 39 = .ok (.iadd, 1) := by decide +kernel
theorem dX7_keep_40 : decode cX7_keep 40 = .ok (.ireturn, 1) := by decide +kernel
theorem dX7_keep_41 : decode cX7_keep 41 = .ok (.aload_n 0, 1) := by decide +kernel
theorem dX7_keep_42 : decode cX7_keep 42 = .ok (.bipush 84, 2) := by decide +kernel
theorem dX7_keep_44 : decode cX7_keep 44 = .ok (.iload_n 1, 1) := by decide +kernel
theorem dX7_keep_45 : decode cX7_keep 45 = .ok (.invokevirtual 134, 3) := by decide +kernel
theorem dX7_keep_48 : decode cX7_keep 48 = .ok (.iconst 0, 1) := by decide +kernel
theorem dX7_keep_49 : decode cX7_keep 49 = .ok (.ireturn, 1) := by decide +kernel
theorem dX7_put_0 : decode cX7_put 0 = .ok (.aload_n 0, 1) := by decide +kernel
theorem dX7_put_1 : decode cX7_put 1 = .ok (.getfield 35, 3) := by decide +kernel
theorem dX7_put_4 : decode cX7_put 4 = .ok (.aload_n 0, 1) := by decide +kernel
theorem dX7_put_5 : decode cX7_put 5 = .ok (.getfield 138, 3) := by decide +kernel
theorem dX7_put_8 : decode cX7_put 8 = .ok (.iload_n 1, 1) := by decide +kernel
theorem dX7_put_9 : decode cX7_put 9 = .ok (.i2c, 1) := by decide +kernel
theorem dX7_put_10 : decode cX7_put 10 = .ok (.castore, 1) := by decide +kernel
theorem dX7_put_11 : decode cX7_put 11 = .ok (.aload_n 0, 1) := by decide +kernel
theorem dX7_put_12 : decode cX7_put 12 = .ok (.dup, 1) := by decide +kernel
theorem dX7_put_13 : decode cX7_put 13 = .ok (.getfield 138, 3) := by decide +kernel
theorem dX7_put_16 : decode cX7_put 16 = .ok (.iconst 1, 1) := by decide +kernel
theorem dX7_put_17 : decode cX7_put 17 = .ok (.iadd, 1) := by decide +kernel
theorem dX7_put_18 : decode cX7_put 18 = .ok (.putfield 138, 3) := by decide +kernel
theorem dX7_put_21 : decode cX7_put 21 = .ok (.return_, 1) := by decide +kernel
theorem dX7_putLabels_0 : decode cX7_putLabels 0 = .ok (.iconst 0, 1) := by decide +kernel
theorem dX7_putLabels_1 : decode cX7_putLabels 1 = .ok (.istore_n 3, 1) := by decide +kernel
theorem dX7_putLabels_2 : decode cX7_putLabels 2 = .ok (.iload_n 3, 1) := by decide +kernel
theorem dX7_putLabels_3 : decode cX7_putLabels 3 = .ok (.aload_n 0, 1) := by decide +kernel
theorem dX7_putLabels_4 : decode cX7_putLabels 4 = .ok (.getfield 17, 3) := by decide +kernel
theorem dX7_putLabels_7 : decode cX7_putLabels 7 = .ok (.iload_n 1, 1) := by decide +kernel
theorem dX7_putLabels_8 : decode cX7_putLabels 8 = .ok (.iaload, 1) := by decide +kernel
theorem dX7_putLabels_9 : decode cX7_putLabels 9 = .ok (.if_icmp .ge 41, 3) := by decide +kernel
theorem dX7_putLabels_12 : decode cX7_putLabels 12 = .ok (.iload_n 2, 1) := by decide +kernel
theorem dX7_putLabels_13 : decode cX7_putLabels 13 = .ok (.bipush 47, 2) := by decide +kernel
theorem dX7_putLabels_15 : decode cX7_putLabels 15 = .ok (.if_icmp .eq 7, 3) := by decide +kernel
theorem dX7_putLabels_18 : decode cX7_putLabels 18 = .ok (.iload_n 3, 1) := by decide +kernel
theorem dX7_putLabels_19 : decode cX7_putLabels 19 = .ok (.ifCond .le 8, 3) := by decide +kernel
theorem dX7_putLabels_22 : decode cX7_putLabels 22 = .ok (.aload_n 0, 1) := by decide +kernel
theorem dX7_putLabels_23 : decode cX7_putLabels 23 = .ok (.iload_n 2, 1) := by decide +kernel
theorem dX7_putLabels_24 : decode cX7_putLabels 24 = .ok (.invokevirtual 141, 3) := by decide +kernel
theorem dX7_putLabels_27 : decode cX7_putLabels 27 = .ok (.aload_n 0, 1) := by decide +kernel
theorem dX7_putLabels_28 : decode cX7_putLabels 28 = .ok (.bipush 97, 2) := by decide +kernel
theorem dX7_putLabels_30 : decode cX7_putLabels 30 = .ok (.aload_n 0, 1) := by decide +kernel
theorem dX7_putLabels_31 : decode cX7_putLabels 31 = .ok (.getfield 20, 3) := by decide +kernel
theorem dX7_putLabels_34 : decode cX7_putLabels 34 = .ok (.iconst 3, 1) := by decide +kernel
theorem dX7_putLabels_35 : decode cX7_putLabels 35 = .ok (.iload_n 1, 1) := by decide +kernel
theorem dX7_putLabels_36 : decode cX7_putLabels 36 = .ok (.imul, 1) := by decide +kernel
theorem dX7_putLabels_37 : decode cX7_putLabels 37 = .ok (.iload_n 3, 1) := by decide +kernel
theorem dX7_putLabels_38 : decode cX7_putLabels 38 = .ok (.iadd, 1) := by decide +kernel
theorem dX7_putLabels_39 : decode cX7_putLabels 39 = .ok (.iaload, 1) := by decide +kernel
theorem dX7_putLabels_40 : decode cX7_putLabels 40 = .ok (.iadd, 1) := by decide +kernel
theorem dX7_putLabels_41 : decode cX7_putLabels 41 = .ok (.invokevirtual 141, 3) := by decide +kernel
theorem dX7_putLabels_44 : decode cX7_putLabels 44 = .ok (.iinc 3 1, 3) := by decide +kernel
theorem dX7_putLabels_47 : decode cX7_putLabels 47 = .ok (.goto (-45), 3) := by decide +kernel
theorem dX7_putLabels_50 : decode cX7_putLabels 50 = .ok (.return_, 1) := by decide +kernel
theorem dX7_write_0 : decode cX7_write 0 = .ok (.aload_n 0, 1) := by decide +kernel
theorem dX7_write_1 : decode cX7_write 1 = .ok (.iconst 0, 1) := by decide +kernel
theorem dX7_write_2 : decode cX7_write 2 = .ok (.putfield 138, 3) := by decide +kernel
theorem dX7_write_5 : decode cX7_write 5 = .ok (.aload_n 0, 1) := by decide +kernel
theorem dX7_write_6 : decode cX7_write 6 = .ok (.aload_n 0, 1) := by decide +kernel
theorem dX7_write_7 : decode cX7_write 7 = .ok (.getfield 13, 3) := by decide +kernel
theorem dX7_write_10 : decode cX7_write 10 = .ok (.iload_n 1, 1) := by decide +kernel
theorem dX7_write_11 : decode cX7_write 11 = .ok (.iaload, 1) := by decide +kernel
theorem dX7_write_12 : decode cX7_write 12 = .ok (.iconst 1, 1) := by decide +kernel
theorem dX7_write_13 : decode cX7_write 13 = .ok (.if_icmp .ne 8, 3) := by decide +kernel
theorem dX7_write_16 : decode cX7_write 16 = .ok (.bipush 42, 2) := by decide +kernel
theorem dX7_write_18 : decode cX7_write 18 = .ok (.goto 35, 3) := by decide +kernel
theorem dX7_write_21 : decode cX7_write 21 = .ok (.aload_n 0, 1) := by decide +kernel
theorem dX7_write_22 : decode cX7_write 22 = .ok (.getfield 13, 3) := by decide +kernel
theorem dX7_write_25 : decode cX7_write 25 = .ok (.iload_n 1, 1) := by decide +kernel
theorem dX7_write_26 : decode cX7_write 26 = .ok (.iaload, 1) := by decide +kernel
theorem dX7_write_27 : decode cX7_write 27 = .ok (.iconst 2, 1) := by decide +kernel
theorem dX7_write_28 : decode cX7_write 28 = .ok (.if_icmp .ne 8, 3) := by decide +kernel
theorem dX7_write_31 : decode cX7_write 31 = .ok (.bipush 102, 2) := by decide +kernel
theorem dX7_write_33 : decode cX7_write 33 = .ok (.goto 20, 3) := by decide +kernel
theorem dX7_write_36 : decode cX7_write 36 = .ok (.aload_n 0, 1) := by decide +kernel
theorem dX7_write_37 : decode cX7_write 37 = .ok (.getfield 13, 3) := by decide +kernel
theorem dX7_write_40 : decode cX7_write 40 = .ok (.iload_n 1, 1) := by decide +kernel
theorem dX7_write_41 : decode cX7_write 41 = .ok (.iaload, 1) := by decide +kernel
theorem dX7_write_42 : decode cX7_write 42 = .ok (.iconst 3, 1) := by decide +kernel
theorem dX7_write_43 : decode cX7_write 43 = .ok (.if_icmp .ne 8, 3) := by decide +kernel
theorem dX7_write_46 : decode cX7_write 46 = .ok (.bipush 104, 2) := by decide +kernel
theorem dX7_write_48 : decode cX7_write 48 = .ok (.goto 5, 3) := by decide +kernel
theorem dX7_write_51 : decode cX7_write 51 = .ok (.bipush 110, 2) := by decide +kernel
theorem dX7_write_53 : decode cX7_write 53 = .ok (.invokevirtual 141, 3) := by decide +kernel
theorem dX7_write_56 : decode cX7_write 56 = .ok (.aload_n 0, 1) := by decide +kernel
theorem dX7_write_57 : decode cX7_write 57 = .ok (.getfield 13, 3) := by decide +kernel
theorem dX7_write_60 : decode cX7_write 60 = .ok (.iload_n 1, 1) := by decide +kernel
theorem dX7_write_61 : decode cX7_write 61 = .ok (.iaload, 1) := by decide +kernel
theorem dX7_write_62 : decode cX7_write 62 = .ok (.iconst 3, 1) := by decide +kernel
theorem dX7_write_63 : decode cX7_write 63 = .ok (.if_icmp .ne 34, 3) := by decide +kernel
theorem dX7_write_66 : decode cX7_write 66 = .ok (.aload_n 0, 1) := by decide +kernel
theorem dX7_write_67 : decode cX7_write 67 = .ok (.getfield 23, 3) := by decide +kernel
theorem dX7_write_70 : decode cX7_write 70 = .ok (.iload_n 1, 1) := by decide +kernel
theorem dX7_write_71 : decode cX7_write 71 = .ok (.iaload, 1) := by decide +kernel
theorem dX7_write_72 : decode cX7_write 72 = .ok (.iconst 1, 1) := by decide +kernel
theorem dX7_write_73 : decode cX7_write 73 = .ok (.if_icmp .ne 24, 3) := by decide +kernel
theorem dX7_write_76 : decode cX7_write 76 = .ok (.aload_n 0, 1) := by decide +kernel
theorem dX7_write_77 : decode cX7_write 77 = .ok (.bipush 42, 2) := by decide +kernel
theorem dX7_write_79 : decode cX7_write 79 = .ok (.invokevirtual 141, 3) := by decide +kernel
theorem dX7_write_82 : decode cX7_write 82 = .ok (.aload_n 0, 1) := by decide +kernel
theorem dX7_write_83 : decode cX7_write 83 = .ok (.getfield 17, 3) := by decide +kernel
theorem dX7_write_86 : decode cX7_write 86 = .ok (.iload_n 1, 1) := by decide +kernel
theorem dX7_write_87 : decode cX7_write 87 = .ok (.iaload, 1) := by decide +kernel
theorem dX7_write_88 : decode cX7_write 88 = .ok (.ifCond .le 9, 3) := by decide +kernel
theorem dX7_write_91 : decode cX7_write 91 = .ok (.aload_n 0, 1) := by decide +kernel
theorem dX7_write_92 : decode cX7_write 92 = .ok (.bipush 46, 2) := by decide +kernel
theorem dX7_write_94 : decode cX7_write 94 = .ok (.invokevirtual 141, 3) := by decide +kernel
theorem dX7_write_97 : decode cX7_write 97 = .ok (.aload_n 0, 1) := by decide +kernel
theorem dX7_write_98 : decode cX7_write 98 = .ok (.iload_n 1, 1) := by decide +kernel
theorem dX7_write_99 : decode cX7_write 99 = .ok (.aload_n 0, 1) := by decide +kernel
theorem dX7_write_100 : decode cX7_write 100 = .ok (.getfield 13, 3) := by decide +kernel
theorem dX7_write_103 : decode cX7_write 103 = .ok (.iload_n 1, 1) := by decide +kernel
theorem dX7_write_104 : decode cX7_write 104 = .ok (.iaload, 1) := by decide +kernel
theorem dX7_write_105 : decode cX7_write 105 = .ok (.iconst 2, 1) := by decide +kernel
theorem dX7_write_106 : decode cX7_write 106 = .ok (.if_icmp .ne 8, 3) := by decide +kernel
theorem dX7_write_109 : decode cX7_write 109 = .ok (.bipush 47, 2) := by decide +kernel
theorem dX7_write_111 : decode cX7_write 111 = .ok (.goto 5, 3) := by decide +kernel
theorem dX7_write_114 : decode cX7_write 114 = .ok (.bipush 46, 2) := by decide +kernel
theorem dX7_write_116 : decode cX7_write 116 = .ok (.invokevirtual 145, 3) := by decide +kernel
theorem dX7_write_119 : decode cX7_write 119 = .ok (.aload_n 0, 1) := by decide +kernel
theorem dX7_write_120 : decode cX7_write 120 = .ok (.getfield 13, 3) := by decide +kernel
theorem dX7_write_123 : decode cX7_write 123 = .ok (.iload_n 1, 1) := by decide +kernel
theorem dX7_write_124 : decode cX7_write 124 = .ok (.iaload, 1) := by decide +kernel
theorem dX7_write_125 : decode cX7_write 125 = .ok (.iconst 2, 1) := by decide +kernel
theorem dX7_write_126 : decode cX7_write 126 = .ok (.if_icmp .ne 39, 3) := by decide +kernel
theorem dX7_write_129 : decode cX7_write 129 = .ok (.aload_n 0, 1) := by decide +kernel
theorem dX7_write_130 : decode cX7_write 130 = .ok (.getfield 23, 3) := by decide +kernel
theorem dX7_write_133 : decode cX7_write 133 = .ok (.iload_n 1, 1) := by decide +kernel
theorem dX7_write_134 : decode cX7_write 134 = .ok (.iaload, 1) := by decide +kernel
theorem dX7_write_135 : decode cX7_write 135 = .ok (.ifCond .le 30, 3) := by decide +kernel
theorem dX7_write_138 : decode cX7_write 138 = .ok (.aload_n 0, 1) := by decide +kernel
theorem dX7_write_139 : decode cX7_write 139 = .ok (.bipush 47, 2) := by decide +kernel
theorem dX7_write_141 : decode cX7_write 141 = .ok (.invokevirtual 141, 3) := by decide +kernel
theorem dX7_write_144 : decode cX7_write 144 = .ok (.aload_n 0, 1) := by decide +kernel
theorem dX7_write_145 : decode cX7_write 145 = .ok (.aload_n 0, 1) := by decide +kernel
theorem dX7_write_146 : decode cX7_write 146 = .ok (.getfield 23, 3) := by decide +kernel
theorem dX7_write_149 : decode cX7_write 149 = .ok (.iload_n 1, 1) := by decide +kernel
theorem dX7_write_150 : decode cX7_write 150 = .ok (.iaload, 1) := by decide +kernel
theorem dX7_write_151 : decode cX7_write 151 = .ok (.iconst 1, 1) := by decide +kernel
theorem dX7_write_152 : decode cX7_write 152 = .ok (.if_icmp .ne 8, 3) := by decide +kernel
theorem dX7_write_155 : decode cX7_write 155 = .ok (.bipush 42, 2) := by decide +kernel
theorem dX7_write_157 : decode cX7_write 157 = .ok (.goto 5, 3) := by decide +kernel
theorem dX7_write_160 : decode cX7_write 160 = .ok (.bipush 45, 2) := by decide +kernel
theorem dX7_write_162 : decode cX7_write 162 = .ok (.invokevirtual 141, 3) := by decide +kernel
theorem dX7_write_165 : decode cX7_write 165 = .ok (.aload_n 0, 1) := by decide +kernel
theorem dX7_write_166 : decode cX7_write 166 = .ok (.getfield 13, 3) := by decide +kernel
theorem dX7_write_169 : decode cX7_write 169 = .ok (.iload_n 1, 1) := by decide +kernel
theorem dX7_write_170 : decode cX7_write 170 = .ok (.iaload, 1) := by decide +kernel
theorem dX7_write_171 : decode cX7_write 171 = .ok (.iconst 4, 1) := by decide +kernel
theorem dX7_write_172 : decode cX7_write 172 = .ok (.if_icmp .ne 34, 3) := by decide +kernel
theorem dX7_write_175 : decode cX7_write 175 = .ok (.aload_n 0, 1) := by decide +kernel
theorem dX7_write_176 : decode cX7_write 176 = .ok (.getfield 23, 3) := by decide +kernel
theorem dX7_write_179 : decode cX7_write 179 = .ok (.iload_n 1, 1) := by decide +kernel
theorem dX7_write_180 : decode cX7_write 180 = .ok (.iaload, 1) := by decide +kernel
theorem dX7_write_181 : decode cX7_write 181 = .ok (.iconst 1, 1) := by decide +kernel
theorem dX7_write_182 : decode cX7_write 182 = .ok (.if_icmp .ne 24, 3) := by decide +kernel
theorem dX7_write_185 : decode cX7_write 185 = .ok (.aload_n 0, 1) := by decide +kernel
theorem dX7_write_186 : decode cX7_write 186 = .ok (.getfield 17, 3) := by decide +kernel
theorem dX7_write_189 : decode cX7_write 189 = .ok (.iload_n 1, 1) := by decide +kernel
theorem dX7_write_190 : decode cX7_write 190 = .ok (.iaload, 1) := by decide +kernel
theorem dX7_write_191 : decode cX7_write 191 = .ok (.ifCond .le 9, 3) := by decide +kernel
theorem dX7_write_194 : decode cX7_write 194 = .ok (.aload_n 0, 1) := by decide +kernel
theorem dX7_write_195 : decode cX7_write 195 = .ok (.bipush 46, 2) := by decide +kernel
theorem dX7_write_197 : decode cX7_write 197 = .ok (.invokevirtual 141, 3) := by decide +kernel
theorem dX7_write_200 : decode cX7_write 200 = .ok (.aload_n 0, 1) := by decide +kernel
theorem dX7_write_201 : decode cX7_write 201 = .ok (.bipush 42, 2) := by decide +kernel
theorem dX7_write_203 : decode cX7_write 203 = .ok (.invokevirtual 141, 3) := by decide +kernel
theorem dX7_write_206 : decode cX7_write 206 = .ok (.aload_n 0, 1) := by decide +kernel
theorem dX7_write_207 : decode cX7_write 207 = .ok (.getfield 13, 3) := by decide +kernel
theorem dX7_write_210 : decode cX7_write 210 = .ok (.iload_n 1, 1) := by decide +kernel
theorem dX7_write_211 : decode cX7_write 211 = .ok (.iaload, 1) := by decide +kernel
theorem dX7_write_212 : decode cX7_write 212 = .ok (.iconst 2, 1) := by decide +kernel
theorem dX7_write_213 : decode cX7_write 213 = .ok (.if_icmp .eq 13, 3) := by decide +kernel
theorem dX7_write_216 : decode cX7_write 216 = .ok (.aload_n 0, 1) := by decide +kernel
theorem dX7_write_217 : decode cX7_write 217 = .ok (.getfield 13, 3) := by decide +kernel
theorem dX7_write_220 : decode cX7_write 220 = .ok (.iload_n 1, 1) := by decide +kernel
theorem dX7_write_221 : decode cX7_write 221 = .ok (.iaload, 1) := by decide +kernel
theorem dX7_write_222 : decode cX7_write 222 = .ok (.iconst 3, 1) := by decide +kernel
theorem dX7_write_223 : decode cX7_write 223 = .ok (.if_icmp .ne 9, 3) := by decide +kernel
theorem dX7_write_226 : decode cX7_write 226 = .ok (.aload_n 0, 1) := by decide +kernel
theorem dX7_write_227 : decode cX7_write 227 = .ok (.bipush 58, 2) := by decide +kernel
theorem dX7_write_229 : decode cX7_write 229 = .ok (.invokevirtual 141, 3) := by decide +kernel
theorem dX7_write_232 : decode cX7_write 232 = .ok (.iconst 0, 1) := by decide +kernel
theorem dX7_write_233 : decode cX7_write 233 = .ok (.istore_n 2, 1) := by decide +kernel
theorem dX7_write_234 : decode cX7_write 234 = .ok (.iload_n 2, 1) := by decide +kernel
theorem dX7_write_235 : decode cX7_write 235 = .ok (.iconst 4, 1) := by decide +kernel
theorem dX7_write_236 : decode cX7_write 236 = .ok (.if_icmp .ge 58, 3) := by decide +kernel
theorem dX7_write_239 : decode cX7_write 239 = .ok (.aload_n 0, 1) := by decide +kernel
theorem dX7_write_240 : decode cX7_write 240 = .ok (.getfield 26, 3) := by decide +kernel
theorem dX7_write_243 : decode cX7_write 243 = .ok (.iload_n 1, 1) := by decide +kernel
theorem dX7_write_244 : decode cX7_write 244 = .ok (.iaload, 1) := by decide +kernel
theorem dX7_write_245 : decode cX7_write 245 = .ok (.iload_n 2, 1) := by decide +kernel
theorem dX7_write_246 : decode cX7_write 246 = .ok (.ishr, 1) := by decide +kernel
theorem dX7_write_247 : decode cX7_write 247 = .ok (.iconst 1, 1) := by decide +kernel
theorem dX7_write_248 : decode cX7_write 248 = .ok (.iand, 1) := by decide +kernel
theorem dX7_write_249 : decode cX7_write 249 = .ok (.iconst 1, 1) := by decide +kernel
theorem dX7_write_250 : decode cX7_write 250 = .ok (.if_icmp .ne 38, 3) := by decide +kernel
theorem dX7_write_253 : decode cX7_write 253 = .ok (.aload_n 0, 1) := by decide +kernel
theorem dX7_write_254 : decode cX7_write 254 = .ok (.iload_n 2, 1) := by decide +kernel
theorem dX7_write_255 : decode cX7_write 255 = .ok (.ifCond .ne 8, 3) := by decide +kernel
theorem dX7_write_258 : decode cX7_write 258 = .ok (.bipush 114, 2) := by decide +kernel
theorem dX7_write_260 : decode cX7_write 260 = .ok (.goto 25, 3) := by decide +kernel
theorem dX7_write_263 : decode cX7_write 263 = .ok (.iload_n 2, 1) := by decide +kernel
theorem dX7_write_264 : decode cX7_write 264 = .ok (.iconst 1, 1) := by decide +kernel
theorem dX7_write_265 : decode cX7_write 265 = .ok (.if_icmp .ne 8, 3) := by decide +kernel
theorem dX7_write_268 : decode cX7_write 268 = .ok (.bipush 119, 2) := by decide +kernel
theorem dX7_write_270 : decode cX7_write 270 = .ok (.goto 15, 3) := by decide +kernel
theorem dX7_write_273 : decode cX7_write 273 = .ok (.iload_n 2, 1) := by decide +kernel
theorem dX7_write_274 : decode cX7_write 274 = .ok (.iconst 2, 1) := by decide +kernel
theorem dX7_write_275 : decode cX7_write 275 = .ok (.if_icmp .ne 8, 3) := by decide +kernel
theorem dX7_write_278 : decode cX7_write 278 = .ok (.bipush 120, 2) := by decide +kernel
theorem dX7_write_280 : decode cX7_write 280 = .ok (.goto 5, 3) := by decide +kernel
theorem dX7_write_283 : decode cX7_write 283 = .ok (.bipush 100, 2) := by decide +kernel
theorem dX7_write_285 : decode cX7_write 285 = .ok (.invokevirtual 141, 3) := by decide +kernel
theorem dX7_write_288 : decode cX7_write 288 = .ok (.iinc 2 1, 3) := by decide +kernel
theorem dX7_write_291 : decode cX7_write 291 = .ok (.goto (-57), 3) := by decide +kernel
theorem dX7_write_294 : decode cX7_write 294 = .ok (.aload_n 0, 1) := by decide +kernel
theorem dX7_write_295 : decode cX7_write 295 = .ok (.getfield 13, 3) := by decide +kernel
theorem dX7_write_298 : decode cX7_write 298 = .ok (.iload_n 1, 1) := by decide +kernel
theorem dX7_write_299 : decode cX7_write 299 = .ok (.iaload, 1) := by decide +kernel
theorem dX7_write_300 : decode cX7_write 300 = .ok (.iconst 3, 1) := by decide +kernel
theorem dX7_write_301 : decode cX7_write 301 = .ok (.if_icmp .ne 50, 3) := by decide +kernel
theorem dX7_write_304 : decode cX7_write 304 = .ok (.aload_n 0, 1) := by decide +kernel
theorem dX7_write_305 : decode cX7_write 305 = .ok (.bipush 48, 2) := by decide +kernel
theorem dX7_write_307 : decode cX7_write 307 = .ok (.aload_n 0, 1) := by decide +kernel
theorem dX7_write_308 : decode cX7_write 308 = .ok (.getfield 29, 3) := by decide +kernel
theorem dX7_write_311 : decode cX7_write 311 = .ok (.iload_n 1, 1) := by decide +kernel
theorem dX7_write_312 : decode cX7_write 312 = .ok (.iaload, 1) := by decide +kernel
theorem dX7_write_313 : decode cX7_write 313 = .ok (.iadd, 1) := by decide +kernel
theorem dX7_write_314 : decode cX7_write 314 = .ok (.invokevirtual 141, 3) := by decide +kernel
theorem dX7_write_317 : decode cX7_write 317 = .ok (.aload_n 0, 1) := by decide +kernel
theorem dX7_write_318 : decode cX7_write 318 = .ok (.getfield 32, 3) := by decide +kernel
theorem dX7_write_321 : decode cX7_write 321 = .ok (.iload_n 1, 1) := by decide +kernel
theorem dX7_write_322 : decode cX7_write 322 = .ok (.iaload, 1) := by decide +kernel
theorem dX7_write_323 : decode cX7_write 323 = .ok (.aload_n 0, 1) := by decide +kernel
theorem dX7_write_324 : decode cX7_write 324 = .ok (.getfield 29, 3) := by decide +kernel
theorem dX7_write_327 : decode cX7_write 327 = .ok (.iload_n 1, 1) := by decide +kernel
theorem dX7_write_328 : decode cX7_write 328 = .ok (.iaload, 1) := by decide +kernel
theorem dX7_write_329 : decode cX7_write 329 = .ok (.if_icmp .le 22, 3) := by decide +kernel
theorem dX7_write_332 : decode cX7_write 332 = .ok (.aload_n 0, 1) := by decide +kernel
theorem dX7_write_333 : decode cX7_write 333 = .ok (.bipush 45, 2) := by decide +kernel
theorem dX7_write_335 : decode cX7_write 335 = .ok (.invokevirtual 141, 3) := by decide +kernel
theorem dX7_write_338 : decode cX7_write 338 = .ok (.aload_n 0, 1) := by decide +kernel
theorem dX7_write_339 : decode cX7_write 339 = .ok (.bipush 48, 2) := by decide +kernel
theorem dX7_write_341 : decode cX7_write 341 = .ok (.aload_n 0, 1) := by decide +kernel
theorem dX7_write_342 : decode cX7_write 342 = .ok (.getfield 32, 3) := by decide +kernel
theorem dX7_write_345 : decode cX7_write 345 = .ok (.iload_n 1, 1) := by decide +kernel
theorem dX7_write_346 : decode cX7_write 346 = .ok (.iaload, 1) := by decide +kernel
theorem dX7_write_347 : decode cX7_write 347 = .ok (.iadd, 1) := by decide +kernel
theorem dX7_write_348 : decode cX7_write 348 = .ok (.invokevirtual 141, 3) := by decide +kernel
theorem dX7_write_351 : decode cX7_write 351 = .ok (.return_, 1) := by decide +kernel
theorem dX7_isSlot_0 : decode cX7_isSlot 0 = .ok (.iload_n 1, 1) := by decide +kernel
theorem dX7_isSlot_1 : decode cX7_isSlot 1 = .ok (.iconst 0, 1) := by decide +kernel
theorem dX7_isSlot_2 : decode cX7_isSlot 2 = .ok (.bipush 7, 2) := by decide +kernel
theorem dX7_isSlot_4 : decode cX7_isSlot 4 = .ok (.invokestatic 123, 3) := by decide +kernel
theorem dX7_isSlot_7 : decode cX7_isSlot 7 = .ok (.ifCond .eq 30, 3) := by decide +kernel
theorem dX7_isSlot_10 : decode cX7_isSlot 10 = .ok (.aload_n 0, 1) := by decide +kernel
theorem dX7_isSlot_11 : decode cX7_isSlot 11 = .ok (.getfield 13, 3) := by decide +kernel
theorem dX7_isSlot_14 : decode cX7_isSlot 14 = .ok (.iload_n 1, 1) := by decide +kernel
theorem dX7_isSlot_15 : decode cX7_isSlot 15 = .ok (.iconst 0, 1) := by decide +kernel
theorem dX7_isSlot_16 : decode cX7_isSlot 16 = .ok (.bipush 7, 2) := by decide +kernel
theorem dX7_isSlot_18 : decode cX7_isSlot 18 = .ok (.invokestatic 123, 3) := by decide +kernel
theorem dX7_isSlot_21 : decode cX7_isSlot 21 = .ok (.ifCond .eq 7, 3) := by decide +kernel
theorem dX7_isSlot_24 : decode cX7_isSlot 24 = .ok (.iload_n 1, 1) := by decide +kernel
theorem dX7_isSlot_25 : decode cX7_isSlot 25 = .ok (.goto 4, 3) := by decide +kernel
theorem dX7_isSlot_28 : decode cX7_isSlot 28 = .ok (.iconst 0, 1) := by decide +kernel
theorem dX7_isSlot_29 : decode cX7_isSlot 29 = .ok (.iaload, 1) := by decide +kernel
theorem dX7_isSlot_30 : decode cX7_isSlot 30 = .ok (.ifCond .le 7, 3) := by decide +kernel
theorem dX7_isSlot_33 : decode cX7_isSlot 33 = .ok (.iconst 1, 1) := by decide +kernel
theorem dX7_isSlot_34 : decode cX7_isSlot 34 = .ok (.goto 4, 3) := by decide +kernel
theorem dX7_isSlot_37 : decode cX7_isSlot 37 = .ok (.iconst 0, 1) := by decide +kernel
theorem dX7_isSlot_38 : decode cX7_isSlot 38 = .ok (.ireturn, 1) := by decide +kernel
theorem dX7_written_0 : decode cX7_written 0 = .ok (.aload_n 0, 1) := by decide +kernel
theorem dX7_written_1 : decode cX7_written 1 = .ok (.iconst 0, 1) := by decide +kernel
theorem dX7_written_2 : decode cX7_written 2 = .ok (.putfield 69, 3) := by decide +kernel
theorem dX7_written_5 : decode cX7_written 5 = .ok (.aload_n 0, 1) := by decide +kernel
theorem dX7_written_6 : decode cX7_written 6 = .ok (.iload_n 1, 1) := by decide +kernel
theorem dX7_written_7 : decode cX7_written 7 = .ok (.invokevirtual 148, 3) := by decide +kernel
theorem dX7_written_10 : decode cX7_written 10 = .ok (.ifCond .ne 9, 3) := by decide +kernel
theorem dX7_written_13 : decode cX7_written 13 = .ok (.aload_n 0, 1) := by decide +kernel
theorem dX7_written_14 : decode cX7_written 14 = .ok (.iconst 1, 1) := by decide +kernel
theorem dX7_written_15 : decode cX7_written 15 = .ok (.invokevirtual 127, 3) := by decide +kernel
theorem dX7_written_18 : decode cX7_written 18 = .ok (.ireturn, 1) := by decide +kernel
theorem dX7_written_19 : decode cX7_written 19 = .ok (.aload_n 0, 1) := by decide +kernel
theorem dX7_written_20 : decode cX7_written 20 = .ok (.iload_n 1, 1) := by decide +kernel
theorem dX7_written_21 : decode cX7_written 21 = .ok (.invokevirtual 152, 3) := by decide +kernel
theorem dX7_written_24 : decode cX7_written 24 = .ok (.iload_n 2, 1) := by decide +kernel
theorem dX7_written_25 : decode cX7_written 25 = .ok (.iconst 0, 1) := by decide +kernel
theorem dX7_written_26 : decode cX7_written 26 = .ok (.aload_n 0, 1) := by decide +kernel
theorem dX7_written_27 : decode cX7_written 27 = .ok (.getfield 138, 3) := by decide +kernel
theorem dX7_written_30 : decode cX7_written 30 = .ok (.iconst 1, 1) := by decide +kernel
theorem dX7_written_31 : decode cX7_written 31 = .ok (.isub, 1) := by decide +kernel
theorem dX7_written_32 : decode cX7_written 32 = .ok (.invokestatic 123, 3) := by decide +kernel
theorem dX7_written_35 : decode cX7_written 35 = .ok (.ifCond .eq 12, 3) := by decide +kernel
theorem dX7_written_38 : decode cX7_written 38 = .ok (.aload_n 0, 1) := by decide +kernel
theorem dX7_written_39 : decode cX7_written 39 = .ok (.getfield 35, 3) := by decide +kernel
theorem dX7_written_42 : decode cX7_written 42 = .ok (.iload_n 2, 1) := by decide +kernel
theorem dX7_written_43 : decode cX7_written 43 = .ok (.caload, 1) := by decide +kernel
theorem dX7_written_44 : decode cX7_written 44 = .ok (.goto 4, 3) := by decide +kernel
theorem dX7_written_47 : decode cX7_written 47 = .ok (.iconst (-1), 1) := by decide +kernel
theorem dX7_written_48 : decode cX7_written 48 = .ok (.ireturn, 1) := by decide +kernel
theorem dX7_alike_0 : decode cX7_alike 0 = .ok (.iload 4, 2) := by decide +kernel
theorem dX7_alike_2 : decode cX7_alike 2 = .ok (.ifCond .lt 20, 3) := by decide +kernel
theorem dX7_alike_5 : decode cX7_alike 5 = .ok (.iload 4, 2) := by decide +kernel
theorem dX7_alike_7 : decode cX7_alike 7 = .ok (.iload_n 3, 1) := by decide +kernel
theorem dX7_alike_8 : decode cX7_alike 8 = .ok (.iadd, 1) := by decide +kernel
theorem dX7_alike_9 : decode cX7_alike 9 = .ok (.aload_n 0, 1) := by decide +kernel
theorem dX7_alike_10 : decode cX7_alike 10 = .ok (.getfield 17, 3) := by decide +kernel
theorem dX7_alike_13 : decode cX7_alike 13 = .ok (.iload_n 2, 1) := by decide +kernel
theorem dX7_alike_14 : decode cX7_alike 14 = .ok (.iaload, 1) := by decide +kernel
theorem dX7_alike_15 : decode cX7_alike 15 = .ok (.if_icmp .gt 7, 3) := by decide +kernel
theorem dX7_alike_18 : decode cX7_alike 18 = .ok (.iconst 1, 1) := by decide +kernel
theorem dX7_alike_19 : decode cX7_alike 19 = .ok (.goto 4, 3) := by decide +kernel
theorem dX7_alike_22 : decode cX7_alike 22 = .ok (.iconst 0, 1) := by decide +kernel
theorem dX7_alike_23 : decode cX7_alike 23 = .ok (.istore 5, 2) := by decide +kernel
theorem dX7_alike_25 : decode cX7_alike 25 = .ok (.iconst 0, 1) := by decide +kernel
theorem dX7_alike_26 : decode cX7_alike 26 = .ok (.istore 6, 2) := by decide +kernel
theorem dX7_alike_28 : decode cX7_alike 28 = .ok (.iload 6, 2) := by decide +kernel
theorem dX7_alike_30 : decode cX7_alike 30 = .ok (.iload_n 3, 1) := by decide +kernel
theorem dX7_alike_31 : decode cX7_alike 31 = .ok (.if_icmp .ge 49, 3) := by decide +kernel
theorem dX7_alike_34 : decode cX7_alike 34 = .ok (.iload 5, 2) := by decide +kernel
theorem dX7_alike_36 : decode cX7_alike 36 = .ok (.ifCond .eq 44, 3) := by decide +kernel
theorem dX7_alike_39 : decode cX7_alike 39 = .ok (.aload_n 0, 1) := by decide +kernel
theorem dX7_alike_40 : decode cX7_alike 40 = .ok (.getfield 20, 3) := by decide +kernel
theorem dX7_alike_43 : decode cX7_alike 43 = .ok (.iconst 3, 1) := by decide +kernel
theorem dX7_alike_44 : decode cX7_alike 44 = .ok (.iload_n 1, 1) := by decide +kernel
theorem dX7_alike_45 : decode cX7_alike 45 = .ok (.imul, 1) := by decide +kernel
theorem dX7_alike_46 : decode cX7_alike 46 = .ok (.iload 6, 2) := by decide +kernel
theorem dX7_alike_48 : decode cX7_alike 48 = .ok (.iadd, 1) := by decide +kernel
theorem dX7_alike_49 : decode cX7_alike 49 = .ok (.iaload, 1) := by decide +kernel
theorem dX7_alike_50 : decode cX7_alike 50 = .ok (.aload_n 0, 1) := by decide +kernel
theorem dX7_alike_51 : decode cX7_alike 51 = .ok (.getfield 20, 3) := by decide +kernel
theorem dX7_alike_54 : decode cX7_alike 54 = .ok (.iconst 3, 1) := by decide +kernel
theorem dX7_alike_55 : decode cX7_alike 55 = .ok (.iload_n 2, 1) := by decide +kernel
theorem dX7_alike_56 : decode cX7_alike 56 = .ok (.imul, 1) := by decide +kernel
theorem dX7_alike_57 : decode cX7_alike 57 = .ok (.iload 4, 2) := by decide +kernel
theorem dX7_alike_59 : decode cX7_alike 59 = .ok (.iadd, 1) := by decide +kernel
theorem dX7_alike_60 : decode cX7_alike 60 = .ok (.iload 6, 2) := by decide +kernel
theorem dX7_alike_62 : decode cX7_alike 62 = .ok (.iadd, 1) := by decide +kernel
theorem dX7_alike_63 : decode cX7_alike 63 = .ok (.iaload, 1) := by decide +kernel
theorem dX7_alike_64 : decode cX7_alike 64 = .ok (.if_icmp .ne 7, 3) := by decide +kernel
theorem dX7_alike_67 : decode cX7_alike 67 = .ok (.iconst 1, 1) := by decide +kernel
theorem dX7_alike_68 : decode cX7_alike 68 = .ok (.goto 4, 3) := by decide +kernel
theorem dX7_alike_71 : decode cX7_alike 71 = .ok (.iconst 0, 1) := by decide +kernel
theorem dX7_alike_72 : decode cX7_alike 72 = .ok (.istore 5, 2) := by decide +kernel
theorem dX7_alike_74 : decode cX7_alike 74 = .ok (.iinc 6 1, 3) := by decide +kernel
theorem dX7_alike_77 : decode cX7_alike 77 = .ok (.goto (-49), 3) := by decide +kernel
theorem dX7_alike_80 : decode cX7_alike 80 = .ok (.iload 5, 2) := by decide +kernel
theorem dX7_alike_82 : decode cX7_alike 82 = .ok (.ireturn, 1) := by decide +kernel
theorem dX7_sameLabels_0 : decode cX7_sameLabels 0 = .ok (.aload_n 0, 1) := by decide +kernel
theorem dX7_sameLabels_1 : decode cX7_sameLabels 1 = .ok (.getfield 17, 3) := by decide +kernel
theorem dX7_sameLabels_4 : decode cX7_sameLabels 4 = .ok (.iload_n 1, 1) := by decide +kernel
theorem dX7_sameLabels_5 : decode cX7_sameLabels 5 = .ok (.iaload, 1) := by decide +kernel
theorem dX7_sameLabels_6 : decode cX7_sameLabels 6 = .ok (.aload_n 0, 1) := by decide +kernel
theorem dX7_sameLabels_7 : decode cX7_sameLabels 7 = .ok (.getfield 17, 3) := by decide +kernel
theorem dX7_sameLabels_10 : decode cX7_sameLabels 10 = .ok (.iload_n 2, 1) := by decide +kernel
theorem dX7_sameLabels_11 : decode cX7_sameLabels 11 = .ok (.iaload, 1) := by decide +kernel
theorem dX7_sameLabels_12 : decode cX7_sameLabels 12 = .ok (.if_icmp .ne 23, 3) := by decide +kernel
theorem dX7_sameLabels_15 : decode cX7_sameLabels 15 = .ok (.aload_n 0, 1) := by decide +kernel
theorem dX7_sameLabels_16 : decode cX7_sameLabels 16 = .ok (.iload_n 1, 1) := by decide +kernel
theorem dX7_sameLabels_17 : decode cX7_sameLabels 17 = .ok (.iload_n 2, 1) := by decide +kernel
theorem dX7_sameLabels_18 : decode cX7_sameLabels 18 = .ok (.aload_n 0, 1) := by decide +kernel
theorem dX7_sameLabels_19 : decode cX7_sameLabels 19 = .ok (.getfield 17, 3) := by decide +kernel
theorem dX7_sameLabels_22 : decode cX7_sameLabels 22 = .ok (.iload_n 1, 1) := by decide +kernel
theorem dX7_sameLabels_23 : decode cX7_sameLabels 23 = .ok (.iaload, 1) := by decide +kernel
theorem dX7_sameLabels_24 : decode cX7_sameLabels 24 = .ok (.iconst 0, 1) := by decide +kernel
theorem dX7_sameLabels_25 : decode cX7_sameLabels 25 = .ok (.invokevirtual 155, 3) := by decide +kernel
theorem dX7_sameLabels_28 : decode cX7_sameLabels 28 = .ok (.ifCond .eq 7, 3) := by decide +kernel
theorem dX7_sameLabels_31 : decode cX7_sameLabels 31 = .ok (.iconst 1, 1) := by decide +kernel
theorem dX7_sameLabels_32 : decode cX7_sameLabels 32 = .ok (.goto 4, 3) := by decide +kernel
theorem dX7_sameLabels_35 : decode cX7_sameLabels 35 = .ok (.iconst 0, 1) := by decide +kernel
theorem dX7_sameLabels_36 : decode cX7_sameLabels 36 = .ok (.ireturn, 1) := by decide +kernel
theorem dX7_pathTakes_0 : decode cX7_pathTakes 0 = .ok (.aload_n 0, 1) := by decide +kernel
theorem dX7_pathTakes_1 : decode cX7_pathTakes 1 = .ok (.getfield 17, 3) := by decide +kernel
theorem dX7_pathTakes_4 : decode cX7_pathTakes 4 = .ok (.iload_n 1, 1) := by decide +kernel
theorem dX7_pathTakes_5 : decode cX7_pathTakes 5 = .ok (.iaload, 1) := by decide +kernel
theorem dX7_pathTakes_6 : decode cX7_pathTakes 6 = .ok (.istore_n 3, 1) := by decide +kernel
theorem dX7_pathTakes_7 : decode cX7_pathTakes 7 = .ok (.aload_n 0, 1) := by decide +kernel
theorem dX7_pathTakes_8 : decode cX7_pathTakes 8 = .ok (.getfield 23, 3) := by decide +kernel
theorem dX7_pathTakes_11 : decode cX7_pathTakes 11 = .ok (.iload_n 1, 1) := by decide +kernel
theorem dX7_pathTakes_12 : decode cX7_pathTakes 12 = .ok (.iaload, 1) := by decide +kernel
theorem dX7_pathTakes_13 : decode cX7_pathTakes 13 = .ok (.ifCond .ne 27, 3) := by decide +kernel
theorem dX7_pathTakes_16 : decode cX7_pathTakes 16 = .ok (.aload_n 0, 1) := by decide +kernel
theorem dX7_pathTakes_17 : decode cX7_pathTakes 17 = .ok (.getfield 23, 3) := by decide +kernel
theorem dX7_pathTakes_20 : decode cX7_pathTakes 20 = .ok (.iload_n 2, 1) := by decide +kernel
theorem dX7_pathTakes_21 : decode cX7_pathTakes 21 = .ok (.iaload, 1) := by decide +kernel
theorem dX7_pathTakes_22 : decode cX7_pathTakes 22 = .ok (.ifCond .ne 16, 3) := by decide +kernel
theorem dX7_pathTakes_25 : decode cX7_pathTakes 25 = .ok (.aload_n 0, 1) := by decide +kernel
theorem dX7_pathTakes_26 : decode cX7_pathTakes 26 = .ok (.iload_n 1, 1) := by decide +kernel
theorem dX7_pathTakes_27 : decode cX7_pathTakes 27 = .ok (.iload_n 2, 1) := by decide +kernel
theorem dX7_pathTakes_28 : decode cX7_pathTakes 28 = .ok (.invokevirtual 159, 3) := by decide +kernel
theorem dX7_pathTakes_31 : decode cX7_pathTakes 31 = .ok (.ifCond .eq 7, 3) := by decide +kernel
theorem dX7_pathTakes_34 : decode cX7_pathTakes 34 = .ok (.iconst 1, 1) := by decide +kernel
theorem dX7_pathTakes_35 : decode cX7_pathTakes 35 = .ok (.goto 4, 3) := by decide +kernel
theorem dX7_pathTakes_38 : decode cX7_pathTakes 38 = .ok (.iconst 0, 1) := by decide +kernel
theorem dX7_pathTakes_39 : decode cX7_pathTakes 39 = .ok (.ireturn, 1) := by decide +kernel
theorem dX7_pathTakes_40 : decode cX7_pathTakes 40 = .ok (.aload_n 0, 1) := by decide +kernel
theorem dX7_pathTakes_41 : decode cX7_pathTakes 41 = .ok (.getfield 23, 3) := by decide +kernel
theorem dX7_pathTakes_44 : decode cX7_pathTakes 44 = .ok (.iload_n 1, 1) := by decide +kernel
theorem dX7_pathTakes_45 : decode cX7_pathTakes 45 = .ok (.iaload, 1) := by decide +kernel
theorem dX7_pathTakes_46 : decode cX7_pathTakes 46 = .ok (.iconst 1, 1) := by decide +kernel
theorem dX7_pathTakes_47 : decode cX7_pathTakes 47 = .ok (.if_icmp .ne 60, 3) := by decide +kernel
theorem dX7_pathTakes_50 : decode cX7_pathTakes 50 = .ok (.aload_n 0, 1) := by decide +kernel
theorem dX7_pathTakes_51 : decode cX7_pathTakes 51 = .ok (.getfield 23, 3) := by decide +kernel
theorem dX7_pathTakes_54 : decode cX7_pathTakes 54 = .ok (.iload_n 2, 1) := by decide +kernel
theorem dX7_pathTakes_55 : decode cX7_pathTakes 55 = .ok (.iaload, 1) := by decide +kernel
theorem dX7_pathTakes_56 : decode cX7_pathTakes 56 = .ok (.iconst 1, 1) := by decide +kernel
theorem dX7_pathTakes_57 : decode cX7_pathTakes 57 = .ok (.if_icmp .ne 12, 3) := by decide +kernel
theorem dX7_pathTakes_60 : decode cX7_pathTakes 60 = .ok (.aload_n 0, 1) := by decide +kernel
theorem dX7_pathTakes_61 : decode cX7_pathTakes 61 = .ok (.iload_n 1, 1) := by decide +kernel
theorem dX7_pathTakes_62 : decode cX7_pathTakes 62 = .ok (.iload_n 2, 1) := by decide +kernel
theorem dX7_pathTakes_63 : decode cX7_pathTakes 63 = .ok (.invokevirtual 159, 3) := by decide +kernel
theorem dX7_pathTakes_66 : decode cX7_pathTakes 66 = .ok (.ifCond .ne 35, 3) := by decide +kernel
theorem dX7_pathTakes_69 : decode cX7_pathTakes 69 = .ok (.aload_n 0, 1) := by decide +kernel
theorem dX7_pathTakes_70 : decode cX7_pathTakes 70 = .ok (.getfield 23, 3) := by decide +kernel
theorem dX7_pathTakes_73 : decode cX7_pathTakes 73 = .ok (.iload_n 2, 1) := by decide +kernel
theorem dX7_pathTakes_74 : decode cX7_pathTakes 74 = .ok (.iaload, 1) := by decide +kernel
theorem dX7_pathTakes_75 : decode cX7_pathTakes 75 = .ok (.ifCond .ne 30, 3) := by decide +kernel
theorem dX7_pathTakes_78 : decode cX7_pathTakes 78 = .ok (.aload_n 0, 1) := by decide +kernel
theorem dX7_pathTakes_79 : decode cX7_pathTakes 79 = .ok (.getfield 17, 3) := by decide +kernel
theorem dX7_pathTakes_82 : decode cX7_pathTakes 82 = .ok (.iload_n 2, 1) := by decide +kernel
theorem dX7_pathTakes_83 : decode cX7_pathTakes 83 = .ok (.iaload, 1) := by decide +kernel
theorem dX7_pathTakes_84 : decode cX7_pathTakes 84 = .ok (.iload_n 3, 1) := by decide +kernel
theorem dX7_pathTakes_85 : decode cX7_pathTakes 85 = .ok (.iconst 1, 1) := by decide +kernel
theorem dX7_pathTakes_86 : decode cX7_pathTakes 86 = .ok (.iadd, 1) := by decide +kernel
theorem dX7_pathTakes_87 : decode cX7_pathTakes 87 = .ok (.if_icmp .ne 18, 3) := by decide +kernel
theorem dX7_pathTakes_90 : decode cX7_pathTakes 90 = .ok (.aload_n 0, 1) := by decide +kernel
theorem dX7_pathTakes_91 : decode cX7_pathTakes 91 = .ok (.iload_n 1, 1) := by decide +kernel
theorem dX7_pathTakes_92 : decode cX7_pathTakes 92 = .ok (.iload_n 2, 1) := by decide +kernel
theorem dX7_pathTakes_93 : decode cX7_pathTakes 93 = .ok (.iload_n 3, 1) := by decide +kernel
theorem dX7_pathTakes_94 : decode cX7_pathTakes 94 = .ok (.iconst 0, 1) := by decide +kernel
theorem dX7_pathTakes_95 : decode cX7_pathTakes 95 = .ok (.invokevirtual 155, 3) := by decide +kernel
theorem dX7_pathTakes_98 : decode cX7_pathTakes 98 = .ok (.ifCond .eq 7, 3) := by decide +kernel
theorem dX7_pathTakes_101 : decode cX7_pathTakes 101 = .ok (.iconst 1, 1) := by decide +kernel
theorem dX7_pathTakes_102 : decode cX7_pathTakes 102 = .ok (.goto 4, 3) := by decide +kernel
theorem dX7_pathTakes_105 : decode cX7_pathTakes 105 = .ok (.iconst 0, 1) := by decide +kernel
theorem dX7_pathTakes_106 : decode cX7_pathTakes 106 = .ok (.ireturn, 1) := by decide +kernel
theorem dX7_pathTakes_107 : decode cX7_pathTakes 107 = .ok (.aload_n 0, 1) := by decide +kernel
theorem dX7_pathTakes_108 : decode cX7_pathTakes 108 = .ok (.iload_n 1, 1) := by decide +kernel
theorem dX7_pathTakes_109 : decode cX7_pathTakes 109 = .ok (.iload_n 2, 1) := by decide +kernel
theorem dX7_pathTakes_110 : decode cX7_pathTakes 110 = .ok (.iload_n 3, 1) := by decide +kernel
theorem dX7_pathTakes_111 : decode cX7_pathTakes 111 = .ok (.iconst 0, 1) := by decide +kernel
theorem dX7_pathTakes_112 : decode cX7_pathTakes 112 = .ok (.invokevirtual 155, 3) := by decide +kernel
theorem dX7_pathTakes_115 : decode cX7_pathTakes 115 = .ok (.ifCond .eq 26, 3) := by decide +kernel
theorem dX7_pathTakes_118 : decode cX7_pathTakes 118 = .ok (.aload_n 0, 1) := by decide +kernel
theorem dX7_pathTakes_119 : decode cX7_pathTakes 119 = .ok (.getfield 17, 3) := by decide +kernel
theorem dX7_pathTakes_122 : decode cX7_pathTakes 122 = .ok (.iload_n 2, 1) := by decide +kernel
theorem dX7_pathTakes_123 : decode cX7_pathTakes 123 = .ok (.iaload, 1) := by decide +kernel
theorem dX7_pathTakes_124 : decode cX7_pathTakes 124 = .ok (.iload_n 3, 1) := by decide +kernel
theorem dX7_pathTakes_125 : decode cX7_pathTakes 125 = .ok (.if_icmp .gt 12, 3) := by decide +kernel
theorem dX7_pathTakes_128 : decode cX7_pathTakes 128 = .ok (.aload_n 0, 1) := by decide +kernel
theorem dX7_pathTakes_129 : decode cX7_pathTakes 129 = .ok (.getfield 23, 3) := by decide +kernel
theorem dX7_pathTakes_132 : decode cX7_pathTakes 132 = .ok (.iload_n 2, 1) := by decide +kernel
theorem dX7_pathTakes_133 : decode cX7_pathTakes 133 = .ok (.iaload, 1) := by decide +kernel
theorem dX7_pathTakes_134 : decode cX7_pathTakes 134 = .ok (.ifCond .le 7, 3) := by decide +kernel
theorem dX7_pathTakes_137 : decode cX7_pathTakes 137 = .ok (.iconst 1, 1) := by decide +kernel
theorem dX7_pathTakes_138 : decode cX7_pathTakes 138 = .ok (.goto 4, 3) := by decide +kernel
theorem dX7_pathTakes_141 : decode cX7_pathTakes 141 = .ok (.iconst 0, 1) := by decide +kernel

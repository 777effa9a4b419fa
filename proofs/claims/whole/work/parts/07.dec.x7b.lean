theorem dX7_pathTakes_142 : decode cX7_pathTakes 142 = .ok (.ireturn, 1) := by decide +kernel
theorem dX7_rowTakes_0 : decode cX7_rowTakes 0 = .ok (.aload_n 0, 1) := by decide +kernel
theorem dX7_rowTakes_1 : decode cX7_rowTakes 1 = .ok (.getfield 17, 3) := by decide +kernel
theorem dX7_rowTakes_4 : decode cX7_rowTakes 4 = .ok (.iload_n 1, 1) := by decide +kernel
theorem dX7_rowTakes_5 : decode cX7_rowTakes 5 = .ok (.iaload, 1) := by decide +kernel
theorem dX7_rowTakes_6 : decode cX7_rowTakes 6 = .ok (.istore_n 3, 1) := by decide +kernel
theorem dX7_rowTakes_7 : decode cX7_rowTakes 7 = .ok (.aload_n 0, 1) := by decide +kernel
theorem dX7_rowTakes_8 : decode cX7_rowTakes 8 = .ok (.getfield 23, 3) := by decide +kernel
theorem dX7_rowTakes_11 : decode cX7_rowTakes 11 = .ok (.iload_n 1, 1) := by decide +kernel
theorem dX7_rowTakes_12 : decode cX7_rowTakes 12 = .ok (.iaload, 1) := by decide +kernel
theorem dX7_rowTakes_13 : decode cX7_rowTakes 13 = .ok (.ifCond .ne 27, 3) := by decide +kernel
theorem dX7_rowTakes_16 : decode cX7_rowTakes 16 = .ok (.aload_n 0, 1) := by decide +kernel
theorem dX7_rowTakes_17 : decode cX7_rowTakes 17 = .ok (.getfield 23, 3) := by decide +kernel
theorem dX7_rowTakes_20 : decode cX7_rowTakes 20 = .ok (.iload_n 2, 1) := by decide +kernel
theorem dX7_rowTakes_21 : decode cX7_rowTakes 21 = .ok (.iaload, 1) := by decide +kernel
theorem dX7_rowTakes_22 : decode cX7_rowTakes 22 = .ok (.ifCond .ne 16, 3) := by decide +kernel
theorem dX7_rowTakes_25 : decode cX7_rowTakes 25 = .ok (.aload_n 0, 1) := by decide +kernel
theorem dX7_rowTakes_26 : decode cX7_rowTakes 26 = .ok (.iload_n 1, 1) := by decide +kernel
theorem dX7_rowTakes_27 : decode cX7_rowTakes 27 = .ok (.iload_n 2, 1) := by decide +kernel
theorem dX7_rowTakes_28 : decode cX7_rowTakes 28 = .ok (.invokevirtual 159, 3) := by decide +kernel
theorem dX7_rowTakes_31 : decode cX7_rowTakes 31 = .ok (.ifCond .eq 7, 3) := by decide +kernel
theorem dX7_rowTakes_34 : decode cX7_rowTakes 34 = .ok (.iconst 1, 1) := by decide +kernel
theorem dX7_rowTakes_35 : decode cX7_rowTakes 35 = .ok (.goto 4, 3) := by decide +kernel
theorem dX7_rowTakes_38 : decode cX7_rowTakes 38 = .ok (.iconst 0, 1) := by decide +kernel
theorem dX7_rowTakes_39 : decode cX7_rowTakes 39 = .ok (.ireturn, 1) := by decide +kernel
theorem dX7_rowTakes_40 : decode cX7_rowTakes 40 = .ok (.iload_n 3, 1) := by decide +kernel
theorem dX7_rowTakes_41 : decode cX7_rowTakes 41 = .ok (.ifCond .eq 55, 3) := by decide +kernel
theorem dX7_rowTakes_44 : decode cX7_rowTakes 44 = .ok (.aload_n 0, 1) := by decide +kernel
theorem dX7_rowTakes_45 : decode cX7_rowTakes 45 = .ok (.iload_n 1, 1) := by decide +kernel
theorem dX7_rowTakes_46 : decode cX7_rowTakes 46 = .ok (.iload_n 2, 1) := by decide +kernel
theorem dX7_rowTakes_47 : decode cX7_rowTakes 47 = .ok (.iload_n 3, 1) := by decide +kernel
theorem dX7_rowTakes_48 : decode cX7_rowTakes 48 = .ok (.aload_n 0, 1) := by decide +kernel
theorem dX7_rowTakes_49 : decode cX7_rowTakes 49 = .ok (.getfield 13, 3) := by decide +kernel
theorem dX7_rowTakes_52 : decode cX7_rowTakes 52 = .ok (.iload_n 1, 1) := by decide +kernel
theorem dX7_rowTakes_53 : decode cX7_rowTakes 53 = .ok (.iaload, 1) := by decide +kernel
theorem dX7_rowTakes_54 : decode cX7_rowTakes 54 = .ok (.iconst 3, 1) := by decide +kernel
theorem dX7_rowTakes_55 : decode cX7_rowTakes 55 = .ok (.if_icmp .ne 14, 3) := by decide +kernel
theorem dX7_rowTakes_58 : decode cX7_rowTakes 58 = .ok (.aload_n 0, 1) := by decide +kernel
theorem dX7_rowTakes_59 : decode cX7_rowTakes 59 = .ok (.getfield 17, 3) := by decide +kernel
theorem dX7_rowTakes_62 : decode cX7_rowTakes 62 = .ok (.iload_n 2, 1) := by decide +kernel
theorem dX7_rowTakes_63 : decode cX7_rowTakes 63 = .ok (.iaload, 1) := by decide +kernel
theorem dX7_rowTakes_64 : decode cX7_rowTakes 64 = .ok (.iload_n 3, 1) := by decide +kernel
theorem dX7_rowTakes_65 : decode cX7_rowTakes 65 = .ok (.isub, 1) := by decide +kernel
theorem dX7_rowTakes_66 : decode cX7_rowTakes 66 = .ok (.goto 4, 3) := by decide +kernel
theorem dX7_rowTakes_69 : decode cX7_rowTakes 69 = .ok (.iconst 0, 1) := by decide +kernel
theorem dX7_rowTakes_70 : decode cX7_rowTakes 70 = .ok (.invokevirtual 155, 3) := by decide +kernel
theorem dX7_rowTakes_73 : decode cX7_rowTakes 73 = .ok (.ifCond .eq 27, 3) := by decide +kernel
theorem dX7_rowTakes_76 : decode cX7_rowTakes 76 = .ok (.aload_n 0, 1) := by decide +kernel
theorem dX7_rowTakes_77 : decode cX7_rowTakes 77 = .ok (.getfield 17, 3) := by decide +kernel
theorem dX7_rowTakes_80 : decode cX7_rowTakes 80 = .ok (.iload_n 2, 1) := by decide +kernel
theorem dX7_rowTakes_81 : decode cX7_rowTakes 81 = .ok (.iaload, 1) := by decide +kernel
theorem dX7_rowTakes_82 : decode cX7_rowTakes 82 = .ok (.iload_n 3, 1) := by decide +kernel
theorem dX7_rowTakes_83 : decode cX7_rowTakes 83 = .ok (.if_icmp .gt 13, 3) := by decide +kernel
theorem dX7_rowTakes_86 : decode cX7_rowTakes 86 = .ok (.aload_n 0, 1) := by decide +kernel
theorem dX7_rowTakes_87 : decode cX7_rowTakes 87 = .ok (.getfield 23, 3) := by decide +kernel
theorem dX7_rowTakes_90 : decode cX7_rowTakes 90 = .ok (.iload_n 2, 1) := by decide +kernel
theorem dX7_rowTakes_91 : decode cX7_rowTakes 91 = .ok (.iaload, 1) := by decide +kernel
theorem dX7_rowTakes_92 : decode cX7_rowTakes 92 = .ok (.iconst 1, 1) := by decide +kernel
theorem dX7_rowTakes_93 : decode cX7_rowTakes 93 = .ok (.if_icmp .ne 7, 3) := by decide +kernel
theorem dX7_rowTakes_96 : decode cX7_rowTakes 96 = .ok (.iconst 1, 1) := by decide +kernel
theorem dX7_rowTakes_97 : decode cX7_rowTakes 97 = .ok (.goto 4, 3) := by decide +kernel
theorem dX7_rowTakes_100 : decode cX7_rowTakes 100 = .ok (.iconst 0, 1) := by decide +kernel
theorem dX7_rowTakes_101 : decode cX7_rowTakes 101 = .ok (.ireturn, 1) := by decide +kernel
theorem dX7_takes_0 : decode cX7_takes 0 = .ok (.aload_n 0, 1) := by decide +kernel
theorem dX7_takes_1 : decode cX7_takes 1 = .ok (.getfield 13, 3) := by decide +kernel
theorem dX7_takes_4 : decode cX7_takes 4 = .ok (.iload_n 1, 1) := by decide +kernel
theorem dX7_takes_5 : decode cX7_takes 5 = .ok (.iaload, 1) := by decide +kernel
theorem dX7_takes_6 : decode cX7_takes 6 = .ok (.iconst 1, 1) := by decide +kernel
theorem dX7_takes_7 : decode cX7_takes 7 = .ok (.if_icmp .ne 5, 3) := by decide +kernel
theorem dX7_takes_10 : decode cX7_takes 10 = .ok (.iconst 1, 1) := by decide +kernel
theorem dX7_takes_11 : decode cX7_takes 11 = .ok (.ireturn, 1) := by decide +kernel
theorem dX7_takes_12 : decode cX7_takes 12 = .ok (.aload_n 0, 1) := by decide +kernel
theorem dX7_takes_13 : decode cX7_takes 13 = .ok (.getfield 13, 3) := by decide +kernel
theorem dX7_takes_16 : decode cX7_takes 16 = .ok (.iload_n 1, 1) := by decide +kernel
theorem dX7_takes_17 : decode cX7_takes 17 = .ok (.iaload, 1) := by decide +kernel
theorem dX7_takes_18 : decode cX7_takes 18 = .ok (.aload_n 0, 1) := by decide +kernel
theorem dX7_takes_19 : decode cX7_takes 19 = .ok (.getfield 13, 3) := by decide +kernel
theorem dX7_takes_22 : decode cX7_takes 22 = .ok (.iload_n 2, 1) := by decide +kernel
theorem dX7_takes_23 : decode cX7_takes 23 = .ok (.iaload, 1) := by decide +kernel
theorem dX7_takes_24 : decode cX7_takes 24 = .ok (.if_icmp .eq 5, 3) := by decide +kernel
theorem dX7_takes_27 : decode cX7_takes 27 = .ok (.iconst 0, 1) := by decide +kernel
theorem dX7_takes_28 : decode cX7_takes 28 = .ok (.ireturn, 1) := by decide +kernel
theorem dX7_takes_29 : decode cX7_takes 29 = .ok (.aload_n 0, 1) := by decide +kernel
theorem dX7_takes_30 : decode cX7_takes 30 = .ok (.getfield 13, 3) := by decide +kernel
theorem dX7_takes_33 : decode cX7_takes 33 = .ok (.iload_n 1, 1) := by decide +kernel
theorem dX7_takes_34 : decode cX7_takes 34 = .ok (.iaload, 1) := by decide +kernel
theorem dX7_takes_35 : decode cX7_takes 35 = .ok (.iconst 2, 1) := by decide +kernel
theorem dX7_takes_36 : decode cX7_takes 36 = .ok (.if_icmp .ne 40, 3) := by decide +kernel
theorem dX7_takes_39 : decode cX7_takes 39 = .ok (.aload_n 0, 1) := by decide +kernel
theorem dX7_takes_40 : decode cX7_takes 40 = .ok (.iload_n 1, 1) := by decide +kernel
theorem dX7_takes_41 : decode cX7_takes 41 = .ok (.iload_n 2, 1) := by decide +kernel
theorem dX7_takes_42 : decode cX7_takes 42 = .ok (.invokevirtual 162, 3) := by decide +kernel
theorem dX7_takes_45 : decode cX7_takes 45 = .ok (.ifCond .eq 29, 3) := by decide +kernel
theorem dX7_takes_48 : decode cX7_takes 48 = .ok (.aload_n 0, 1) := by decide +kernel
theorem dX7_takes_49 : decode cX7_takes 49 = .ok (.getfield 26, 3) := by decide +kernel
theorem dX7_takes_52 : decode cX7_takes 52 = .ok (.iload_n 1, 1) := by decide +kernel
theorem dX7_takes_53 : decode cX7_takes 53 = .ok (.iaload, 1) := by decide +kernel
theorem dX7_takes_54 : decode cX7_takes 54 = .ok (.aload_n 0, 1) := by decide +kernel
theorem dX7_takes_55 : decode cX7_takes 55 = .ok (.getfield 26, 3) := by decide +kernel
theorem dX7_takes_58 : decode cX7_takes 58 = .ok (.iload_n 2, 1) := by decide +kernel
theorem dX7_takes_59 : decode cX7_takes 59 = .ok (.iaload, 1) := by decide +kernel
theorem dX7_takes_60 : decode cX7_takes 60 = .ok (.iand, 1) := by decide +kernel
theorem dX7_takes_61 : decode cX7_takes 61 = .ok (.aload_n 0, 1) := by decide +kernel
theorem dX7_takes_62 : decode cX7_takes 62 = .ok (.getfield 26, 3) := by decide +kernel
theorem dX7_takes_65 : decode cX7_takes 65 = .ok (.iload_n 2, 1) := by decide +kernel
theorem dX7_takes_66 : decode cX7_takes 66 = .ok (.iaload, 1) := by decide +kernel
theorem dX7_takes_67 : decode cX7_takes 67 = .ok (.if_icmp .ne 7, 3) := by decide +kernel
theorem dX7_takes_70 : decode cX7_takes 70 = .ok (.iconst 1, 1) := by decide +kernel
theorem dX7_takes_71 : decode cX7_takes 71 = .ok (.goto 4, 3) := by decide +kernel
theorem dX7_takes_74 : decode cX7_takes 74 = .ok (.iconst 0, 1) := by decide +kernel
theorem dX7_takes_75 : decode cX7_takes 75 = .ok (.ireturn, 1) := by decide +kernel
theorem dX7_takes_76 : decode cX7_takes 76 = .ok (.aload_n 0, 1) := by decide +kernel
theorem dX7_takes_77 : decode cX7_takes 77 = .ok (.iload_n 1, 1) := by decide +kernel
theorem dX7_takes_78 : decode cX7_takes 78 = .ok (.iload_n 2, 1) := by decide +kernel
theorem dX7_takes_79 : decode cX7_takes 79 = .ok (.invokevirtual 165, 3) := by decide +kernel
theorem dX7_takes_82 : decode cX7_takes 82 = .ok (.ifCond .eq 47, 3) := by decide +kernel
theorem dX7_takes_85 : decode cX7_takes 85 = .ok (.aload_n 0, 1) := by decide +kernel
theorem dX7_takes_86 : decode cX7_takes 86 = .ok (.getfield 13, 3) := by decide +kernel
theorem dX7_takes_89 : decode cX7_takes 89 = .ok (.iload_n 1, 1) := by decide +kernel
theorem dX7_takes_90 : decode cX7_takes 90 = .ok (.iaload, 1) := by decide +kernel
theorem dX7_takes_91 : decode cX7_takes 91 = .ok (.iconst 4, 1) := by decide +kernel
theorem dX7_takes_92 : decode cX7_takes 92 = .ok (.if_icmp .eq 33, 3) := by decide +kernel
theorem dX7_takes_95 : decode cX7_takes 95 = .ok (.aload_n 0, 1) := by decide +kernel
theorem dX7_takes_96 : decode cX7_takes 96 = .ok (.getfield 29, 3) := by decide +kernel
theorem dX7_takes_99 : decode cX7_takes 99 = .ok (.iload_n 1, 1) := by decide +kernel
theorem dX7_takes_100 : decode cX7_takes 100 = .ok (.iaload, 1) := by decide +kernel
theorem dX7_takes_101 : decode cX7_takes 101 = .ok (.aload_n 0, 1) := by decide +kernel
theorem dX7_takes_102 : decode cX7_takes 102 = .ok (.getfield 29, 3) := by decide +kernel
theorem dX7_takes_105 : decode cX7_takes 105 = .ok (.iload_n 2, 1) := by decide +kernel
theorem dX7_takes_106 : decode cX7_takes 106 = .ok (.iaload, 1) := by decide +kernel
theorem dX7_takes_107 : decode cX7_takes 107 = .ok (.if_icmp .gt 22, 3) := by decide +kernel
theorem dX7_takes_110 : decode cX7_takes 110 = .ok (.aload_n 0, 1) := by decide +kernel
theorem dX7_takes_111 : decode cX7_takes 111 = .ok (.getfield 32, 3) := by decide +kernel
theorem dX7_takes_114 : decode cX7_takes 114 = .ok (.iload_n 2, 1) := by decide +kernel
theorem dX7_takes_115 : decode cX7_takes 115 = .ok (.iaload, 1) := by decide +kernel
theorem dX7_takes_116 : decode cX7_takes 116 = .ok (.aload_n 0, 1) := by decide +kernel
theorem dX7_takes_117 : decode cX7_takes 117 = .ok (.getfield 32, 3) := by decide +kernel
theorem dX7_takes_120 : decode cX7_takes 120 = .ok (.iload_n 1, 1) := by decide +kernel
theorem dX7_takes_121 : decode cX7_takes 121 = .ok (.iaload, 1) := by decide +kernel
theorem dX7_takes_122 : decode cX7_takes 122 = .ok (.if_icmp .gt 7, 3) := by decide +kernel
theorem dX7_takes_125 : decode cX7_takes 125 = .ok (.iconst 1, 1) := by decide +kernel
theorem dX7_takes_126 : decode cX7_takes 126 = .ok (.goto 4, 3) := by decide +kernel
theorem dX7_takes_129 : decode cX7_takes 129 = .ok (.iconst 0, 1) := by decide +kernel
theorem dX7_takes_130 : decode cX7_takes 130 = .ok (.ireturn, 1) := by decide +kernel
theorem dX7_takesIn_0 : decode cX7_takesIn 0 = .ok (.aload_n 0, 1) := by decide +kernel
theorem dX7_takesIn_1 : decode cX7_takesIn 1 = .ok (.aload_n 0, 1) := by decide +kernel
theorem dX7_takesIn_2 : decode cX7_takesIn 2 = .ok (.iload_n 1, 1) := by decide +kernel
theorem dX7_takesIn_3 : decode cX7_takesIn 3 = .ok (.invokevirtual 148, 3) := by decide +kernel
theorem dX7_takesIn_6 : decode cX7_takesIn 6 = .ok (.ifCond .eq 15, 3) := by decide +kernel
theorem dX7_takesIn_9 : decode cX7_takesIn 9 = .ok (.aload_n 0, 1) := by decide +kernel
theorem dX7_takesIn_10 : decode cX7_takesIn 10 = .ok (.iload_n 2, 1) := by decide +kernel
theorem dX7_takesIn_11 : decode cX7_takesIn 11 = .ok (.invokevirtual 148, 3) := by decide +kernel
theorem dX7_takesIn_14 : decode cX7_takesIn 14 = .ok (.ifCond .eq 7, 3) := by decide +kernel
theorem dX7_takesIn_17 : decode cX7_takesIn 17 = .ok (.iconst 0, 1) := by decide +kernel
theorem dX7_takesIn_18 : decode cX7_takesIn 18 = .ok (.goto 4, 3) := by decide +kernel
theorem dX7_takesIn_21 : decode cX7_takesIn 21 = .ok (.iconst 1, 1) := by decide +kernel
theorem dX7_takesIn_22 : decode cX7_takesIn 22 = .ok (.putfield 69, 3) := by decide +kernel
theorem dX7_takesIn_25 : decode cX7_takesIn 25 = .ok (.aload_n 0, 1) := by decide +kernel
theorem dX7_takesIn_26 : decode cX7_takesIn 26 = .ok (.getfield 69, 3) := by decide +kernel
theorem dX7_takesIn_29 : decode cX7_takesIn 29 = .ok (.ifCond .ne 16, 3) := by decide +kernel
theorem dX7_takesIn_32 : decode cX7_takesIn 32 = .ok (.aload_n 0, 1) := by decide +kernel
theorem dX7_takesIn_33 : decode cX7_takesIn 33 = .ok (.iload_n 1, 1) := by decide +kernel
theorem dX7_takesIn_34 : decode cX7_takesIn 34 = .ok (.iload_n 2, 1) := by decide +kernel
theorem dX7_takesIn_35 : decode cX7_takesIn 35 = .ok (.invokevirtual 168, 3) := by decide +kernel
theorem dX7_takesIn_38 : decode cX7_takesIn 38 = .ok (.ifCond .eq 7, 3) := by decide +kernel
theorem dX7_takesIn_41 : decode cX7_takesIn 41 = .ok (.iconst 1, 1) := by decide +kernel
theorem dX7_takesIn_42 : decode cX7_takesIn 42 = .ok (.goto 4, 3) := by decide +kernel
theorem dX7_takesIn_45 : decode cX7_takesIn 45 = .ok (.iconst 0, 1) := by decide +kernel
theorem dX7_takesIn_46 : decode cX7_takesIn 46 = .ok (.ireturn, 1) := by decide +kernel
theorem dX7_granted_0 : decode cX7_granted 0 = .ok (.iconst 0, 1) := by decide +kernel
theorem dX7_granted_1 : decode cX7_granted 1 = .ok (.istore_n 3, 1) := by decide +kernel
theorem dX7_granted_2 : decode cX7_granted 2 = .ok (.iconst 0, 1) := by decide +kernel
theorem dX7_granted_3 : decode cX7_granted 3 = .ok (.istore 4, 2) := by decide +kernel
theorem dX7_granted_5 : decode cX7_granted 5 = .ok (.iload 4, 2) := by decide +kernel
theorem dX7_granted_7 : decode cX7_granted 7 = .ok (.aload_n 0, 1) := by decide +kernel
theorem dX7_granted_8 : decode cX7_granted 8 = .ok (.getfield 38, 3) := by decide +kernel
theorem dX7_granted_11 : decode cX7_granted 11 = .ok (.iload_n 1, 1) := by decide +kernel
theorem dX7_granted_12 : decode cX7_granted 12 = .ok (.iaload, 1) := by decide +kernel
theorem dX7_granted_13 : decode cX7_granted 13 = .ok (.if_icmp .ge 37, 3) := by decide +kernel
theorem dX7_granted_16 : decode cX7_granted 16 = .ok (.iload_n 3, 1) := by decide +kernel
theorem dX7_granted_17 : decode cX7_granted 17 = .ok (.ifCond .ne 21, 3) := by decide +kernel
theorem dX7_granted_20 : decode cX7_granted 20 = .ok (.aload_n 0, 1) := by decide +kernel
theorem dX7_granted_21 : decode cX7_granted 21 = .ok (.bipush 8, 2) := by decide +kernel
theorem dX7_granted_23 : decode cX7_granted 23 = .ok (.bipush 6, 2) := by decide +kernel
theorem dX7_granted_25 : decode cX7_granted 25 = .ok (.iload_n 1, 1) := by decide +kernel
theorem dX7_granted_26 : decode cX7_granted 26 = .ok (.imul, 1) := by decide +kernel
theorem dX7_granted_27 : decode cX7_granted 27 = .ok (.iadd, 1) := by decide +kernel
theorem dX7_granted_28 : decode cX7_granted 28 = .ok (.iload 4, 2) := by decide +kernel
theorem dX7_granted_30 : decode cX7_granted 30 = .ok (.iadd, 1) := by decide +kernel
theorem dX7_granted_31 : decode cX7_granted 31 = .ok (.iload_n 2, 1) := by decide +kernel
theorem dX7_granted_32 : decode cX7_granted 32 = .ok (.invokevirtual 168, 3) := by decide +kernel
theorem dX7_granted_35 : decode cX7_granted 35 = .ok (.ifCond .eq 7, 3) := by decide +kernel
theorem dX7_granted_38 : decode cX7_granted 38 = .ok (.iconst 1, 1) := by decide +kernel
theorem dX7_granted_39 : decode cX7_granted 39 = .ok (.goto 4, 3) := by decide +kernel
theorem dX7_granted_42 : decode cX7_granted 42 = .ok (.iconst 0, 1) := by decide +kernel
theorem dX7_granted_43 : decode cX7_granted 43 = .ok (.istore_n 3, 1) := by decide +kernel
theorem dX7_granted_44 : decode cX7_granted 44 = .ok (.iinc 4 1, 3) := by decide +kernel
theorem dX7_granted_47 : decode cX7_granted 47 = .ok (.goto (-42), 3) := by decide +kernel
theorem dX7_granted_50 : decode cX7_granted 50 = .ok (.iload_n 3, 1) := by decide +kernel
theorem dX7_granted_51 : decode cX7_granted 51 = .ok (.ireturn, 1) := by decide +kernel
theorem dX7_mayDo_0 : decode cX7_mayDo 0 = .ok (.aload_n 0, 1) := by decide +kernel
theorem dX7_mayDo_1 : decode cX7_mayDo 1 = .ok (.iload_n 1, 1) := by decide +kernel
theorem dX7_mayDo_2 : decode cX7_mayDo 2 = .ok (.iload_n 2, 1) := by decide +kernel
theorem dX7_mayDo_3 : decode cX7_mayDo 3 = .ok (.invokevirtual 171, 3) := by decide +kernel
theorem dX7_mayDo_6 : decode cX7_mayDo 6 = .ok (.ifCond .eq 5, 3) := by decide +kernel
theorem dX7_mayDo_9 : decode cX7_mayDo 9 = .ok (.iconst 1, 1) := by decide +kernel
theorem dX7_mayDo_10 : decode cX7_mayDo 10 = .ok (.ireturn, 1) := by decide +kernel
theorem dX7_mayDo_11 : decode cX7_mayDo 11 = .ok (.aload_n 0, 1) := by decide +kernel
theorem dX7_mayDo_12 : decode cX7_mayDo 12 = .ok (.getfield 13, 3) := by decide +kernel
theorem dX7_mayDo_15 : decode cX7_mayDo 15 = .ok (.iload_n 2, 1) := by decide +kernel
theorem dX7_mayDo_16 : decode cX7_mayDo 16 = .ok (.iaload, 1) := by decide +kernel
theorem dX7_mayDo_17 : decode cX7_mayDo 17 = .ok (.iconst 2, 1) := by decide +kernel
theorem dX7_mayDo_18 : decode cX7_mayDo 18 = .ok (.if_icmp .ne 7, 3) := by decide +kernel
theorem dX7_mayDo_21 : decode cX7_mayDo 21 = .ok (.iconst 1, 1) := by decide +kernel
theorem dX7_mayDo_22 : decode cX7_mayDo 22 = .ok (.goto 4, 3) := by decide +kernel
theorem dX7_mayDo_25 : decode cX7_mayDo 25 = .ok (.iconst 0, 1) := by decide +kernel
theorem dX7_mayDo_26 : decode cX7_mayDo 26 = .ok (.istore_n 3, 1) := by decide +kernel
theorem dX7_mayDo_27 : decode cX7_mayDo 27 = .ok (.aload_n 0, 1) := by decide +kernel
theorem dX7_mayDo_28 : decode cX7_mayDo 28 = .ok (.iload_n 2, 1) := by decide +kernel
theorem dX7_mayDo_29 : decode cX7_mayDo 29 = .ok (.bipush 85, 2) := by decide +kernel
theorem dX7_mayDo_31 : decode cX7_mayDo 31 = .ok (.invokevirtual 134, 3) := by decide +kernel
theorem dX7_mayDo_34 : decode cX7_mayDo 34 = .ok (.iconst 0, 1) := by decide +kernel
theorem dX7_mayDo_35 : decode cX7_mayDo 35 = .ok (.istore 4, 2) := by decide +kernel
theorem dX7_mayDo_37 : decode cX7_mayDo 37 = .ok (.iload 4, 2) := by decide +kernel
theorem dX7_mayDo_39 : decode cX7_mayDo 39 = .ok (.iconst 4, 1) := by decide +kernel
theorem dX7_mayDo_40 : decode cX7_mayDo 40 = .ok (.if_icmp .ge 57, 3) := by decide +kernel
theorem dX7_mayDo_43 : decode cX7_mayDo 43 = .ok (.iload_n 3, 1) := by decide +kernel
theorem dX7_mayDo_44 : decode cX7_mayDo 44 = .ok (.ifCond .eq 53, 3) := by decide +kernel
theorem dX7_mayDo_47 : decode cX7_mayDo 47 = .ok (.aload_n 0, 1) := by decide +kernel
theorem dX7_mayDo_48 : decode cX7_mayDo 48 = .ok (.getfield 26, 3) := by decide +kernel
theorem dX7_mayDo_51 : decode cX7_mayDo 51 = .ok (.bipush 85, 2) := by decide +kernel
theorem dX7_mayDo_53 : decode cX7_mayDo 53 = .ok (.aload_n 0, 1) := by decide +kernel
theorem dX7_mayDo_54 : decode cX7_mayDo 54 = .ok (.getfield 26, 3) := by decide +kernel
theorem dX7_mayDo_57 : decode cX7_mayDo 57 = .ok (.iload_n 2, 1) := by decide +kernel
theorem dX7_mayDo_58 : decode cX7_mayDo 58 = .ok (.iaload, 1) := by decide +kernel
theorem dX7_mayDo_59 : decode cX7_mayDo 59 = .ok (.iconst 1, 1) := by decide +kernel
theorem dX7_mayDo_60 : decode cX7_mayDo 60 = .ok (.iload 4, 2) := by decide +kernel
theorem dX7_mayDo_62 : decode cX7_mayDo 62 = .ok (.ishl, 1) := by decide +kernel
theorem dX7_mayDo_63 : decode cX7_mayDo 63 = .ok (.iand, 1) := by decide +kernel
theorem dX7_mayDo_64 : decode cX7_mayDo 64 = .ok (.iastore, 1) := by decide +kernel
theorem dX7_mayDo_65 : decode cX7_mayDo 65 = .ok (.aload_n 0, 1) := by decide +kernel
theorem dX7_mayDo_66 : decode cX7_mayDo 66 = .ok (.getfield 26, 3) := by decide +kernel
theorem dX7_mayDo_69 : decode cX7_mayDo 69 = .ok (.bipush 85, 2) := by decide +kernel
theorem dX7_mayDo_71 : decode cX7_mayDo 71 = .ok (.iaload, 1) := by decide +kernel
theorem dX7_mayDo_72 : decode cX7_mayDo 72 = .ok (.ifCond .eq 13, 3) := by decide +kernel
theorem dX7_mayDo_75 : decode cX7_mayDo 75 = .ok (.aload_n 0, 1) := by decide +kernel
theorem dX7_mayDo_76 : decode cX7_mayDo 76 = .ok (.iload_n 1, 1) := by decide +kernel
theorem dX7_mayDo_77 : decode cX7_mayDo 77 = .ok (.bipush 85, 2) := by decide +kernel
theorem dX7_mayDo_79 : decode cX7_mayDo 79 = .ok (.invokevirtual 171, 3) := by decide +kernel
theorem dX7_mayDo_82 : decode cX7_mayDo 82 = .ok (.ifCond .eq 7, 3) := by decide +kernel
theorem dX7_mayDo_85 : decode cX7_mayDo 85 = .ok (.iconst 1, 1) := by decide +kernel
theorem dX7_mayDo_86 : decode cX7_mayDo 86 = .ok (.goto 4, 3) := by decide +kernel
theorem dX7_mayDo_89 : decode cX7_mayDo 89 = .ok (.iconst 0, 1) := by decide +kernel
theorem dX7_mayDo_90 : decode cX7_mayDo 90 = .ok (.istore_n 3, 1) := by decide +kernel
theorem dX7_mayDo_91 : decode cX7_mayDo 91 = .ok (.iinc 4 1, 3) := by decide +kernel
theorem dX7_mayDo_94 : decode cX7_mayDo 94 = .ok (.goto (-57), 3) := by decide +kernel
theorem dX7_mayDo_97 : decode cX7_mayDo 97 = .ok (.iload_n 3, 1) := by decide +kernel
theorem dX7_mayDo_98 : decode cX7_mayDo 98 = .ok (.ireturn, 1) := by decide +kernel
theorem dX7_grant_0 : decode cX7_grant 0 = .ok (.aload_n 0, 1) := by decide +kernel
theorem dX7_grant_1 : decode cX7_grant 1 = .ok (.iconst 0, 1) := by decide +kernel
theorem dX7_grant_2 : decode cX7_grant 2 = .ok (.putfield 69, 3) := by decide +kernel
theorem dX7_grant_5 : decode cX7_grant 5 = .ok (.iload_n 1, 1) := by decide +kernel
theorem dX7_grant_6 : decode cX7_grant 6 = .ok (.iconst 0, 1) := by decide +kernel
theorem dX7_grant_7 : decode cX7_grant 7 = .ok (.iconst 5, 1) := by decide +kernel
theorem dX7_grant_8 : decode cX7_grant 8 = .ok (.invokestatic 123, 3) := by decide +kernel
theorem dX7_grant_11 : decode cX7_grant 11 = .ok (.ifCond .eq 11, 3) := by decide +kernel
theorem dX7_grant_14 : decode cX7_grant 14 = .ok (.aload_n 0, 1) := by decide +kernel
theorem dX7_grant_15 : decode cX7_grant 15 = .ok (.iload_n 2, 1) := by decide +kernel
theorem dX7_grant_16 : decode cX7_grant 16 = .ok (.invokevirtual 148, 3) := by decide +kernel
theorem dX7_grant_19 : decode cX7_grant 19 = .ok (.ifCond .ne 9, 3) := by decide +kernel
theorem dX7_grant_22 : decode cX7_grant 22 = .ok (.aload_n 0, 1) := by decide +kernel
theorem dX7_grant_23 : decode cX7_grant 23 = .ok (.iconst 1, 1) := by decide +kernel
theorem dX7_grant_24 : decode cX7_grant 24 = .ok (.invokevirtual 127, 3) := by decide +kernel
theorem dX7_grant_27 : decode cX7_grant 27 = .ok (.ireturn, 1) := by decide +kernel
theorem dX7_grant_28 : decode cX7_grant 28 = .ok (.aload_n 0, 1) := by decide +kernel
theorem dX7_grant_29 : decode cX7_grant 29 = .ok (.getfield 38, 3) := by decide +kernel
theorem dX7_grant_32 : decode cX7_grant 32 = .ok (.iload_n 1, 1) := by decide +kernel
theorem dX7_grant_33 : decode cX7_grant 33 = .ok (.iaload, 1) := by decide +kernel
theorem dX7_grant_34 : decode cX7_grant 34 = .ok (.bipush 6, 2) := by decide +kernel
theorem dX7_grant_36 : decode cX7_grant 36 = .ok (.if_icmp .ne 9, 3) := by decide +kernel
theorem dX7_grant_39 : decode cX7_grant 39 = .ok (.aload_n 0, 1) := by decide +kernel
theorem dX7_grant_40 : decode cX7_grant 40 = .ok (.iconst 2, 1) := by decide +kernel
theorem dX7_grant_41 : decode cX7_grant 41 = .ok (.invokevirtual 127, 3) := by decide +kernel
theorem dX7_grant_44 : decode cX7_grant 44 = .ok (.ireturn, 1) := by decide +kernel
theorem dX7_grant_45 : decode cX7_grant 45 = .ok (.aload_n 0, 1) := by decide +kernel
theorem dX7_grant_46 : decode cX7_grant 46 = .ok (.iload_n 2, 1) := by decide +kernel
theorem dX7_grant_47 : decode cX7_grant 47 = .ok (.bipush 8, 2) := by decide +kernel
theorem dX7_grant_49 : decode cX7_grant 49 = .ok (.bipush 6, 2) := by decide +kernel
theorem dX7_grant_51 : decode cX7_grant 51 = .ok (.iload_n 1, 1) := by decide +kernel
theorem dX7_grant_52 : decode cX7_grant 52 = .ok (.imul, 1) := by decide +kernel
theorem dX7_grant_53 : decode cX7_grant 53 = .ok (.iadd, 1) := by decide +kernel
theorem dX7_grant_54 : decode cX7_grant 54 = .ok (.aload_n 0, 1) := by decide +kernel
theorem dX7_grant_55 : decode cX7_grant 55 = .ok (.getfield 38, 3) := by decide +kernel
theorem dX7_grant_58 : decode cX7_grant 58 = .ok (.iload_n 1, 1) := by decide +kernel
theorem dX7_grant_59 : decode cX7_grant 59 = .ok (.iaload, 1) := by decide +kernel
theorem dX7_grant_60 : decode cX7_grant 60 = .ok (.iadd, 1) := by decide +kernel
theorem dX7_grant_61 : decode cX7_grant 61 = .ok (.invokevirtual 134, 3) := by decide +kernel
theorem dX7_grant_64 : decode cX7_grant 64 = .ok (.aload_n 0, 1) := by decide +kernel
theorem dX7_grant_65 : decode cX7_grant 65 = .ok (.getfield 38, 3) := by decide +kernel
theorem dX7_grant_68 : decode cX7_grant 68 = .ok (.iload_n 1, 1) := by decide +kernel
theorem dX7_grant_69 : decode cX7_grant 69 = .ok (.dup2, 1) := by decide +kernel
theorem dX7_grant_70 : decode cX7_grant 70 = .ok (.iaload, 1) := by decide +kernel
theorem dX7_grant_71 : decode cX7_grant 71 = .ok (.iconst 1, 1) := by decide +kernel
theorem dX7_grant_72 : decode cX7_grant 72 = .ok (.iadd, 1) := by decide +kernel
theorem dX7_grant_73 : decode cX7_grant 73 = .ok (.iastore, 1) := by decide +kernel
theorem dX7_grant_74 : decode cX7_grant 74 = .ok (.aload_n 0, 1) := by decide +kernel
theorem dX7_grant_75 : decode cX7_grant 75 = .ok (.getfield 38, 3) := by decide +kernel
theorem dX7_grant_78 : decode cX7_grant 78 = .ok (.iload_n 1, 1) := by decide +kernel
theorem dX7_grant_79 : decode cX7_grant 79 = .ok (.iaload, 1) := by decide +kernel
theorem dX7_grant_80 : decode cX7_grant 80 = .ok (.ireturn, 1) := by decide +kernel
theorem dX7_revoke_0 : decode cX7_revoke 0 = .ok (.aload_n 0, 1) := by decide +kernel
theorem dX7_revoke_1 : decode cX7_revoke 1 = .ok (.iconst 0, 1) := by decide +kernel
theorem dX7_revoke_2 : decode cX7_revoke 2 = .ok (.putfield 69, 3) := by decide +kernel
theorem dX7_revoke_5 : decode cX7_revoke 5 = .ok (.iload_n 1, 1) := by decide +kernel
theorem dX7_revoke_6 : decode cX7_revoke 6 = .ok (.iconst 0, 1) := by decide +kernel
theorem dX7_revoke_7 : decode cX7_revoke 7 = .ok (.iconst 5, 1) := by decide +kernel
theorem dX7_revoke_8 : decode cX7_revoke 8 = .ok (.invokestatic 123, 3) := by decide +kernel
theorem dX7_revoke_11 : decode cX7_revoke 11 = .ok (.ifCond .ne 9, 3) := by decide +kernel
theorem dX7_revoke_14 : decode cX7_revoke 14 = .ok (.aload_n 0, 1) := by decide +kernel
theorem dX7_revoke_15 : decode cX7_revoke 15 = .ok (.iconst 1, 1) := by decide +kernel
theorem dX7_revoke_16 : decode cX7_revoke 16 = .ok (.invokevirtual 127, 3) := by decide +kernel
theorem dX7_revoke_19 : decode cX7_revoke 19 = .ok (.ireturn, 1) := by decide +kernel
theorem dX7_revoke_20 : decode cX7_revoke 20 = .ok (.iload_n 2, 1) := by decide +kernel
theorem dX7_revoke_21 : decode cX7_revoke 21 = .ok (.iconst 0, 1) := by decide +kernel
theorem dX7_revoke_22 : decode cX7_revoke 22 = .ok (.aload_n 0, 1) := by decide +kernel
theorem dX7_revoke_23 : decode cX7_revoke 23 = .ok (.getfield 38, 3) := by decide +kernel
theorem dX7_revoke_26 : decode cX7_revoke 26 = .ok (.iload_n 1, 1) := by decide +kernel
theorem dX7_revoke_27 : decode cX7_revoke 27 = .ok (.iaload, 1) := by decide +kernel
theorem dX7_revoke_28 : decode cX7_revoke 28 = .ok (.iconst 1, 1) := by decide +kernel
theorem dX7_revoke_29 : decode cX7_revoke 29 = .ok (.isub, 1) := by decide +kernel
theorem dX7_revoke_30 : decode cX7_revoke 30 = .ok (.invokestatic 123, 3) := by decide +kernel
theorem dX7_revoke_33 : decode cX7_revoke 33 = .ok (.ifCond .ne 9, 3) := by decide +kernel
theorem dX7_revoke_36 : decode cX7_revoke 36 = .ok (.aload_n 0, 1) := by decide +kernel
theorem dX7_revoke_37 : decode cX7_revoke 37 = .ok (.iconst 2, 1) := by decide +kernel
theorem dX7_revoke_38 : decode cX7_revoke 38 = .ok (.invokevirtual 127, 3) := by decide +kernel
theorem dX7_revoke_41 : decode cX7_revoke 41 = .ok (.ireturn, 1) := by decide +kernel
theorem dX7_revoke_42 : decode cX7_revoke 42 = .ok (.iload_n 2, 1) := by decide +kernel
theorem dX7_revoke_43 : decode cX7_revoke 43 = .ok (.istore_n 3, 1) := by decide +kernel
theorem dX7_revoke_44 : decode cX7_revoke 44 = .ok (.iload_n 3, 1) := by decide +kernel
theorem dX7_revoke_45 : decode cX7_revoke 45 = .ok (.iconst 1, 1) := by decide +kernel
theorem dX7_revoke_46 : decode cX7_revoke 46 = .ok (.iadd, 1) := by decide +kernel
theorem dX7_revoke_47 : decode cX7_revoke 47 = .ok (.aload_n 0, 1) := by decide +kernel
theorem dX7_revoke_48 : decode cX7_revoke 48 = .ok (.getfield 38, 3) := by decide +kernel
theorem dX7_revoke_51 : decode cX7_revoke 51 = .ok (.iload_n 1, 1) := by decide +kernel
theorem dX7_revoke_52 : decode cX7_revoke 52 = .ok (.iaload, 1) := by decide +kernel
theorem dX7_revoke_53 : decode cX7_revoke 53 = .ok (.if_icmp .ge 31, 3) := by decide +kernel
theorem dX7_revoke_56 : decode cX7_revoke 56 = .ok (.aload_n 0, 1) := by decide +kernel
theorem dX7_revoke_57 : decode cX7_revoke 57 = .ok (.bipush 9, 2) := by decide +kernel
theorem dX7_revoke_59 : decode cX7_revoke 59 = .ok (.bipush 6, 2) := by decide +kernel
theorem dX7_revoke_61 : decode cX7_revoke 61 = .ok (.iload_n 1, 1) := by decide +kernel
theorem dX7_revoke_62 : decode cX7_revoke 62 = .ok (.imul, 1) := by decide +kernel
theorem dX7_revoke_63 : decode cX7_revoke 63 = .ok (.iadd, 1) := by decide +kernel
theorem dX7_revoke_64 : decode cX7_revoke 64 = .ok (.iload_n 3, 1) := by decide +kernel
theorem dX7_revoke_65 : decode cX7_revoke 65 = .ok (.iadd, 1) := by decide +kernel
theorem dX7_revoke_66 : decode cX7_revoke 66 = .ok (.bipush 8, 2) := by decide +kernel
theorem dX7_revoke_68 : decode cX7_revoke 68 = .ok (.bipush 6, 2) := by decide +kernel
theorem dX7_revoke_70 : decode cX7_revoke 70 = .ok (.iload_n 1, 1) := by decide +kernel
theorem dX7_revoke_71 : decode cX7_revoke 71 = .ok (.imul, 1) := by decide +kernel
theorem dX7_revoke_72 : decode cX7_revoke 72 = .ok (.iadd, 1) := by decide +kernel
theorem dX7_revoke_73 : decode cX7_revoke 73 = .ok (.iload_n 3, 1) := by decide +kernel
theorem dX7_revoke_74 : decode cX7_revoke 74 = .ok (.iadd, 1) := by decide +kernel
theorem dX7_revoke_75 : decode cX7_revoke 75 = .ok (.invokevirtual 134, 3) := by decide +kernel
theorem dX7_revoke_78 : decode cX7_revoke 78 = .ok (.iinc 3 1, 3) := by decide +kernel
theorem dX7_revoke_81 : decode cX7_revoke 81 = .ok (.goto (-37), 3) := by decide +kernel
theorem dX7_revoke_84 : decode cX7_revoke 84 = .ok (.aload_n 0, 1) := by decide +kernel
theorem dX7_revoke_85 : decode cX7_revoke 85 = .ok (.getfield 38, 3) := by decide +kernel
theorem dX7_revoke_88 : decode cX7_revoke 88 = .ok (.iload_n 1, 1) := by decide +kernel
theorem dX7_revoke_89 : decode cX7_revoke 89 = .ok (.dup2, 1) := by decide +kernel
theorem dX7_revoke_90 : decode cX7_revoke 90 = .ok (.iaload, 1) := by decide +kernel
theorem dX7_revoke_91 : decode cX7_revoke 91 = .ok (.iconst 1, 1) := by decide +kernel
theorem dX7_revoke_92 : decode cX7_revoke 92 = .ok (.isub, 1) := by decide +kernel
theorem dX7_revoke_93 : decode cX7_revoke 93 = .ok (.iastore, 1) := by decide +kernel
theorem dX7_revoke_94 : decode cX7_revoke 94 = .ok (.aload_n 0, 1) := by decide +kernel
theorem dX7_revoke_95 : decode cX7_revoke 95 = .ok (.getfield 38, 3) := by decide +kernel
theorem dX7_revoke_98 : decode cX7_revoke 98 = .ok (.iload_n 1, 1) := by decide +kernel
theorem dX7_revoke_99 : decode cX7_revoke 99 = .ok (.iaload, 1) := by decide +kernel
theorem dX7_revoke_100 : decode cX7_revoke 100 = .ok (.ireturn, 1) := by decide +kernel
theorem dX7_may_0 : decode cX7_may 0 = .ok (.aload_n 0, 1) := by decide +kernel
theorem dX7_may_1 : decode cX7_may 1 = .ok (.iload_n 1, 1) := by decide +kernel
theorem dX7_may_2 : decode cX7_may 2 = .ok (.iconst 0, 1) := by decide +kernel
theorem dX7_may_3 : decode cX7_may 3 = .ok (.iconst 5, 1) := by decide +kernel
theorem dX7_may_4 : decode cX7_may 4 = .ok (.invokestatic 123, 3) := by decide +kernel
theorem dX7_may_7 : decode cX7_may 7 = .ok (.ifCond .eq 15, 3) := by decide +kernel
theorem dX7_may_10 : decode cX7_may 10 = .ok (.aload_n 0, 1) := by decide +kernel
theorem dX7_may_11 : decode cX7_may 11 = .ok (.iload_n 2, 1) := by decide +kernel
theorem dX7_may_12 : decode cX7_may 12 = .ok (.invokevirtual 148, 3) := by decide +kernel
theorem dX7_may_15 : decode cX7_may 15 = .ok (.ifCond .eq 7, 3) := by decide +kernel
theorem dX7_may_18 : decode cX7_may 18 = .ok (.iconst 0, 1) := by decide +kernel
theorem dX7_may_19 : decode cX7_may 19 = .ok (.goto 4, 3) := by decide +kernel
theorem dX7_may_22 : decode cX7_may 22 = .ok (.iconst 1, 1) := by decide +kernel
theorem dX7_may_23 : decode cX7_may 23 = .ok (.putfield 69, 3) := by decide +kernel
theorem dX7_may_26 : decode cX7_may 26 = .ok (.aload_n 0, 1) := by decide +kernel
theorem dX7_may_27 : decode cX7_may 27 = .ok (.getfield 69, 3) := by decide +kernel
theorem dX7_may_30 : decode cX7_may 30 = .ok (.ifCond .ne 16, 3) := by decide +kernel
theorem dX7_may_33 : decode cX7_may 33 = .ok (.aload_n 0, 1) := by decide +kernel
theorem dX7_may_34 : decode cX7_may 34 = .ok (.iload_n 1, 1) := by decide +kernel
theorem dX7_may_35 : decode cX7_may 35 = .ok (.iload_n 2, 1) := by decide +kernel
theorem dX7_may_36 : decode cX7_may 36 = .ok (.invokevirtual 174, 3) := by decide +kernel
theorem dX7_may_39 : decode cX7_may 39 = .ok (.ifCond .eq 7, 3) := by decide +kernel
theorem dX7_may_42 : decode cX7_may 42 = .ok (.iconst 1, 1) := by decide +kernel
theorem dX7_may_43 : decode cX7_may 43 = .ok (.goto 4, 3) := by decide +kernel
theorem dX7_may_46 : decode cX7_may 46 = .ok (.iconst 0, 1) := by decide +kernel
theorem dX7_may_47 : decode cX7_may 47 = .ok (.ireturn, 1) := by decide +kernel
theorem dX7_isThread_0 : decode cX7_isThread 0 = .ok (.iload_n 1, 1) := by decide +kernel
theorem dX7_isThread_1 : decode cX7_isThread 1 = .ok (.iconst 0, 1) := by decide +kernel
theorem dX7_isThread_2 : decode cX7_isThread 2 = .ok (.iconst 3, 1) := by decide +kernel
theorem dX7_isThread_3 : decode cX7_isThread 3 = .ok (.invokestatic 123, 3) := by decide +kernel
theorem dX7_isThread_6 : decode cX7_isThread 6 = .ok (.ifCond .eq 29, 3) := by decide +kernel
theorem dX7_isThread_9 : decode cX7_isThread 9 = .ok (.aload_n 0, 1) := by decide +kernel
theorem dX7_isThread_10 : decode cX7_isThread 10 = .ok (.getfield 41, 3) := by decide +kernel
theorem dX7_isThread_13 : decode cX7_isThread 13 = .ok (.iload_n 1, 1) := by decide +kernel
theorem dX7_isThread_14 : decode cX7_isThread 14 = .ok (.iconst 0, 1) := by decide +kernel
theorem dX7_isThread_15 : decode cX7_isThread 15 = .ok (.iconst 3, 1) := by decide +kernel
theorem dX7_isThread_16 : decode cX7_isThread 16 = .ok (.invokestatic 123, 3) := by decide +kernel
theorem dX7_isThread_19 : decode cX7_isThread 19 = .ok (.ifCond .eq 7, 3) := by decide +kernel
theorem dX7_isThread_22 : decode cX7_isThread 22 = .ok (.iload_n 1, 1) := by decide +kernel
theorem dX7_isThread_23 : decode cX7_isThread 23 = .ok (.goto 4, 3) := by decide +kernel
theorem dX7_isThread_26 : decode cX7_isThread 26 = .ok (.iconst 0, 1) := by decide +kernel
theorem dX7_isThread_27 : decode cX7_isThread 27 = .ok (.baload, 1) := by decide +kernel
theorem dX7_isThread_28 : decode cX7_isThread 28 = .ok (.ifCond .eq 7, 3) := by decide +kernel
theorem dX7_isThread_31 : decode cX7_isThread 31 = .ok (.iconst 1, 1) := by decide +kernel
theorem dX7_isThread_32 : decode cX7_isThread 32 = .ok (.goto 4, 3) := by decide +kernel
theorem dX7_isThread_35 : decode cX7_isThread 35 = .ok (.iconst 0, 1) := by decide +kernel
theorem dX7_isThread_36 : decode cX7_isThread 36 = .ok (.ireturn, 1) := by decide +kernel
theorem dX7_enter_0 : decode cX7_enter 0 = .ok (.aload_n 0, 1) := by decide +kernel
theorem dX7_enter_1 : decode cX7_enter 1 = .ok (.iconst 0, 1) := by decide +kernel
theorem dX7_enter_2 : decode cX7_enter 2 = .ok (.putfield 69, 3) := by decide +kernel
theorem dX7_enter_5 : decode cX7_enter 5 = .ok (.aload_n 0, 1) := by decide +kernel
theorem dX7_enter_6 : decode cX7_enter 6 = .ok (.iload_n 1, 1) := by decide +kernel
theorem dX7_enter_7 : decode cX7_enter 7 = .ok (.invokevirtual 177, 3) := by decide +kernel
theorem dX7_enter_10 : decode cX7_enter 10 = .ok (.ifCond .eq 12, 3) := by decide +kernel
theorem dX7_enter_13 : decode cX7_enter 13 = .ok (.iload_n 2, 1) := by decide +kernel
theorem dX7_enter_14 : decode cX7_enter 14 = .ok (.iconst 0, 1) := by decide +kernel
theorem dX7_enter_15 : decode cX7_enter 15 = .ok (.iconst 5, 1) := by decide +kernel
theorem dX7_enter_16 : decode cX7_enter 16 = .ok (.invokestatic 123, 3) := by decide +kernel
theorem dX7_enter_19 : decode cX7_enter 19 = .ok (.ifCond .ne 9, 3) := by decide +kernel
theorem dX7_enter_22 : decode cX7_enter 22 = .ok (.aload_n 0, 1) := by decide +kernel
theorem dX7_enter_23 : decode cX7_enter 23 = .ok (.iconst 1, 1) := by decide +kernel
theorem dX7_enter_24 : decode cX7_enter 24 = .ok (.invokevirtual 127, 3) := by decide +kernel
theorem dX7_enter_27 : decode cX7_enter 27 = .ok (.ireturn, 1) := by decide +kernel
theorem dX7_enter_28 : decode cX7_enter 28 = .ok (.aload_n 0, 1) := by decide +kernel
theorem dX7_enter_29 : decode cX7_enter 29 = .ok (.getfield 48, 3) := by decide +kernel
theorem dX7_enter_32 : decode cX7_enter 32 = .ok (.iload_n 1, 1) := by decide +kernel
theorem dX7_enter_33 : decode cX7_enter 33 = .ok (.iaload, 1) := by decide +kernel
theorem dX7_enter_34 : decode cX7_enter 34 = .ok (.bipush 10, 2) := by decide +kernel
theorem dX7_enter_36 : decode cX7_enter 36 = .ok (.if_icmp .ne 9, 3) := by decide +kernel
theorem dX7_enter_39 : decode cX7_enter 39 = .ok (.aload_n 0, 1) := by decide +kernel
theorem dX7_enter_40 : decode cX7_enter 40 = .ok (.iconst 2, 1) := by decide +kernel
theorem dX7_enter_41 : decode cX7_enter 41 = .ok (.invokevirtual 127, 3) := by decide +kernel
theorem dX7_enter_44 : decode cX7_enter 44 = .ok (.ireturn, 1) := by decide +kernel
theorem dX7_enter_45 : decode cX7_enter 45 = .ok (.bipush 10, 2) := by decide +kernel
theorem dX7_enter_47 : decode cX7_enter 47 = .ok (.iload_n 1, 1) := by decide +kernel
theorem dX7_enter_48 : decode cX7_enter 48 = .ok (.imul, 1) := by decide +kernel
theorem dX7_enter_49 : decode cX7_enter 49 = .ok (.aload_n 0, 1) := by decide +kernel
theorem dX7_enter_50 : decode cX7_enter 50 = .ok (.getfield 48, 3) := by decide +kernel
theorem dX7_enter_53 : decode cX7_enter 53 = .ok (.iload_n 1, 1) := by decide +kernel
theorem dX7_enter_54 : decode cX7_enter 54 = .ok (.iaload, 1) := by decide +kernel
theorem dX7_enter_55 : decode cX7_enter 55 = .ok (.iadd, 1) := by decide +kernel
theorem dX7_enter_56 : decode cX7_enter 56 = .ok (.istore_n 3, 1) := by decide +kernel
theorem dX7_enter_57 : decode cX7_enter 57 = .ok (.aload_n 0, 1) := by decide +kernel
theorem dX7_enter_58 : decode cX7_enter 58 = .ok (.getfield 51, 3) := by decide +kernel
theorem dX7_enter_61 : decode cX7_enter 61 = .ok (.iload_n 3, 1) := by decide +kernel
theorem dX7_enter_62 : decode cX7_enter 62 = .ok (.iload_n 2, 1) := by decide +kernel
theorem dX7_enter_63 : decode cX7_enter 63 = .ok (.iastore, 1) := by decide +kernel
theorem dX7_enter_64 : decode cX7_enter 64 = .ok (.aload_n 0, 1) := by decide +kernel
theorem dX7_enter_65 : decode cX7_enter 65 = .ok (.getfield 54, 3) := by decide +kernel
theorem dX7_enter_68 : decode cX7_enter 68 = .ok (.iload_n 3, 1) := by decide +kernel
theorem dX7_enter_69 : decode cX7_enter 69 = .ok (.iconst 0, 1) := by decide +kernel
theorem dX7_enter_70 : decode cX7_enter 70 = .ok (.bastore, 1) := by decide +kernel
theorem dX7_enter_71 : decode cX7_enter 71 = .ok (.aload_n 0, 1) := by decide +kernel
theorem dX7_enter_72 : decode cX7_enter 72 = .ok (.getfield 48, 3) := by decide +kernel
theorem dX7_enter_75 : decode cX7_enter 75 = .ok (.iload_n 1, 1) := by decide +kernel
theorem dX7_enter_76 : decode cX7_enter 76 = .ok (.dup2, 1) := by decide +kernel
theorem dX7_enter_77 : decode cX7_enter 77 = .ok (.iaload, 1) := by decide +kernel
theorem dX7_enter_78 : decode cX7_enter 78 = .ok (.iconst 1, 1) := by decide +kernel
theorem dX7_enter_79 : decode cX7_enter 79 = .ok (.iadd, 1) := by decide +kernel
theorem dX7_enter_80 : decode cX7_enter 80 = .ok (.iastore, 1) := by decide +kernel
theorem dX7_enter_81 : decode cX7_enter 81 = .ok (.aload_n 0, 1) := by decide +kernel
theorem dX7_enter_82 : decode cX7_enter 82 = .ok (.getfield 48, 3) := by decide +kernel
theorem dX7_enter_85 : decode cX7_enter 85 = .ok (.iload_n 1, 1) := by decide +kernel
theorem dX7_enter_86 : decode cX7_enter 86 = .ok (.iaload, 1) := by decide +kernel
theorem dX7_enter_87 : decode cX7_enter 87 = .ok (.ireturn, 1) := by decide +kernel
theorem dX7_leave_0 : decode cX7_leave 0 = .ok (.aload_n 0, 1) := by decide +kernel
theorem dX7_leave_1 : decode cX7_leave 1 = .ok (.iconst 0, 1) := by decide +kernel
theorem dX7_leave_2 : decode cX7_leave 2 = .ok (.putfield 69, 3) := by decide +kernel
theorem dX7_leave_5 : decode cX7_leave 5 = .ok (.aload_n 0, 1) := by decide +kernel
theorem dX7_leave_6 : decode cX7_leave 6 = .ok (.iload_n 1, 1) := by decide +kernel
theorem dX7_leave_7 : decode cX7_leave 7 = .ok (.invokevirtual 177, 3) := by decide +kernel
theorem dX7_leave_10 : decode cX7_leave 10 = .ok (.ifCond .ne 9, 3) := by decide +kernel
theorem dX7_leave_13 : decode cX7_leave 13 = .ok (.aload_n 0, 1) := by decide +kernel
theorem dX7_leave_14 : decode cX7_leave 14 = .ok (.iconst 1, 1) := by decide +kernel
theorem dX7_leave_15 : decode cX7_leave 15 = .ok (.invokevirtual 127, 3) := by decide +kernel
theorem dX7_leave_18 : decode cX7_leave 18 = .ok (.ireturn, 1) := by decide +kernel
theorem dX7_leave_19 : decode cX7_leave 19 = .ok (.aload_n 0, 1) := by decide +kernel
theorem dX7_leave_20 : decode cX7_leave 20 = .ok (.getfield 48, 3) := by decide +kernel
theorem dX7_leave_23 : decode cX7_leave 23 = .ok (.iload_n 1, 1) := by decide +kernel
theorem dX7_leave_24 : decode cX7_leave 24 = .ok (.iaload, 1) := by decide +kernel
theorem dX7_leave_25 : decode cX7_leave 25 = .ok (.ifCond .ne 9, 3) := by decide +kernel
theorem dX7_leave_28 : decode cX7_leave 28 = .ok (.aload_n 0, 1) := by decide +kernel
theorem dX7_leave_29 : decode cX7_leave 29 = .ok (.iconst 2, 1) := by decide +kernel
theorem dX7_leave_30 : decode cX7_leave 30 = .ok (.invokevirtual 127, 3) := by decide +kernel
theorem dX7_leave_33 : decode cX7_leave 33 = .ok (.ireturn, 1) := by decide +kernel
theorem dX7_leave_34 : decode cX7_leave 34 = .ok (.aload_n 0, 1) := by decide +kernel
theorem dX7_leave_35 : decode cX7_leave 35 = .ok (.getfield 48, 3) := by decide +kernel
theorem dX7_leave_38 : decode cX7_leave 38 = .ok (.iload_n 1, 1) := by decide +kernel
theorem dX7_leave_39 : decode cX7_leave 39 = .ok (.dup2, 1) := by decide +kernel
theorem dX7_leave_40 : decode cX7_leave 40 = .ok (.iaload, 1) := by decide +kernel
theorem dX7_leave_41 : decode cX7_leave 41 = .ok (.iconst 1, 1) := by decide +kernel
theorem dX7_leave_42 : decode cX7_leave 42 = .ok (.isub, 1) := by decide +kernel
theorem dX7_leave_43 : decode cX7_leave 43 = .ok (.iastore, 1) := by decide +kernel
theorem dX7_leave_44 : decode cX7_leave 44 = .ok (.bipush 10, 2) := by decide +kernel
theorem dX7_leave_46 : decode cX7_leave 46 = .ok (.iload_n 1, 1) := by decide +kernel
theorem dX7_leave_47 : decode cX7_leave 47 = .ok (.imul, 1) := by decide +kernel
theorem dX7_leave_48 : decode cX7_leave 48 = .ok (.aload_n 0, 1) := by decide +kernel
theorem dX7_leave_49 : decode cX7_leave 49 = .ok (.getfield 48, 3) := by decide +kernel
theorem dX7_leave_52 : decode cX7_leave 52 = .ok (.iload_n 1, 1) := by decide +kernel
theorem dX7_leave_53 : decode cX7_leave 53 = .ok (.iaload, 1) := by decide +kernel
theorem dX7_leave_54 : decode cX7_leave 54 = .ok (.iadd, 1) := by decide +kernel
theorem dX7_leave_55 : decode cX7_leave 55 = .ok (.istore_n 2, 1) := by decide +kernel
theorem dX7_leave_56 : decode cX7_leave 56 = .ok (.aload_n 0, 1) := by decide +kernel
theorem dX7_leave_57 : decode cX7_leave 57 = .ok (.getfield 48, 3) := by decide +kernel
theorem dX7_leave_60 : decode cX7_leave 60 = .ok (.iload_n 1, 1) := by decide +kernel
theorem dX7_leave_61 : decode cX7_leave 61 = .ok (.iaload, 1) := by decide +kernel
theorem dX7_leave_62 : decode cX7_leave 62 = .ok (.ifCond .le 12, 3) := by decide +kernel
theorem dX7_leave_65 : decode cX7_leave 65 = .ok (.aload_n 0, 1) := by decide +kernel
theorem dX7_leave_66 : decode cX7_leave 66 = .ok (.getfield 54, 3) := by decide +kernel
theorem dX7_leave_69 : decode cX7_leave 69 = .ok (.iload_n 2, 1) := by decide +kernel
theorem dX7_leave_70 : decode cX7_leave 70 = .ok (.iconst 1, 1) := by decide +kernel
theorem dX7_leave_71 : decode cX7_leave 71 = .ok (.isub, 1) := by decide +kernel
theorem dX7_leave_72 : decode cX7_leave 72 = .ok (.iconst 0, 1) := by decide +kernel
theorem dX7_leave_73 : decode cX7_leave 73 = .ok (.bastore, 1) := by decide +kernel
theorem dX7_leave_74 : decode cX7_leave 74 = .ok (.aload_n 0, 1) := by decide +kernel
theorem dX7_leave_75 : decode cX7_leave 75 = .ok (.getfield 51, 3) := by decide +kernel
theorem dX7_leave_78 : decode cX7_leave 78 = .ok (.iload_n 2, 1) := by decide +kernel
theorem dX7_leave_79 : decode cX7_leave 79 = .ok (.iaload, 1) := by decide +kernel
theorem dX7_leave_80 : decode cX7_leave 80 = .ok (.ireturn, 1) := by decide +kernel
theorem dX7_isContext_0 : decode cX7_isContext 0 = .ok (.iload_n 1, 1) := by decide +kernel
theorem dX7_isContext_1 : decode cX7_isContext 1 = .ok (.iconst 0, 1) := by decide +kernel
theorem dX7_isContext_2 : decode cX7_isContext 2 = .ok (.bipush 7, 2) := by decide +kernel
theorem dX7_isContext_4 : decode cX7_isContext 4 = .ok (.invokestatic 123, 3) := by decide +kernel
theorem dX7_isContext_7 : decode cX7_isContext 7 = .ok (.ifCond .eq 30, 3) := by decide +kernel
theorem dX7_isContext_10 : decode cX7_isContext 10 = .ok (.aload_n 0, 1) := by decide +kernel
theorem dX7_isContext_11 : decode cX7_isContext 11 = .ok (.getfield 60, 3) := by decide +kernel
theorem dX7_isContext_14 : decode cX7_isContext 14 = .ok (.iload_n 1, 1) := by decide +kernel
theorem dX7_isContext_15 : decode cX7_isContext 15 = .ok (.iconst 0, 1) := by decide +kernel
theorem dX7_isContext_16 : decode cX7_isContext 16 = .ok (.bipush 7, 2) := by decide +kernel
theorem dX7_isContext_18 : decode cX7_isContext 18 = .ok (.invokestatic 123, 3) := by decide +kernel
theorem dX7_isContext_21 : decode cX7_isContext 21 = .ok (.ifCond .eq 7, 3) := by decide +kernel
theorem dX7_isContext_24 : decode cX7_isContext 24 = .ok (.iload_n 1, 1) := by decide +kernel
theorem dX7_isContext_25 : decode cX7_isContext 25 = .ok (.goto 4, 3) := by decide +kernel
theorem dX7_isContext_28 : decode cX7_isContext 28 = .ok (.iconst 0, 1) := by decide +kernel
theorem dX7_isContext_29 : decode cX7_isContext 29 = .ok (.baload, 1) := by decide +kernel
theorem dX7_isContext_30 : decode cX7_isContext 30 = .ok (.ifCond .eq 7, 3) := by decide +kernel
theorem dX7_isContext_33 : decode cX7_isContext 33 = .ok (.iconst 1, 1) := by decide +kernel
theorem dX7_isContext_34 : decode cX7_isContext 34 = .ok (.goto 4, 3) := by decide +kernel
theorem dX7_isContext_37 : decode cX7_isContext 37 = .ok (.iconst 0, 1) := by decide +kernel
theorem dX7_isContext_38 : decode cX7_isContext 38 = .ok (.ireturn, 1) := by decide +kernel
theorem dX7_guard_0 : decode cX7_guard 0 = .ok (.aload_n 0, 1) := by decide +kernel
theorem dX7_guard_1 : decode cX7_guard 1 = .ok (.iconst 0, 1) := by decide +kernel
theorem dX7_guard_2 : decode cX7_guard 2 = .ok (.putfield 69, 3) := by decide +kernel
theorem dX7_guard_5 : decode cX7_guard 5 = .ok (.aload_n 0, 1) := by decide +kernel
theorem dX7_guard_6 : decode cX7_guard 6 = .ok (.iload_n 1, 1) := by decide +kernel
theorem dX7_guard_7 : decode cX7_guard 7 = .ok (.invokevirtual 177, 3) := by decide +kernel
theorem dX7_guard_10 : decode cX7_guard 10 = .ok (.ifCond .eq 29, 3) := by decide +kernel
theorem dX7_guard_13 : decode cX7_guard 13 = .ok (.iload_n 2, 1) := by decide +kernel
theorem dX7_guard_14 : decode cX7_guard 14 = .ok (.iconst (-1), 1) := by decide +kernel
theorem dX7_guard_15 : decode cX7_guard 15 = .ok (.if_icmp .eq 11, 3) := by decide +kernel
theorem dX7_guard_18 : decode cX7_guard 18 = .ok (.aload_n 0, 1) := by decide +kernel
theorem dX7_guard_19 : decode cX7_guard 19 = .ok (.iload_n 2, 1) := by decide +kernel
theorem dX7_guard_20 : decode cX7_guard 20 = .ok (.invokevirtual 180, 3) := by decide +kernel
theorem dX7_guard_23 : decode cX7_guard 23 = .ok (.ifCond .eq 16, 3) := by decide +kernel
theorem dX7_guard_26 : decode cX7_guard 26 = .ok (.iload_n 3, 1) := by decide +kernel
theorem dX7_guard_27 : decode cX7_guard 27 = .ok (.iconst (-1), 1) := by decide +kernel
theorem dX7_guard_28 : decode cX7_guard 28 = .ok (.if_icmp .eq 17, 3) := by decide +kernel
theorem dX7_guard_31 : decode cX7_guard 31 = .ok (.aload_n 0, 1) := by decide +kernel
theorem dX7_guard_32 : decode cX7_guard 32 = .ok (.iload_n 3, 1) := by decide +kernel
theorem dX7_guard_33 : decode cX7_guard 33 = .ok (.invokevirtual 148, 3) := by decide +kernel
theorem dX7_guard_36 : decode cX7_guard 36 = .ok (.ifCond .ne 9, 3) := by decide +kernel
theorem dX7_guard_39 : decode cX7_guard 39 = .ok (.aload_n 0, 1) := by decide +kernel
theorem dX7_guard_40 : decode cX7_guard 40 = .ok (.iconst 1, 1) := by decide +kernel
theorem dX7_guard_41 : decode cX7_guard 41 = .ok (.putfield 69, 3) := by decide +kernel
theorem dX7_guard_44 : decode cX7_guard 44 = .ok (.return_, 1) := by decide +kernel
theorem dX7_guard_45 : decode cX7_guard 45 = .ok (.aload_n 0, 1) := by decide +kernel
theorem dX7_guard_46 : decode cX7_guard 46 = .ok (.getfield 48, 3) := by decide +kernel
theorem dX7_guard_49 : decode cX7_guard 49 = .ok (.iload_n 1, 1) := by decide +kernel
theorem dX7_guard_50 : decode cX7_guard 50 = .ok (.iaload, 1) := by decide +kernel
theorem dX7_guard_51 : decode cX7_guard 51 = .ok (.ifCond .ne 9, 3) := by decide +kernel
theorem dX7_guard_54 : decode cX7_guard 54 = .ok (.aload_n 0, 1) := by decide +kernel
theorem dX7_guard_55 : decode cX7_guard 55 = .ok (.iconst 2, 1) := by decide +kernel
theorem dX7_guard_56 : decode cX7_guard 56 = .ok (.putfield 69, 3) := by decide +kernel
theorem dX7_guard_59 : decode cX7_guard 59 = .ok (.return_, 1) := by decide +kernel
theorem dX7_guard_60 : decode cX7_guard 60 = .ok (.bipush 10, 2) := by decide +kernel
theorem dX7_guard_62 : decode cX7_guard 62 = .ok (.iload_n 1, 1) := by decide +kernel
theorem dX7_guard_63 : decode cX7_guard 63 = .ok (.imul, 1) := by decide +kernel
theorem dX7_guard_64 : decode cX7_guard 64 = .ok (.aload_n 0, 1) := by decide +kernel
theorem dX7_guard_65 : decode cX7_guard 65 = .ok (.getfield 48, 3) := by decide +kernel
theorem dX7_guard_68 : decode cX7_guard 68 = .ok (.iload_n 1, 1) := by decide +kernel
theorem dX7_guard_69 : decode cX7_guard 69 = .ok (.iaload, 1) := by decide +kernel
theorem dX7_guard_70 : decode cX7_guard 70 = .ok (.iadd, 1) := by decide +kernel
theorem dX7_guard_71 : decode cX7_guard 71 = .ok (.iconst 1, 1) := by decide +kernel
theorem dX7_guard_72 : decode cX7_guard 72 = .ok (.isub, 1) := by decide +kernel
theorem dX7_guard_73 : decode cX7_guard 73 = .ok (.istore 4, 2) := by decide +kernel
theorem dX7_guard_75 : decode cX7_guard 75 = .ok (.aload_n 0, 1) := by decide +kernel
theorem dX7_guard_76 : decode cX7_guard 76 = .ok (.getfield 54, 3) := by decide +kernel
theorem dX7_guard_79 : decode cX7_guard 79 = .ok (.iload 4, 2) := by decide +kernel
theorem dX7_guard_81 : decode cX7_guard 81 = .ok (.iconst 1, 1) := by decide +kernel
theorem dX7_guard_82 : decode cX7_guard 82 = .ok (.bastore, 1) := by decide +kernel
theorem dX7_guard_83 : decode cX7_guard 83 = .ok (.aload_n 0, 1) := by decide +kernel
theorem dX7_guard_84 : decode cX7_guard 84 = .ok (.getfield 57, 3) := by decide +kernel
theorem dX7_guard_87 : decode cX7_guard 87 = .ok (.iload 4, 2) := by decide +kernel
theorem dX7_guard_89 : decode cX7_guard 89 = .ok (.iload_n 2, 1) := by decide +kernel
theorem dX7_guard_90 : decode cX7_guard 90 = .ok (.ifCond .ge 7, 3) := by decide +kernel
theorem dX7_guard_93 : decode cX7_guard 93 = .ok (.iconst 0, 1) := by decide +kernel
theorem dX7_guard_94 : decode cX7_guard 94 = .ok (.goto 9, 3) := by decide +kernel
theorem dX7_guard_97 : decode cX7_guard 97 = .ok (.aload_n 0, 1) := by decide +kernel
theorem dX7_guard_98 : decode cX7_guard 98 = .ok (.getfield 63, 3) := by decide +kernel
theorem dX7_guard_101 : decode cX7_guard 101 = .ok (.iload_n 2, 1) := by decide +kernel
theorem dX7_guard_102 : decode cX7_guard 102 = .ok (.iaload, 1) := by decide +kernel
theorem dX7_guard_103 : decode cX7_guard 103 = .ok (.iastore, 1) := by decide +kernel
theorem dX7_guard_104 : decode cX7_guard 104 = .ok (.aload_n 0, 1) := by decide +kernel
theorem dX7_guard_105 : decode cX7_guard 105 = .ok (.getfield 13, 3) := by decide +kernel
theorem dX7_guard_108 : decode cX7_guard 108 = .ok (.bipush 44, 2) := by decide +kernel
theorem dX7_guard_110 : decode cX7_guard 110 = .ok (.iload 4, 2) := by decide +kernel
theorem dX7_guard_112 : decode cX7_guard 112 = .ok (.iadd, 1) := by decide +kernel
theorem dX7_guard_113 : decode cX7_guard 113 = .ok (.iconst 0, 1) := by decide +kernel
theorem dX7_guard_114 : decode cX7_guard 114 = .ok (.iastore, 1) := by decide +kernel
theorem dX7_guard_115 : decode cX7_guard 115 = .ok (.iload_n 3, 1) := by decide +kernel
theorem dX7_guard_116 : decode cX7_guard 116 = .ok (.ifCond .lt 13, 3) := by decide +kernel
theorem dX7_guard_119 : decode cX7_guard 119 = .ok (.aload_n 0, 1) := by decide +kernel
theorem dX7_guard_120 : decode cX7_guard 120 = .ok (.iload_n 3, 1) := by decide +kernel
theorem dX7_guard_121 : decode cX7_guard 121 = .ok (.bipush 44, 2) := by decide +kernel
theorem dX7_guard_123 : decode cX7_guard 123 = .ok (.iload 4, 2) := by decide +kernel
theorem dX7_guard_125 : decode cX7_guard 125 = .ok (.iadd, 1) := by decide +kernel
theorem dX7_guard_126 : decode cX7_guard 126 = .ok (.invokevirtual 134, 3) := by decide +kernel
theorem dX7_guard_129 : decode cX7_guard 129 = .ok (.return_, 1) := by decide +kernel
theorem dX7_walked_0 : decode cX7_walked 0 = .ok (.iconst 0, 1) := by decide +kernel
theorem dX7_walked_1 : decode cX7_walked 1 = .ok (.istore_n 3, 1) := by decide +kernel
theorem dX7_walked_2 : decode cX7_walked 2 = .ok (.aload_n 0, 1) := by decide +kernel
theorem dX7_walked_3 : decode cX7_walked 3 = .ok (.getfield 48, 3) := by decide +kernel
theorem dX7_walked_6 : decode cX7_walked 6 = .ok (.iload_n 1, 1) := by decide +kernel
theorem dX7_walked_7 : decode cX7_walked 7 = .ok (.iaload, 1) := by decide +kernel
theorem dX7_walked_8 : decode cX7_walked 8 = .ok (.iconst 1, 1) := by decide +kernel
theorem dX7_walked_9 : decode cX7_walked 9 = .ok (.isub, 1) := by decide +kernel
theorem dX7_walked_10 : decode cX7_walked 10 = .ok (.istore 4, 2) := by decide +kernel
theorem dX7_walked_12 : decode cX7_walked 12 = .ok (.iload 4, 2) := by decide +kernel
theorem dX7_walked_14 : decode cX7_walked 14 = .ok (.ifCond .lt 92, 3) := by decide +kernel
theorem dX7_walked_17 : decode cX7_walked 17 = .ok (.bipush 10, 2) := by decide +kernel
theorem dX7_walked_19 : decode cX7_walked 19 = .ok (.iload_n 1, 1) := by decide +kernel
theorem dX7_walked_20 : decode cX7_walked 20 = .ok (.imul, 1) := by decide +kernel
theorem dX7_walked_21 : decode cX7_walked 21 = .ok (.iload 4, 2) := by decide +kernel
theorem dX7_walked_23 : decode cX7_walked 23 = .ok (.iadd, 1) := by decide +kernel
theorem dX7_walked_24 : decode cX7_walked 24 = .ok (.istore 5, 2) := by decide +kernel
theorem dX7_walked_26 : decode cX7_walked 26 = .ok (.iload_n 3, 1) := by decide +kernel
theorem dX7_walked_27 : decode cX7_walked 27 = .ok (.iconst 1, 1) := by decide +kernel
theorem dX7_walked_28 : decode cX7_walked 28 = .ok (.aload_n 0, 1) := by decide +kernel
theorem dX7_walked_29 : decode cX7_walked 29 = .ok (.getfield 51, 3) := by decide +kernel
theorem dX7_walked_32 : decode cX7_walked 32 = .ok (.iload 5, 2) := by decide +kernel
theorem dX7_walked_34 : decode cX7_walked 34 = .ok (.iaload, 1) := by decide +kernel
theorem dX7_walked_35 : decode cX7_walked 35 = .ok (.ishl, 1) := by decide +kernel
theorem dX7_walked_36 : decode cX7_walked 36 = .ok (.ior, 1) := by decide +kernel
theorem dX7_walked_37 : decode cX7_walked 37 = .ok (.istore_n 3, 1) := by decide +kernel
theorem dX7_walked_38 : decode cX7_walked 38 = .ok (.aload_n 0, 1) := by decide +kernel
theorem dX7_walked_39 : decode cX7_walked 39 = .ok (.getfield 54, 3) := by decide +kernel
theorem dX7_walked_42 : decode cX7_walked 42 = .ok (.iload 5, 2) := by decide +kernel
theorem dX7_walked_44 : decode cX7_walked 44 = .ok (.baload, 1) := by decide +kernel
theorem dX7_walked_45 : decode cX7_walked 45 = .ok (.ifCond .eq 37, 3) := by decide +kernel
theorem dX7_walked_48 : decode cX7_walked 48 = .ok (.aload_n 0, 1) := by decide +kernel
theorem dX7_walked_49 : decode cX7_walked 49 = .ok (.getfield 13, 3) := by decide +kernel
theorem dX7_walked_52 : decode cX7_walked 52 = .ok (.bipush 44, 2) := by decide +kernel
theorem dX7_walked_54 : decode cX7_walked 54 = .ok (.iload 5, 2) := by decide +kernel
theorem dX7_walked_56 : decode cX7_walked 56 = .ok (.iadd, 1) := by decide +kernel
theorem dX7_walked_57 : decode cX7_walked 57 = .ok (.iaload, 1) := by decide +kernel
theorem dX7_walked_58 : decode cX7_walked 58 = .ok (.ifCond .eq 20, 3) := by decide +kernel
theorem dX7_walked_61 : decode cX7_walked 61 = .ok (.iload_n 2, 1) := by decide +kernel
theorem dX7_walked_62 : decode cX7_walked 62 = .ok (.ifCond .lt 20, 3) := by decide +kernel
theorem dX7_walked_65 : decode cX7_walked 65 = .ok (.aload_n 0, 1) := by decide +kernel
theorem dX7_walked_66 : decode cX7_walked 66 = .ok (.bipush 44, 2) := by decide +kernel
theorem dX7_walked_68 : decode cX7_walked 68 = .ok (.iload 5, 2) := by decide +kernel
theorem dX7_walked_70 : decode cX7_walked 70 = .ok (.iadd, 1) := by decide +kernel
theorem dX7_walked_71 : decode cX7_walked 71 = .ok (.iload_n 2, 1) := by decide +kernel
theorem dX7_walked_72 : decode cX7_walked 72 = .ok (.invokevirtual 168, 3) := by decide +kernel
theorem dX7_walked_75 : decode cX7_walked 75 = .ok (.ifCond .eq 7, 3) := by decide +kernel
theorem dX7_walked_78 : decode cX7_walked 78 = .ok (.iconst 1, 1) := by decide +kernel
theorem dX7_walked_79 : decode cX7_walked 79 = .ok (.goto 4, 3) := by decide +kernel
theorem dX7_walked_82 : decode cX7_walked 82 = .ok (.iconst 0, 1) := by decide +kernel
theorem dX7_walked_83 : decode cX7_walked 83 = .ok (.istore 6, 2) := by decide +kernel
theorem dX7_walked_85 : decode cX7_walked 85 = .ok (.iload 6, 2) := by decide +kernel
theorem dX7_walked_87 : decode cX7_walked 87 = .ok (.ifCond .eq 13, 3) := by decide +kernel
theorem dX7_walked_90 : decode cX7_walked 90 = .ok (.iload_n 3, 1) := by decide +kernel
theorem dX7_walked_91 : decode cX7_walked 91 = .ok (.aload_n 0, 1) := by decide +kernel
theorem dX7_walked_92 : decode cX7_walked 92 = .ok (.getfield 57, 3) := by decide +kernel
theorem dX7_walked_95 : decode cX7_walked 95 = .ok (.iload 5, 2) := by decide +kernel
theorem dX7_walked_97 : decode cX7_walked 97 = .ok (.iaload, 1) := by decide +kernel
theorem dX7_walked_98 : decode cX7_walked 98 = .ok (.ior, 1) := by decide +kernel
theorem dX7_walked_99 : decode cX7_walked 99 = .ok (.ireturn, 1) := by decide +kernel
theorem dX7_walked_100 : decode cX7_walked 100 = .ok (.iinc 4 (-1), 3) := by decide +kernel
theorem dX7_walked_103 : decode cX7_walked 103 = .ok (.goto (-91), 3) := by decide +kernel
theorem dX7_walked_106 : decode cX7_walked 106 = .ok (.iload_n 3, 1) := by decide +kernel
theorem dX7_walked_107 : decode cX7_walked 107 = .ok (.aload_n 0, 1) := by decide +kernel
theorem dX7_walked_108 : decode cX7_walked 108 = .ok (.getfield 45, 3) := by decide +kernel
theorem dX7_walked_111 : decode cX7_walked 111 = .ok (.iload_n 1, 1) := by decide +kernel
theorem dX7_walked_112 : decode cX7_walked 112 = .ok (.iaload, 1) := by decide +kernel
theorem dX7_walked_113 : decode cX7_walked 113 = .ok (.ior, 1) := by decide +kernel
theorem dX7_walked_114 : decode cX7_walked 114 = .ok (.ireturn, 1) := by decide +kernel
theorem dX7_walk_0 : decode cX7_walk 0 = .ok (.aload_n 0, 1) := by decide +kernel
theorem dX7_walk_1 : decode cX7_walk 1 = .ok (.iconst 0, 1) := by decide +kernel
theorem dX7_walk_2 : decode cX7_walk 2 = .ok (.putfield 69, 3) := by decide +kernel
theorem dX7_walk_5 : decode cX7_walk 5 = .ok (.aload_n 0, 1) := by decide +kernel
theorem dX7_walk_6 : decode cX7_walk 6 = .ok (.iload_n 1, 1) := by decide +kernel
theorem dX7_walk_7 : decode cX7_walk 7 = .ok (.invokevirtual 177, 3) := by decide +kernel
theorem dX7_walk_10 : decode cX7_walk 10 = .ok (.ifCond .eq 16, 3) := by decide +kernel
theorem dX7_walk_13 : decode cX7_walk 13 = .ok (.iload_n 2, 1) := by decide +kernel
theorem dX7_walk_14 : decode cX7_walk 14 = .ok (.iconst (-1), 1) := by decide +kernel
theorem dX7_walk_15 : decode cX7_walk 15 = .ok (.if_icmp .eq 17, 3) := by decide +kernel
theorem dX7_walk_18 : decode cX7_walk 18 = .ok (.aload_n 0, 1) := by decide +kernel
theorem dX7_walk_19 : decode cX7_walk 19 = .ok (.iload_n 2, 1) := by decide +kernel
theorem dX7_walk_20 : decode cX7_walk 20 = .ok (.invokevirtual 148, 3) := by decide +kernel
theorem dX7_walk_23 : decode cX7_walk 23 = .ok (.ifCond .ne 9, 3) := by decide +kernel
theorem dX7_walk_26 : decode cX7_walk 26 = .ok (.aload_n 0, 1) := by decide +kernel
theorem dX7_walk_27 : decode cX7_walk 27 = .ok (.iconst 1, 1) := by decide +kernel
theorem dX7_walk_28 : decode cX7_walk 28 = .ok (.invokevirtual 127, 3) := by decide +kernel
theorem dX7_walk_31 : decode cX7_walk 31 = .ok (.ireturn, 1) := by decide +kernel
theorem dX7_walk_32 : decode cX7_walk 32 = .ok (.aload_n 0, 1) := by decide +kernel
theorem dX7_walk_33 : decode cX7_walk 33 = .ok (.iload_n 1, 1) := by decide +kernel
theorem dX7_walk_34 : decode cX7_walk 34 = .ok (.iload_n 2, 1) := by decide +kernel
theorem dX7_walk_35 : decode cX7_walk 35 = .ok (.invokevirtual 183, 3) := by decide +kernel
theorem dX7_walk_38 : decode cX7_walk 38 = .ok (.ireturn, 1) := by decide +kernel
theorem dX7_many_0 : decode cX7_many 0 = .ok (.iconst 0, 1) := by decide +kernel
theorem dX7_many_1 : decode cX7_many 1 = .ok (.istore_n 1, 1) := by decide +kernel
theorem dX7_many_2 : decode cX7_many 2 = .ok (.iconst 0, 1) := by decide +kernel
theorem dX7_many_3 : decode cX7_many 3 = .ok (.istore_n 2, 1) := by decide +kernel
theorem dX7_many_4 : decode cX7_many 4 = .ok (.iload_n 2, 1) := by decide +kernel
theorem dX7_many_5 : decode cX7_many 5 = .ok (.bipush 6, 2) := by decide +kernel
theorem dX7_many_7 : decode cX7_many 7 = .ok (.if_icmp .ge 17, 3) := by decide +kernel
theorem dX7_many_10 : decode cX7_many 10 = .ok (.iload_n 1, 1) := by decide +kernel
theorem dX7_many_11 : decode cX7_many 11 = .ok (.iload_n 0, 1) := by decide +kernel
theorem dX7_many_12 : decode cX7_many 12 = .ok (.iload_n 2, 1) := by decide +kernel
theorem dX7_many_13 : decode cX7_many 13 = .ok (.ishr, 1) := by decide +kernel
theorem dX7_many_14 : decode cX7_many 14 = .ok (.iconst 1, 1) := by decide +kernel
theorem dX7_many_15 : decode cX7_many 15 = .ok (.iand, 1) := by decide +kernel
theorem dX7_many_16 : decode cX7_many 16 = .ok (.iadd, 1) := by decide +kernel
theorem dX7_many_17 : decode cX7_many 17 = .ok (.istore_n 1, 1) := by decide +kernel
theorem dX7_many_18 : decode cX7_many 18 = .ok (.iinc 2 1, 3) := by decide +kernel
theorem dX7_many_21 : decode cX7_many 21 = .ok (.goto (-17), 3) := by decide +kernel
theorem dX7_many_24 : decode cX7_many 24 = .ok (.iload_n 1, 1) := by decide +kernel
theorem dX7_many_25 : decode cX7_many 25 = .ok (.ireturn, 1) := by decide +kernel
theorem dX7_capture_0 : decode cX7_capture 0 = .ok (.aload_n 0, 1) := by decide +kernel
theorem dX7_capture_1 : decode cX7_capture 1 = .ok (.iconst 0, 1) := by decide +kernel
theorem dX7_capture_2 : decode cX7_capture 2 = .ok (.putfield 69, 3) := by decide +kernel
theorem dX7_capture_5 : decode cX7_capture 5 = .ok (.aload_n 0, 1) := by decide +kernel
theorem dX7_capture_6 : decode cX7_capture 6 = .ok (.iload_n 1, 1) := by decide +kernel
theorem dX7_capture_7 : decode cX7_capture 7 = .ok (.invokevirtual 177, 3) := by decide +kernel
theorem dX7_capture_10 : decode cX7_capture 10 = .ok (.ifCond .ne 9, 3) := by decide +kernel
theorem dX7_capture_13 : decode cX7_capture 13 = .ok (.aload_n 0, 1) := by decide +kernel
theorem dX7_capture_14 : decode cX7_capture 14 = .ok (.iconst 1, 1) := by decide +kernel
theorem dX7_capture_15 : decode cX7_capture 15 = .ok (.invokevirtual 127, 3) := by decide +kernel
theorem dX7_capture_18 : decode cX7_capture 18 = .ok (.ireturn, 1) := by decide +kernel
theorem dX7_capture_19 : decode cX7_capture 19 = .ok (.iconst 0, 1) := by decide +kernel
theorem dX7_capture_20 : decode cX7_capture 20 = .ok (.istore_n 2, 1) := by decide +kernel
theorem dX7_capture_21 : decode cX7_capture 21 = .ok (.iload_n 2, 1) := by decide +kernel
theorem dX7_capture_22 : decode cX7_capture 22 = .ok (.bipush 8, 2) := by decide +kernel
theorem dX7_capture_24 : decode cX7_capture 24 = .ok (.if_icmp .ge 18, 3) := by decide +kernel
theorem dX7_capture_27 : decode cX7_capture 27 = .ok (.aload_n 0, 1) := by decide +kernel
theorem dX7_capture_28 : decode cX7_capture 28 = .ok (.getfield 60, 3) := by decide +kernel
theorem dX7_capture_31 : decode cX7_capture 31 = .ok (.iload_n 2, 1) := by decide +kernel
theorem dX7_capture_32 : decode cX7_capture 32 = .ok (.baload, 1) := by decide +kernel
theorem dX7_capture_33 : decode cX7_capture 33 = .ok (.ifCond .eq 9, 3) := by decide +kernel
theorem dX7_capture_36 : decode cX7_capture 36 = .ok (.iinc 2 1, 3) := by decide +kernel
theorem dX7_capture_39 : decode cX7_capture 39 = .ok (.goto (-18), 3) := by decide +kernel
theorem dX7_capture_42 : decode cX7_capture 42 = .ok (.iload_n 2, 1) := by decide +kernel
theorem dX7_capture_43 : decode cX7_capture 43 = .ok (.bipush 8, 2) := by decide +kernel
theorem dX7_capture_45 : decode cX7_capture 45 = .ok (.if_icmp .ne 9, 3) := by decide +kernel
theorem dX7_capture_48 : decode cX7_capture 48 = .ok (.aload_n 0, 1) := by decide +kernel
theorem dX7_capture_49 : decode cX7_capture 49 = .ok (.iconst 2, 1) := by decide +kernel
theorem dX7_capture_50 : decode cX7_capture 50 = .ok (.invokevirtual 127, 3) := by decide +kernel
theorem dX7_capture_53 : decode cX7_capture 53 = .ok (.ireturn, 1) := by decide +kernel
theorem dX7_capture_54 : decode cX7_capture 54 = .ok (.aload_n 0, 1) := by decide +kernel
theorem dX7_capture_55 : decode cX7_capture 55 = .ok (.getfield 60, 3) := by decide +kernel
theorem dX7_capture_58 : decode cX7_capture 58 = .ok (.iload_n 2, 1) := by decide +kernel
theorem dX7_capture_59 : decode cX7_capture 59 = .ok (.iconst 1, 1) := by decide +kernel
theorem dX7_capture_60 : decode cX7_capture 60 = .ok (.bastore, 1) := by decide +kernel
theorem dX7_capture_61 : decode cX7_capture 61 = .ok (.aload_n 0, 1) := by decide +kernel
theorem dX7_capture_62 : decode cX7_capture 62 = .ok (.getfield 63, 3) := by decide +kernel
theorem dX7_capture_65 : decode cX7_capture 65 = .ok (.iload_n 2, 1) := by decide +kernel
theorem dX7_capture_66 : decode cX7_capture 66 = .ok (.aload_n 0, 1) := by decide +kernel
theorem dX7_capture_67 : decode cX7_capture 67 = .ok (.iload_n 1, 1) := by decide +kernel
theorem dX7_capture_68 : decode cX7_capture 68 = .ok (.iconst (-1), 1) := by decide +kernel
theorem dX7_capture_69 : decode cX7_capture 69 = .ok (.invokevirtual 183, 3) := by decide +kernel
theorem dX7_capture_72 : decode cX7_capture 72 = .ok (.iastore, 1) := by decide +kernel
theorem dX7_capture_73 : decode cX7_capture 73 = .ok (.iload_n 2, 1) := by decide +kernel
theorem dX7_capture_74 : decode cX7_capture 74 = .ok (.ireturn, 1) := by decide +kernel
theorem dX7_combine_0 : decode cX7_combine 0 = .ok (.aload_n 0, 1) := by decide +kernel
theorem dX7_combine_1 : decode cX7_combine 1 = .ok (.iconst 0, 1) := by decide +kernel
theorem dX7_combine_2 : decode cX7_combine 2 = .ok (.putfield 69, 3) := by decide +kernel
theorem dX7_combine_5 : decode cX7_combine 5 = .ok (.aload_n 0, 1) := by decide +kernel
theorem dX7_combine_6 : decode cX7_combine 6 = .ok (.iload_n 1, 1) := by decide +kernel
theorem dX7_combine_7 : decode cX7_combine 7 = .ok (.invokevirtual 180, 3) := by decide +kernel
theorem dX7_combine_10 : decode cX7_combine 10 = .ok (.ifCond .eq 11, 3) := by decide +kernel
theorem dX7_combine_13 : decode cX7_combine 13 = .ok (.aload_n 0, 1) := by decide +kernel
theorem dX7_combine_14 : decode cX7_combine 14 = .ok (.iload_n 2, 1) := by decide +kernel
theorem dX7_combine_15 : decode cX7_combine 15 = .ok (.invokevirtual 180, 3) := by decide +kernel
theorem dX7_combine_18 : decode cX7_combine 18 = .ok (.ifCond .ne 9, 3) := by decide +kernel
theorem dX7_combine_21 : decode cX7_combine 21 = .ok (.aload_n 0, 1) := by decide +kernel
theorem dX7_combine_22 : decode cX7_combine 22 = .ok (.iconst 1, 1) := by decide +kernel
theorem dX7_combine_23 : decode cX7_combine 23 = .ok (.invokevirtual 127, 3) := by decide +kernel
theorem dX7_combine_26 : decode cX7_combine 26 = .ok (.ireturn, 1) := by decide +kernel
theorem dX7_combine_27 : decode cX7_combine 27 = .ok (.iload_n 1, 1) := by decide +kernel
theorem dX7_combine_28 : decode cX7_combine 28 = .ok (.iload_n 2, 1) := by decide +kernel
theorem dX7_combine_29 : decode cX7_combine 29 = .ok (.if_icmp .ne 9, 3) := by decide +kernel
theorem dX7_combine_32 : decode cX7_combine 32 = .ok (.aload_n 0, 1) := by decide +kernel
theorem dX7_combine_33 : decode cX7_combine 33 = .ok (.iconst 2, 1) := by decide +kernel
theorem dX7_combine_34 : decode cX7_combine 34 = .ok (.invokevirtual 127, 3) := by decide +kernel
theorem dX7_combine_37 : decode cX7_combine 37 = .ok (.ireturn, 1) := by decide +kernel
theorem dX7_combine_38 : decode cX7_combine 38 = .ok (.iload_n 1, 1) := by decide +kernel
theorem dX7_combine_39 : decode cX7_combine 39 = .ok (.iload_n 2, 1) := by decide +kernel
theorem dX7_combine_40 : decode cX7_combine 40 = .ok (.if_icmp .ge 7, 3) := by decide +kernel
theorem dX7_combine_43 : decode cX7_combine 43 = .ok (.iload_n 1, 1) := by decide +kernel
theorem dX7_combine_44 : decode cX7_combine 44 = .ok (.goto 4, 3) := by decide +kernel
theorem dX7_combine_47 : decode cX7_combine 47 = .ok (.iload_n 2, 1) := by decide +kernel
theorem dX7_combine_48 : decode cX7_combine 48 = .ok (.istore_n 3, 1) := by decide +kernel
theorem dX7_combine_49 : decode cX7_combine 49 = .ok (.iload_n 1, 1) := by decide +kernel
theorem dX7_combine_50 : decode cX7_combine 50 = .ok (.iload_n 2, 1) := by decide +kernel
theorem dX7_combine_51 : decode cX7_combine 51 = .ok (.if_icmp .ge 7, 3) := by decide +kernel
theorem dX7_combine_54 : decode cX7_combine 54 = .ok (.iload_n 2, 1) := by decide +kernel
theorem dX7_combine_55 : decode cX7_combine 55 = .ok (.goto 4, 3) := by decide +kernel
theorem dX7_combine_58 : decode cX7_combine 58 = .ok (.iload_n 1, 1) := by decide +kernel
theorem dX7_combine_59 : decode cX7_combine 59 = .ok (.istore 4, 2) := by decide +kernel
theorem dX7_combine_61 : decode cX7_combine 61 = .ok (.aload_n 0, 1) := by decide +kernel
theorem dX7_combine_62 : decode cX7_combine 62 = .ok (.getfield 63, 3) := by decide +kernel
theorem dX7_combine_65 : decode cX7_combine 65 = .ok (.iload_n 3, 1) := by decide +kernel
theorem dX7_combine_66 : decode cX7_combine 66 = .ok (.aload_n 0, 1) := by decide +kernel
theorem dX7_combine_67 : decode cX7_combine 67 = .ok (.getfield 63, 3) := by decide +kernel
theorem dX7_combine_70 : decode cX7_combine 70 = .ok (.iload_n 3, 1) := by decide +kernel
theorem dX7_combine_71 : decode cX7_combine 71 = .ok (.iaload, 1) := by decide +kernel
theorem dX7_combine_72 : decode cX7_combine 72 = .ok (.aload_n 0, 1) := by decide +kernel
theorem dX7_combine_73 : decode cX7_combine 73 = .ok (.getfield 63, 3) := by decide +kernel
theorem dX7_combine_76 : decode cX7_combine 76 = .ok (.iload 4, 2) := by decide +kernel
theorem dX7_combine_78 : decode cX7_combine 78 = .ok (.iaload, 1) := by decide +kernel
theorem dX7_combine_79 : decode cX7_combine 79 = .ok (.ior, 1) := by decide +kernel
theorem dX7_combine_80 : decode cX7_combine 80 = .ok (.iastore, 1) := by decide +kernel
theorem dX7_combine_81 : decode cX7_combine 81 = .ok (.aload_n 0, 1) := by decide +kernel
theorem dX7_combine_82 : decode cX7_combine 82 = .ok (.getfield 60, 3) := by decide +kernel
theorem dX7_combine_85 : decode cX7_combine 85 = .ok (.iload 4, 2) := by decide +kernel
theorem dX7_combine_87 : decode cX7_combine 87 = .ok (.iconst 0, 1) := by decide +kernel
theorem dX7_combine_88 : decode cX7_combine 88 = .ok (.bastore, 1) := by decide +kernel
theorem dX7_combine_89 : decode cX7_combine 89 = .ok (.aload_n 0, 1) := by decide +kernel
theorem dX7_combine_90 : decode cX7_combine 90 = .ok (.getfield 63, 3) := by decide +kernel
theorem dX7_combine_93 : decode cX7_combine 93 = .ok (.iload_n 3, 1) := by decide +kernel
theorem dX7_combine_94 : decode cX7_combine 94 = .ok (.iaload, 1) := by decide +kernel
theorem dX7_combine_95 : decode cX7_combine 95 = .ok (.invokestatic 187, 3) := by decide +kernel
theorem dX7_combine_98 : decode cX7_combine 98 = .ok (.ireturn, 1) := by decide +kernel
theorem dX7_spawn_0 : decode cX7_spawn 0 = .ok (.aload_n 0, 1) := by decide +kernel
theorem dX7_spawn_1 : decode cX7_spawn 1 = .ok (.iconst 0, 1) := by decide +kernel
theorem dX7_spawn_2 : decode cX7_spawn 2 = .ok (.putfield 69, 3) := by decide +kernel
theorem dX7_spawn_5 : decode cX7_spawn 5 = .ok (.aload_n 0, 1) := by decide +kernel
theorem dX7_spawn_6 : decode cX7_spawn 6 = .ok (.iload_n 1, 1) := by decide +kernel
theorem dX7_spawn_7 : decode cX7_spawn 7 = .ok (.invokevirtual 177, 3) := by decide +kernel
theorem dX7_spawn_10 : decode cX7_spawn 10 = .ok (.ifCond .ne 9, 3) := by decide +kernel
theorem dX7_spawn_13 : decode cX7_spawn 13 = .ok (.aload_n 0, 1) := by decide +kernel
theorem dX7_spawn_14 : decode cX7_spawn 14 = .ok (.iconst 1, 1) := by decide +kernel
theorem dX7_spawn_15 : decode cX7_spawn 15 = .ok (.invokevirtual 127, 3) := by decide +kernel
theorem dX7_spawn_18 : decode cX7_spawn 18 = .ok (.ireturn, 1) := by decide +kernel
theorem dX7_spawn_19 : decode cX7_spawn 19 = .ok (.iconst 0, 1) := by decide +kernel
theorem dX7_spawn_20 : decode cX7_spawn 20 = .ok (.istore_n 2, 1) := by decide +kernel
theorem dX7_spawn_21 : decode cX7_spawn 21 = .ok (.iload_n 2, 1) := by decide +kernel
theorem dX7_spawn_22 : decode cX7_spawn 22 = .ok (.iconst 4, 1) := by decide +kernel
theorem dX7_spawn_23 : decode cX7_spawn 23 = .ok (.if_icmp .ge 18, 3) := by decide +kernel
theorem dX7_spawn_26 : decode cX7_spawn 26 = .ok (.aload_n 0, 1) := by decide +kernel
theorem dX7_spawn_27 : decode cX7_spawn 27 = .ok (.getfield 41, 3) := by decide +kernel
theorem dX7_spawn_30 : decode cX7_spawn 30 = .ok (.iload_n 2, 1) := by decide +kernel
theorem dX7_spawn_31 : decode cX7_spawn 31 = .ok (.baload, 1) := by decide +kernel
theorem dX7_spawn_32 : decode cX7_spawn 32 = .ok (.ifCond .eq 9, 3) := by decide +kernel
theorem dX7_spawn_35 : decode cX7_spawn 35 = .ok (.iinc 2 1, 3) := by decide +kernel
theorem dX7_spawn_38 : decode cX7_spawn 38 = .ok (.goto (-17), 3) := by decide +kernel
theorem dX7_spawn_41 : decode cX7_spawn 41 = .ok (.iload_n 2, 1) := by decide +kernel
theorem dX7_spawn_42 : decode cX7_spawn 42 = .ok (.iconst 4, 1) := by decide +kernel
theorem dX7_spawn_43 : decode cX7_spawn 43 = .ok (.if_icmp .ne 9, 3) := by decide +kernel
theorem dX7_spawn_46 : decode cX7_spawn 46 = .ok (.aload_n 0, 1) := by decide +kernel
theorem dX7_spawn_47 : decode cX7_spawn 47 = .ok (.iconst 2, 1) := by decide +kernel
theorem dX7_spawn_48 : decode cX7_spawn 48 = .ok (.invokevirtual 127, 3) := by decide +kernel
theorem dX7_spawn_51 : decode cX7_spawn 51 = .ok (.ireturn, 1) := by decide +kernel
theorem dX7_spawn_52 : decode cX7_spawn 52 = .ok (.aload_n 0, 1) := by decide +kernel
theorem dX7_spawn_53 : decode cX7_spawn 53 = .ok (.getfield 41, 3) := by decide +kernel
theorem dX7_spawn_56 : decode cX7_spawn 56 = .ok (.iload_n 2, 1) := by decide +kernel
theorem dX7_spawn_57 : decode cX7_spawn 57 = .ok (.iconst 1, 1) := by decide +kernel
theorem dX7_spawn_58 : decode cX7_spawn 58 = .ok (.bastore, 1) := by decide +kernel
theorem dX7_spawn_59 : decode cX7_spawn 59 = .ok (.aload_n 0, 1) := by decide +kernel
theorem dX7_spawn_60 : decode cX7_spawn 60 = .ok (.getfield 45, 3) := by decide +kernel
theorem dX7_spawn_63 : decode cX7_spawn 63 = .ok (.iload_n 2, 1) := by decide +kernel
theorem dX7_spawn_64 : decode cX7_spawn 64 = .ok (.aload_n 0, 1) := by decide +kernel
theorem dX7_spawn_65 : decode cX7_spawn 65 = .ok (.iload_n 1, 1) := by decide +kernel
theorem dX7_spawn_66 : decode cX7_spawn 66 = .ok (.iconst (-1), 1) := by decide +kernel
theorem dX7_spawn_67 : decode cX7_spawn 67 = .ok (.invokevirtual 183, 3) := by decide +kernel
theorem dX7_spawn_70 : decode cX7_spawn 70 = .ok (.iastore, 1) := by decide +kernel
theorem dX7_spawn_71 : decode cX7_spawn 71 = .ok (.aload_n 0, 1) := by decide +kernel
theorem dX7_spawn_72 : decode cX7_spawn 72 = .ok (.getfield 48, 3) := by decide +kernel
theorem dX7_spawn_75 : decode cX7_spawn 75 = .ok (.iload_n 2, 1) := by decide +kernel
theorem dX7_spawn_76 : decode cX7_spawn 76 = .ok (.iconst 0, 1) := by decide +kernel
theorem dX7_spawn_77 : decode cX7_spawn 77 = .ok (.iastore, 1) := by decide +kernel
theorem dX7_spawn_78 : decode cX7_spawn 78 = .ok (.iload_n 2, 1) := by decide +kernel
theorem dX7_spawn_79 : decode cX7_spawn 79 = .ok (.ireturn, 1) := by decide +kernel
theorem dX7_end_0 : decode cX7_end 0 = .ok (.aload_n 0, 1) := by decide +kernel
theorem dX7_end_1 : decode cX7_end 1 = .ok (.iconst 0, 1) := by decide +kernel
theorem dX7_end_2 : decode cX7_end 2 = .ok (.putfield 69, 3) := by decide +kernel
theorem dX7_end_5 : decode cX7_end 5 = .ok (.aload_n 0, 1) := by decide +kernel
theorem dX7_end_6 : decode cX7_end 6 = .ok (.iload_n 1, 1) := by decide +kernel
theorem dX7_end_7 : decode cX7_end 7 = .ok (.invokevirtual 177, 3) := by decide +kernel
theorem dX7_end_10 : decode cX7_end 10 = .ok (.ifCond .ne 9, 3) := by decide +kernel
theorem dX7_end_13 : decode cX7_end 13 = .ok (.aload_n 0, 1) := by decide +kernel
theorem dX7_end_14 : decode cX7_end 14 = .ok (.iconst 1, 1) := by decide +kernel
theorem dX7_end_15 : decode cX7_end 15 = .ok (.invokevirtual 127, 3) := by decide +kernel
theorem dX7_end_18 : decode cX7_end 18 = .ok (.ireturn, 1) := by decide +kernel
theorem dX7_end_19 : decode cX7_end 19 = .ok (.iload_n 1, 1) := by decide +kernel
theorem dX7_end_20 : decode cX7_end 20 = .ok (.ifCond .ne 9, 3) := by decide +kernel
theorem dX7_end_23 : decode cX7_end 23 = .ok (.aload_n 0, 1) := by decide +kernel
theorem dX7_end_24 : decode cX7_end 24 = .ok (.iconst 2, 1) := by decide +kernel
theorem dX7_end_25 : decode cX7_end 25 = .ok (.invokevirtual 127, 3) := by decide +kernel
theorem dX7_end_28 : decode cX7_end 28 = .ok (.ireturn, 1) := by decide +kernel
theorem dX7_end_29 : decode cX7_end 29 = .ok (.aload_n 0, 1) := by decide +kernel
theorem dX7_end_30 : decode cX7_end 30 = .ok (.getfield 41, 3) := by decide +kernel
theorem dX7_end_33 : decode cX7_end 33 = .ok (.iload_n 1, 1) := by decide +kernel
theorem dX7_end_34 : decode cX7_end 34 = .ok (.iconst 0, 1) := by decide +kernel
theorem dX7_end_35 : decode cX7_end 35 = .ok (.bastore, 1) := by decide +kernel
theorem dX7_end_36 : decode cX7_end 36 = .ok (.aload_n 0, 1) := by decide +kernel
theorem dX7_end_37 : decode cX7_end 37 = .ok (.getfield 48, 3) := by decide +kernel
theorem dX7_end_40 : decode cX7_end 40 = .ok (.iload_n 1, 1) := by decide +kernel
theorem dX7_end_41 : decode cX7_end 41 = .ok (.iaload, 1) := by decide +kernel
theorem dX7_end_42 : decode cX7_end 42 = .ok (.ireturn, 1) := by decide +kernel
theorem dX7_blame_0 : decode cX7_blame 0 = .ok (.iconst 0, 1) := by decide +kernel
theorem dX7_blame_1 : decode cX7_blame 1 = .ok (.istore_n 3, 1) := by decide +kernel
theorem dX7_blame_2 : decode cX7_blame 2 = .ok (.iload_n 3, 1) := by decide +kernel
theorem dX7_blame_3 : decode cX7_blame 3 = .ok (.bipush 6, 2) := by decide +kernel
theorem dX7_blame_5 : decode cX7_blame 5 = .ok (.if_icmp .ge 26, 3) := by decide +kernel
theorem dX7_blame_8 : decode cX7_blame 8 = .ok (.iload_n 1, 1) := by decide +kernel
theorem dX7_blame_9 : decode cX7_blame 9 = .ok (.iload_n 3, 1) := by decide +kernel
theorem dX7_blame_10 : decode cX7_blame 10 = .ok (.ishr, 1) := by decide +kernel
theorem dX7_blame_11 : decode cX7_blame 11 = .ok (.iconst 1, 1) := by decide +kernel
theorem dX7_blame_12 : decode cX7_blame 12 = .ok (.iand, 1) := by decide +kernel
theorem dX7_blame_13 : decode cX7_blame 13 = .ok (.ifCond .eq 12, 3) := by decide +kernel
theorem dX7_blame_16 : decode cX7_blame 16 = .ok (.aload_n 0, 1) := by decide +kernel
theorem dX7_blame_17 : decode cX7_blame 17 = .ok (.iload_n 3, 1) := by decide +kernel
theorem dX7_blame_18 : decode cX7_blame 18 = .ok (.iload_n 2, 1) := by decide +kernel
theorem dX7_blame_19 : decode cX7_blame 19 = .ok (.invokevirtual 174, 3) := by decide +kernel
theorem dX7_blame_22 : decode cX7_blame 22 = .ok (.ifCond .eq 9, 3) := by decide +kernel
theorem dX7_blame_25 : decode cX7_blame 25 = .ok (.iinc 3 1, 3) := by decide +kernel
theorem dX7_blame_28 : decode cX7_blame 28 = .ok (.goto (-26), 3) := by decide +kernel
theorem dX7_blame_31 : decode cX7_blame 31 = .ok (.iload_n 3, 1) := by decide +kernel
theorem dX7_blame_32 : decode cX7_blame 32 = .ok (.bipush 6, 2) := by decide +kernel
theorem dX7_blame_34 : decode cX7_blame 34 = .ok (.if_icmp .ge 7, 3) := by decide +kernel
theorem dX7_blame_37 : decode cX7_blame 37 = .ok (.iload_n 3, 1) := by decide +kernel
theorem dX7_blame_38 : decode cX7_blame 38 = .ok (.goto 4, 3) := by decide +kernel
theorem dX7_blame_41 : decode cX7_blame 41 = .ok (.iconst (-1), 1) := by decide +kernel
theorem dX7_blame_42 : decode cX7_blame 42 = .ok (.ireturn, 1) := by decide +kernel
theorem dX7_noteDown_0 : decode cX7_noteDown 0 = .ok (.bipush 13, 2) := by decide +kernel
theorem dX7_noteDown_2 : decode cX7_noteDown 2 = .ok (.istore_n 3, 1) := by decide +kernel
theorem dX7_noteDown_3 : decode cX7_noteDown 3 = .ok (.iload_n 3, 1) := by decide +kernel
theorem dX7_noteDown_4 : decode cX7_noteDown 4 = .ok (.iconst 1, 1) := by decide +kernel
theorem dX7_noteDown_5 : decode cX7_noteDown 5 = .ok (.if_icmp .le 23, 3) := by decide +kernel
theorem dX7_noteDown_8 : decode cX7_noteDown 8 = .ok (.aload_n 0, 1) := by decide +kernel
theorem dX7_noteDown_9 : decode cX7_noteDown 9 = .ok (.getfield 66, 3) := by decide +kernel
theorem dX7_noteDown_12 : decode cX7_noteDown 12 = .ok (.iload_n 3, 1) := by decide +kernel
theorem dX7_noteDown_13 : decode cX7_noteDown 13 = .ok (.aload_n 0, 1) := by decide +kernel
theorem dX7_noteDown_14 : decode cX7_noteDown 14 = .ok (.getfield 66, 3) := by decide +kernel
theorem dX7_noteDown_17 : decode cX7_noteDown 17 = .ok (.iload_n 3, 1) := by decide +kernel
theorem dX7_noteDown_18 : decode cX7_noteDown 18 = .ok (.iconst 2, 1) := by decide +kernel
theorem dX7_noteDown_19 : decode cX7_noteDown 19 = .ok (.isub, 1) := by decide +kernel
theorem dX7_noteDown_20 : decode cX7_noteDown 20 = .ok (.iaload, 1) := by decide +kernel
theorem dX7_noteDown_21 : decode cX7_noteDown 21 = .ok (.iastore, 1) := by decide +kernel
theorem dX7_noteDown_22 : decode cX7_noteDown 22 = .ok (.iinc 3 (-1), 3) := by decide +kernel
theorem dX7_noteDown_25 : decode cX7_noteDown 25 = .ok (.goto (-22), 3) := by decide +kernel
theorem dX7_noteDown_28 : decode cX7_noteDown 28 = .ok (.aload_n 0, 1) := by decide +kernel
theorem dX7_noteDown_29 : decode cX7_noteDown 29 = .ok (.getfield 66, 3) := by decide +kernel
theorem dX7_noteDown_32 : decode cX7_noteDown 32 = .ok (.iconst 0, 1) := by decide +kernel
theorem dX7_noteDown_33 : decode cX7_noteDown 33 = .ok (.iload_n 1, 1) := by decide +kernel
theorem dX7_noteDown_34 : decode cX7_noteDown 34 = .ok (.iastore, 1) := by decide +kernel
theorem dX7_noteDown_35 : decode cX7_noteDown 35 = .ok (.aload_n 0, 1) := by decide +kernel
theorem dX7_noteDown_36 : decode cX7_noteDown 36 = .ok (.getfield 66, 3) := by decide +kernel
theorem dX7_noteDown_39 : decode cX7_noteDown 39 = .ok (.iconst 1, 1) := by decide +kernel
theorem dX7_noteDown_40 : decode cX7_noteDown 40 = .ok (.iload_n 2, 1) := by decide +kernel
theorem dX7_noteDown_41 : decode cX7_noteDown 41 = .ok (.iastore, 1) := by decide +kernel
theorem dX7_noteDown_42 : decode cX7_noteDown 42 = .ok (.aload_n 0, 1) := by decide +kernel
theorem dX7_noteDown_43 : decode cX7_noteDown 43 = .ok (.aload_n 0, 1) := by decide +kernel
theorem dX7_noteDown_44 : decode cX7_noteDown 44 = .ok (.getfield 190, 3) := by decide +kernel
theorem dX7_noteDown_47 : decode cX7_noteDown 47 = .ok (.bipush 7, 2) := by decide +kernel
theorem dX7_noteDown_49 : decode cX7_noteDown 49 = .ok (.if_icmp .ge 12, 3) := by decide +kernel
theorem dX7_noteDown_52 : decode cX7_noteDown 52 = .ok (.aload_n 0, 1) := by decide +kernel
theorem dX7_noteDown_53 : decode cX7_noteDown 53 = .ok (.getfield 190, 3) := by decide +kernel
theorem dX7_noteDown_56 : decode cX7_noteDown 56 = .ok (.iconst 1, 1) := by decide +kernel
theorem dX7_noteDown_57 : decode cX7_noteDown 57 = .ok (.iadd, 1) := by decide +kernel
theorem dX7_noteDown_58 : decode cX7_noteDown 58 = .ok (.goto 5, 3) := by decide +kernel
theorem dX7_noteDown_61 : decode cX7_noteDown 61 = .ok (.bipush 7, 2) := by decide +kernel
theorem dX7_noteDown_63 : decode cX7_noteDown 63 = .ok (.putfield 190, 3) := by decide +kernel
theorem dX7_noteDown_66 : decode cX7_noteDown 66 = .ok (.return_, 1) := by decide +kernel
theorem dX7_check_0 : decode cX7_check 0 = .ok (.aload_n 0, 1) := by decide +kernel
theorem dX7_check_1 : decode cX7_check 1 = .ok (.iconst 0, 1) := by decide +kernel
theorem dX7_check_2 : decode cX7_check 2 = .ok (.putfield 69, 3) := by decide +kernel
theorem dX7_check_5 : decode cX7_check 5 = .ok (.aload_n 0, 1) := by decide +kernel
theorem dX7_check_6 : decode cX7_check 6 = .ok (.iload_n 1, 1) := by decide +kernel
theorem dX7_check_7 : decode cX7_check 7 = .ok (.invokevirtual 177, 3) := by decide +kernel
theorem dX7_check_10 : decode cX7_check 10 = .ok (.ifCond .eq 11, 3) := by decide +kernel
theorem dX7_check_13 : decode cX7_check 13 = .ok (.aload_n 0, 1) := by decide +kernel
theorem dX7_check_14 : decode cX7_check 14 = .ok (.iload_n 2, 1) := by decide +kernel
theorem dX7_check_15 : decode cX7_check 15 = .ok (.invokevirtual 148, 3) := by decide +kernel
theorem dX7_check_18 : decode cX7_check 18 = .ok (.ifCond .ne 9, 3) := by decide +kernel
theorem dX7_check_21 : decode cX7_check 21 = .ok (.aload_n 0, 1) := by decide +kernel
theorem dX7_check_22 : decode cX7_check 22 = .ok (.iconst 1, 1) := by decide +kernel
theorem dX7_check_23 : decode cX7_check 23 = .ok (.invokevirtual 127, 3) := by decide +kernel
theorem dX7_check_26 : decode cX7_check 26 = .ok (.ireturn, 1) := by decide +kernel
theorem dX7_check_27 : decode cX7_check 27 = .ok (.aload_n 0, 1) := by decide +kernel
theorem dX7_check_28 : decode cX7_check 28 = .ok (.iload_n 1, 1) := by decide +kernel
theorem dX7_check_29 : decode cX7_check 29 = .ok (.iload_n 2, 1) := by decide +kernel
theorem dX7_check_30 : decode cX7_check 30 = .ok (.invokevirtual 183, 3) := by decide +kernel
theorem dX7_check_33 : decode cX7_check 33 = .ok (.istore_n 3, 1) := by decide +kernel
theorem dX7_check_34 : decode cX7_check 34 = .ok (.aload_n 0, 1) := by decide +kernel
theorem dX7_check_35 : decode cX7_check 35 = .ok (.iload_n 3, 1) := by decide +kernel
theorem dX7_check_36 : decode cX7_check 36 = .ok (.iload_n 2, 1) := by decide +kernel
theorem dX7_check_37 : decode cX7_check 37 = .ok (.invokevirtual 193, 3) := by decide +kernel
theorem dX7_check_40 : decode cX7_check 40 = .ok (.istore 4, 2) := by decide +kernel
theorem dX7_check_42 : decode cX7_check 42 = .ok (.iload 4, 2) := by decide +kernel
theorem dX7_check_44 : decode cX7_check 44 = .ok (.ifCond .lt 16, 3) := by decide +kernel
theorem dX7_check_47 : decode cX7_check 47 = .ok (.aload_n 0, 1) := by decide +kernel
theorem dX7_check_48 : decode cX7_check 48 = .ok (.iload_n 1, 1) := by decide +kernel
theorem dX7_check_49 : decode cX7_check 49 = .ok (.iload 4, 2) := by decide +kernel
theorem dX7_check_51 : decode cX7_check 51 = .ok (.invokevirtual 196, 3) := by decide +kernel
theorem dX7_check_54 : decode cX7_check 54 = .ok (.aload_n 0, 1) := by decide +kernel
theorem dX7_check_55 : decode cX7_check 55 = .ok (.iconst 2, 1) := by decide +kernel
theorem dX7_check_56 : decode cX7_check 56 = .ok (.invokevirtual 127, 3) := by decide +kernel
theorem dX7_check_59 : decode cX7_check 59 = .ok (.ireturn, 1) := by decide +kernel
theorem dX7_check_60 : decode cX7_check 60 = .ok (.iload_n 3, 1) := by decide +kernel
theorem dX7_check_61 : decode cX7_check 61 = .ok (.invokestatic 187, 3) := by decide +kernel
theorem dX7_check_64 : decode cX7_check 64 = .ok (.ireturn, 1) := by decide +kernel
theorem dX7_allowed_0 : decode cX7_allowed 0 = .ok (.aload_n 0, 1) := by decide +kernel
theorem dX7_allowed_1 : decode cX7_allowed 1 = .ok (.iconst 0, 1) := by decide +kernel
theorem dX7_allowed_2 : decode cX7_allowed 2 = .ok (.putfield 69, 3) := by decide +kernel
theorem dX7_allowed_5 : decode cX7_allowed 5 = .ok (.aload_n 0, 1) := by decide +kernel
theorem dX7_allowed_6 : decode cX7_allowed 6 = .ok (.iload_n 1, 1) := by decide +kernel
theorem dX7_allowed_7 : decode cX7_allowed 7 = .ok (.invokevirtual 177, 3) := by decide +kernel
theorem dX7_allowed_10 : decode cX7_allowed 10 = .ok (.ifCond .ne 9, 3) := by decide +kernel
theorem dX7_allowed_13 : decode cX7_allowed 13 = .ok (.aload_n 0, 1) := by decide +kernel
theorem dX7_allowed_14 : decode cX7_allowed 14 = .ok (.iconst 1, 1) := by decide +kernel
theorem dX7_allowed_15 : decode cX7_allowed 15 = .ok (.invokevirtual 127, 3) := by decide +kernel
theorem dX7_allowed_18 : decode cX7_allowed 18 = .ok (.ireturn, 1) := by decide +kernel
theorem dX7_allowed_19 : decode cX7_allowed 19 = .ok (.iconst 0, 1) := by decide +kernel
theorem dX7_allowed_20 : decode cX7_allowed 20 = .ok (.istore_n 2, 1) := by decide +kernel
theorem dX7_allowed_21 : decode cX7_allowed 21 = .ok (.iconst 0, 1) := by decide +kernel
theorem dX7_allowed_22 : decode cX7_allowed 22 = .ok (.istore_n 3, 1) := by decide +kernel
theorem dX7_allowed_23 : decode cX7_allowed 23 = .ok (.iload_n 3, 1) := by decide +kernel
theorem dX7_allowed_24 : decode cX7_allowed 24 = .ok (.bipush 8, 2) := by decide +kernel
theorem dX7_allowed_26 : decode cX7_allowed 26 = .ok (.if_icmp .ge 52, 3) := by decide +kernel
theorem dX7_allowed_29 : decode cX7_allowed 29 = .ok (.aload_n 0, 1) := by decide +kernel
theorem dX7_allowed_30 : decode cX7_allowed 30 = .ok (.getfield 13, 3) := by decide +kernel
theorem dX7_allowed_33 : decode cX7_allowed 33 = .ok (.iload_n 3, 1) := by decide +kernel
theorem dX7_allowed_34 : decode cX7_allowed 34 = .ok (.iaload, 1) := by decide +kernel
theorem dX7_allowed_35 : decode cX7_allowed 35 = .ok (.ifCond .le 21, 3) := by decide +kernel
theorem dX7_allowed_38 : decode cX7_allowed 38 = .ok (.aload_n 0, 1) := by decide +kernel
theorem dX7_allowed_39 : decode cX7_allowed 39 = .ok (.aload_n 0, 1) := by decide +kernel
theorem dX7_allowed_40 : decode cX7_allowed 40 = .ok (.iload_n 1, 1) := by decide +kernel
theorem dX7_allowed_41 : decode cX7_allowed 41 = .ok (.iload_n 3, 1) := by decide +kernel
theorem dX7_allowed_42 : decode cX7_allowed 42 = .ok (.invokevirtual 183, 3) := by decide +kernel
theorem dX7_allowed_45 : decode cX7_allowed 45 = .ok (.iload_n 3, 1) := by decide +kernel
theorem dX7_allowed_46 : decode cX7_allowed 46 = .ok (.invokevirtual 193, 3) := by decide +kernel
theorem dX7_allowed_49 : decode cX7_allowed 49 = .ok (.ifCond .ge 7, 3) := by decide +kernel
theorem dX7_allowed_52 : decode cX7_allowed 52 = .ok (.iconst 1, 1) := by decide +kernel
theorem dX7_allowed_53 : decode cX7_allowed 53 = .ok (.goto 4, 3) := by decide +kernel
theorem dX7_allowed_56 : decode cX7_allowed 56 = .ok (.iconst 0, 1) := by decide +kernel
theorem dX7_allowed_57 : decode cX7_allowed 57 = .ok (.istore 4, 2) := by decide +kernel
theorem dX7_allowed_59 : decode cX7_allowed 59 = .ok (.iload 4, 2) := by decide +kernel
theorem dX7_allowed_61 : decode cX7_allowed 61 = .ok (.ifCond .eq 9, 3) := by decide +kernel
theorem dX7_allowed_64 : decode cX7_allowed 64 = .ok (.iload_n 2, 1) := by decide +kernel
theorem dX7_allowed_65 : decode cX7_allowed 65 = .ok (.iconst 1, 1) := by decide +kernel
theorem dX7_allowed_66 : decode cX7_allowed 66 = .ok (.iadd, 1) := by decide +kernel
theorem dX7_allowed_67 : decode cX7_allowed 67 = .ok (.goto 4, 3) := by decide +kernel
theorem dX7_allowed_70 : decode cX7_allowed 70 = .ok (.iload_n 2, 1) := by decide +kernel
theorem dX7_allowed_71 : decode cX7_allowed 71 = .ok (.istore_n 2, 1) := by decide +kernel
theorem dX7_allowed_72 : decode cX7_allowed 72 = .ok (.iinc 3 1, 3) := by decide +kernel
theorem dX7_allowed_75 : decode cX7_allowed 75 = .ok (.goto (-52), 3) := by decide +kernel
theorem dX7_allowed_78 : decode cX7_allowed 78 = .ok (.iload_n 2, 1) := by decide +kernel
theorem dX7_allowed_79 : decode cX7_allowed 79 = .ok (.ireturn, 1) := by decide +kernel
theorem dX7_note_0 : decode cX7_note 0 = .ok (.aload_n 0, 1) := by decide +kernel
theorem dX7_note_1 : decode cX7_note 1 = .ok (.iconst 0, 1) := by decide +kernel
theorem dX7_note_2 : decode cX7_note 2 = .ok (.putfield 69, 3) := by decide +kernel
theorem dX7_note_5 : decode cX7_note 5 = .ok (.iload_n 1, 1) := by decide +kernel
theorem dX7_note_6 : decode cX7_note 6 = .ok (.iconst 0, 1) := by decide +kernel
theorem dX7_note_7 : decode cX7_note 7 = .ok (.aload_n 0, 1) := by decide +kernel
theorem dX7_note_8 : decode cX7_note 8 = .ok (.getfield 190, 3) := by decide +kernel
theorem dX7_note_11 : decode cX7_note 11 = .ok (.iconst 1, 1) := by decide +kernel
theorem dX7_note_12 : decode cX7_note 12 = .ok (.isub, 1) := by decide +kernel
theorem dX7_note_13 : decode cX7_note 13 = .ok (.invokestatic 123, 3) := by decide +kernel
theorem dX7_note_16 : decode cX7_note 16 = .ok (.ifCond .eq 12, 3) := by decide +kernel
theorem dX7_note_19 : decode cX7_note 19 = .ok (.iload_n 2, 1) := by decide +kernel
theorem dX7_note_20 : decode cX7_note 20 = .ok (.iconst 0, 1) := by decide +kernel
theorem dX7_note_21 : decode cX7_note 21 = .ok (.iconst 1, 1) := by decide +kernel
theorem dX7_note_22 : decode cX7_note 22 = .ok (.invokestatic 123, 3) := by decide +kernel
theorem dX7_note_25 : decode cX7_note 25 = .ok (.ifCond .ne 9, 3) := by decide +kernel
theorem dX7_note_28 : decode cX7_note 28 = .ok (.aload_n 0, 1) := by decide +kernel
theorem dX7_note_29 : decode cX7_note 29 = .ok (.iconst 1, 1) := by decide +kernel
theorem dX7_note_30 : decode cX7_note 30 = .ok (.invokevirtual 127, 3) := by decide +kernel
theorem dX7_note_33 : decode cX7_note 33 = .ok (.ireturn, 1) := by decide +kernel
theorem dX7_note_34 : decode cX7_note 34 = .ok (.aload_n 0, 1) := by decide +kernel
theorem dX7_note_35 : decode cX7_note 35 = .ok (.getfield 66, 3) := by decide +kernel
theorem dX7_note_38 : decode cX7_note 38 = .ok (.iconst 2, 1) := by decide +kernel
theorem dX7_note_39 : decode cX7_note 39 = .ok (.iload_n 1, 1) := by decide +kernel
theorem dX7_note_40 : decode cX7_note 40 = .ok (.imul, 1) := by decide +kernel
theorem dX7_note_41 : decode cX7_note 41 = .ok (.iload_n 2, 1) := by decide +kernel
theorem dX7_note_42 : decode cX7_note 42 = .ok (.iadd, 1) := by decide +kernel
theorem dX7_note_43 : decode cX7_note 43 = .ok (.iaload, 1) := by decide +kernel
theorem dX7_note_44 : decode cX7_note 44 = .ok (.ireturn, 1) := by decide +kernel
theorem dX7_idle_0 : decode cX7_idle 0 = .ok (.aload_n 0, 1) := by decide +kernel
theorem dX7_idle_1 : decode cX7_idle 1 = .ok (.iconst 0, 1) := by decide +kernel
theorem dX7_idle_2 : decode cX7_idle 2 = .ok (.putfield 69, 3) := by decide +kernel
theorem dX7_idle_5 : decode cX7_idle 5 = .ok (.iload_n 1, 1) := by decide +kernel
theorem dX7_idle_6 : decode cX7_idle 6 = .ok (.iconst 0, 1) := by decide +kernel
theorem dX7_idle_7 : decode cX7_idle 7 = .ok (.iconst 5, 1) := by decide +kernel
theorem dX7_idle_8 : decode cX7_idle 8 = .ok (.invokestatic 123, 3) := by decide +kernel
theorem dX7_idle_11 : decode cX7_idle 11 = .ok (.ifCond .ne 10, 3) := by decide +kernel
theorem dX7_idle_14 : decode cX7_idle 14 = .ok (.aload_n 0, 1) := by decide +kernel
theorem dX7_idle_15 : decode cX7_idle 15 = .ok (.iconst 1, 1) := by decide +kernel
theorem dX7_idle_16 : decode cX7_idle 16 = .ok (.invokevirtual 127, 3) := by decide +kernel
theorem dX7_idle_19 : decode cX7_idle 19 = .ok (.i2f, 1) := by decide +kernel
theorem dX7_idle_20 : decode cX7_idle 20 = .ok (.freturn, 1) := by decide +kernel
theorem dX7_idle_21 : decode cX7_idle 21 = .ok (.iconst 0, 1) := by decide +kernel
theorem dX7_idle_22 : decode cX7_idle 22 = .ok (.istore_n 2, 1) := by decide +kernel
theorem dX7_idle_23 : decode cX7_idle 23 = .ok (.iconst 0, 1) := by decide +kernel
theorem dX7_idle_24 : decode cX7_idle 24 = .ok (.istore_n 3, 1) := by decide +kernel
theorem dX7_idle_25 : decode cX7_idle 25 = .ok (.iload_n 3, 1) := by decide +kernel
theorem dX7_idle_26 : decode cX7_idle 26 = .ok (.aload_n 0, 1) := by decide +kernel
theorem dX7_idle_27 : decode cX7_idle 27 = .ok (.getfield 38, 3) := by decide +kernel
theorem dX7_idle_30 : decode cX7_idle 30 = .ok (.iload_n 1, 1) := by decide +kernel
theorem dX7_idle_31 : decode cX7_idle 31 = .ok (.iaload, 1) := by decide +kernel
theorem dX7_idle_32 : decode cX7_idle 32 = .ok (.if_icmp .ge 89, 3) := by decide +kernel
theorem dX7_idle_35 : decode cX7_idle 35 = .ok (.iconst 0, 1) := by decide +kernel
theorem dX7_idle_36 : decode cX7_idle 36 = .ok (.istore 4, 2) := by decide +kernel
theorem dX7_idle_38 : decode cX7_idle 38 = .ok (.iconst 0, 1) := by decide +kernel
theorem dX7_idle_39 : decode cX7_idle 39 = .ok (.istore 5, 2) := by decide +kernel
theorem dX7_idle_41 : decode cX7_idle 41 = .ok (.iload 5, 2) := by decide +kernel
theorem dX7_idle_43 : decode cX7_idle 43 = .ok (.aload_n 0, 1) := by decide +kernel
theorem dX7_idle_44 : decode cX7_idle 44 = .ok (.getfield 38, 3) := by decide +kernel
theorem dX7_idle_47 : decode cX7_idle 47 = .ok (.iload_n 1, 1) := by decide +kernel
theorem dX7_idle_48 : decode cX7_idle 48 = .ok (.iaload, 1) := by decide +kernel
theorem dX7_idle_49 : decode cX7_idle 49 = .ok (.if_icmp .ge 53, 3) := by decide +kernel
theorem dX7_idle_52 : decode cX7_idle 52 = .ok (.iload 4, 2) := by decide +kernel
theorem dX7_idle_54 : decode cX7_idle 54 = .ok (.ifCond .ne 35, 3) := by decide +kernel
theorem dX7_idle_57 : decode cX7_idle 57 = .ok (.iload 5, 2) := by decide +kernel
theorem dX7_idle_59 : decode cX7_idle 59 = .ok (.iload_n 3, 1) := by decide +kernel
theorem dX7_idle_60 : decode cX7_idle 60 = .ok (.if_icmp .eq 33, 3) := by decide +kernel
theorem dX7_idle_63 : decode cX7_idle 63 = .ok (.aload_n 0, 1) := by decide +kernel
theorem dX7_idle_64 : decode cX7_idle 64 = .ok (.bipush 8, 2) := by decide +kernel
theorem dX7_idle_66 : decode cX7_idle 66 = .ok (.bipush 6, 2) := by decide +kernel
theorem dX7_idle_68 : decode cX7_idle 68 = .ok (.iload_n 1, 1) := by decide +kernel
theorem dX7_idle_69 : decode cX7_idle 69 = .ok (.imul, 1) := by decide +kernel
theorem dX7_idle_70 : decode cX7_idle 70 = .ok (.iadd, 1) := by decide +kernel
theorem dX7_idle_71 : decode cX7_idle 71 = .ok (.iload 5, 2) := by decide +kernel
theorem dX7_idle_73 : decode cX7_idle 73 = .ok (.iadd, 1) := by decide +kernel
theorem dX7_idle_74 : decode cX7_idle 74 = .ok (.bipush 8, 2) := by decide +kernel
theorem dX7_idle_76 : decode cX7_idle 76 = .ok (.bipush 6, 2) := by decide +kernel
theorem dX7_idle_78 : decode cX7_idle 78 = .ok (.iload_n 1, 1) := by decide +kernel
theorem dX7_idle_79 : decode cX7_idle 79 = .ok (.imul, 1) := by decide +kernel
theorem dX7_idle_80 : decode cX7_idle 80 = .ok (.iadd, 1) := by decide +kernel
theorem dX7_idle_81 : decode cX7_idle 81 = .ok (.iload_n 3, 1) := by decide +kernel
theorem dX7_idle_82 : decode cX7_idle 82 = .ok (.iadd, 1) := by decide +kernel
theorem dX7_idle_83 : decode cX7_idle 83 = .ok (.invokevirtual 168, 3) := by decide +kernel
theorem dX7_idle_86 : decode cX7_idle 86 = .ok (.ifCond .eq 7, 3) := by decide +kernel
theorem dX7_idle_89 : decode cX7_idle 89 = .ok (.iconst 1, 1) := by decide +kernel
theorem dX7_idle_90 : decode cX7_idle 90 = .ok (.goto 4, 3) := by decide +kernel
theorem dX7_idle_93 : decode cX7_idle 93 = .ok (.iconst 0, 1) := by decide +kernel
theorem dX7_idle_94 : decode cX7_idle 94 = .ok (.istore 4, 2) := by decide +kernel
theorem dX7_idle_96 : decode cX7_idle 96 = .ok (.iinc 5 1, 3) := by decide +kernel
theorem dX7_idle_99 : decode cX7_idle 99 = .ok (.goto (-58), 3) := by decide +kernel
theorem dX7_idle_102 : decode cX7_idle 102 = .ok (.iload 4, 2) := by decide +kernel
theorem dX7_idle_104 : decode cX7_idle 104 = .ok (.ifCond .eq 9, 3) := by decide +kernel
theorem dX7_idle_107 : decode cX7_idle 107 = .ok (.iload_n 2, 1) := by decide +kernel
theorem dX7_idle_108 : decode cX7_idle 108 = .ok (.iconst 1, 1) := by decide +kernel
theorem dX7_idle_109 : decode cX7_idle 109 = .ok (.iadd, 1) := by decide +kernel
theorem dX7_idle_110 : decode cX7_idle 110 = .ok (.goto 4, 3) := by decide +kernel
theorem dX7_idle_113 : decode cX7_idle 113 = .ok (.iload_n 2, 1) := by decide +kernel
theorem dX7_idle_114 : decode cX7_idle 114 = .ok (.istore_n 2, 1) := by decide +kernel
theorem dX7_idle_115 : decode cX7_idle 115 = .ok (.iinc 3 1, 3) := by decide +kernel
theorem dX7_idle_118 : decode cX7_idle 118 = .ok (.goto (-93), 3) := by decide +kernel
theorem dX7_idle_121 : decode cX7_idle 121 = .ok (.aload_n 0, 1) := by decide +kernel
theorem dX7_idle_122 : decode cX7_idle 122 = .ok (.getfield 38, 3) := by decide +kernel
theorem dX7_idle_125 : decode cX7_idle 125 = .ok (.iload_n 1, 1) := by decide +kernel
theorem dX7_idle_126 : decode cX7_idle 126 = .ok (.iaload, 1) := by decide +kernel
theorem dX7_idle_127 : decode cX7_idle 127 = .ok (.ifCond .ne 5, 3) := by decide +kernel
theorem dX7_idle_130 : decode cX7_idle 130 = .ok (.fconst 0, 1) := by decide +kernel
theorem dX7_idle_131 : decode cX7_idle 131 = .ok (.freturn, 1) := by decide +kernel
theorem dX7_idle_132 : decode cX7_idle 132 = .ok (.iload_n 2, 1) := by decide +kernel
theorem dX7_idle_133 : decode cX7_idle 133 = .ok (.i2f, 1) := by decide +kernel
theorem dX7_idle_134 : decode cX7_idle 134 = .ok (.fstore_n 3, 1) := by decide +kernel
theorem dX7_idle_135 : decode cX7_idle 135 = .ok (.aload_n 0, 1) := by decide +kernel
theorem dX7_idle_136 : decode cX7_idle 136 = .ok (.getfield 38, 3) := by decide +kernel
theorem dX7_idle_139 : decode cX7_idle 139 = .ok (.iload_n 1, 1) := by decide +kernel
theorem dX7_idle_140 : decode cX7_idle 140 = .ok (.iaload, 1) := by decide +kernel
theorem dX7_idle_141 : decode cX7_idle 141 = .ok (.i2f, 1) := by decide +kernel
theorem dX7_idle_142 : decode cX7_idle 142 = .ok (.fstore 4, 2) := by decide +kernel
theorem dX7_idle_144 : decode cX7_idle 144 = .ok (.fload_n 3, 1) := by decide +kernel
theorem dX7_idle_145 : decode cX7_idle 145 = .ok (.fload 4, 2) := by decide +kernel
theorem dX7_idle_147 : decode cX7_idle 147 = .ok (.fdiv, 1) := by decide +kernel
theorem dX7_idle_148 : decode cX7_idle 148 = .ok (.freturn, 1) := by decide +kernel

theorem dX6_init_0 : decode cX6_init 0 = .ok (.aload_n 0, 1) := by decide +kernel
theorem dX6_init_1 : decode cX6_init 1 = .ok (.invokespecial 1, 3) := by decide +kernel
theorem dX6_init_4 : decode cX6_init 4 = .ok (.aload_n 0, 1) := by decide +kernel
theorem dX6_init_5 : decode cX6_init 5 = .ok (.new 7, 3) := by decide +kernel
theorem dX6_init_8 : decode cX6_init 8 = .ok (.dup, 1) := by decide +kernel
theorem dX6_init_9 : decode cX6_init 9 = .ok (.invokespecial 9, 3) := by decide +kernel
theorem dX6_init_12 : decode cX6_init 12 = .ok (.putfield 10, 3) := by decide +kernel
theorem dX6_init_15 : decode cX6_init 15 = .ok (.aload_n 0, 1) := by decide +kernel
theorem dX6_init_16 : decode cX6_init 16 = .ok (.bipush 8, 2) := by decide +kernel
theorem dX6_init_18 : decode cX6_init 18 = .ok (.anewarray 16, 3) := by decide +kernel
theorem dX6_init_21 : decode cX6_init 21 = .ok (.putfield 18, 3) := by decide +kernel
theorem dX6_init_24 : decode cX6_init 24 = .ok (.aload_n 0, 1) := by decide +kernel
theorem dX6_init_25 : decode cX6_init 25 = .ok (.bipush 6, 2) := by decide +kernel
theorem dX6_init_27 : decode cX6_init 27 = .ok (.anewarray 22, 3) := by decide +kernel
theorem dX6_init_30 : decode cX6_init 30 = .ok (.putfield 24, 3) := by decide +kernel
theorem dX6_init_33 : decode cX6_init 33 = .ok (.aload_n 0, 1) := by decide +kernel
theorem dX6_init_34 : decode cX6_init 34 = .ok (.iconst 4, 1) := by decide +kernel
theorem dX6_init_35 : decode cX6_init 35 = .ok (.anewarray 28, 3) := by decide +kernel
theorem dX6_init_38 : decode cX6_init 38 = .ok (.putfield 30, 3) := by decide +kernel
theorem dX6_init_41 : decode cX6_init 41 = .ok (.aload_n 0, 1) := by decide +kernel
theorem dX6_init_42 : decode cX6_init 42 = .ok (.bipush 8, 2) := by decide +kernel
theorem dX6_init_44 : decode cX6_init 44 = .ok (.newarray .int, 2) := by decide +kernel
theorem dX6_init_46 : decode cX6_init 46 = .ok (.putfield 34, 3) := by decide +kernel
theorem dX6_init_49 : decode cX6_init 49 = .ok (.aload_n 0, 1) := by decide +kernel
theorem dX6_init_50 : decode cX6_init 50 = .ok (.new 38, 3) := by decide +kernel
theorem dX6_init_53 : decode cX6_init 53 = .ok (.dup, 1) := by decide +kernel
theorem dX6_init_54 : decode cX6_init 54 = .ok (.invokespecial 40, 3) := by decide +kernel
theorem dX6_init_57 : decode cX6_init 57 = .ok (.putfield 41, 3) := by decide +kernel
theorem dX6_init_60 : decode cX6_init 60 = .ok (.iconst 0, 1) := by decide +kernel
theorem dX6_init_61 : decode cX6_init 61 = .ok (.istore_n 1, 1) := by decide +kernel
theorem dX6_init_62 : decode cX6_init 62 = .ok (.iload_n 1, 1) := by decide +kernel
theorem dX6_init_63 : decode cX6_init 63 = .ok (.bipush 6, 2) := by decide +kernel
theorem dX6_init_65 : decode cX6_init 65 = .ok (.if_icmp .ge 22, 3) := by decide +kernel
theorem dX6_init_68 : decode cX6_init 68 = .ok (.aload_n 0, 1) := by decide +kernel
theorem dX6_init_69 : decode cX6_init 69 = .ok (.getfield 24, 3) := by decide +kernel
theorem dX6_init_72 : decode cX6_init 72 = .ok (.iload_n 1, 1) := by decide +kernel
theorem dX6_init_73 : decode cX6_init 73 = .ok (.new 22, 3) := by decide +kernel
theorem dX6_init_76 : decode cX6_init 76 = .ok (.dup, 1) := by decide +kernel
theorem dX6_init_77 : decode cX6_init 77 = .ok (.invokespecial 45, 3) := by decide +kernel
theorem dX6_init_80 : decode cX6_init 80 = .ok (.aastore, 1) := by decide +kernel
theorem dX6_init_81 : decode cX6_init 81 = .ok (.iinc 1 1, 3) := by decide +kernel
theorem dX6_init_84 : decode cX6_init 84 = .ok (.goto (-22), 3) := by decide +kernel
theorem dX6_init_87 : decode cX6_init 87 = .ok (.iconst 0, 1) := by decide +kernel
theorem dX6_init_88 : decode cX6_init 88 = .ok (.istore_n 1, 1) := by decide +kernel
theorem dX6_init_89 : decode cX6_init 89 = .ok (.iload_n 1, 1) := by decide +kernel
theorem dX6_init_90 : decode cX6_init 90 = .ok (.bipush 8, 2) := by decide +kernel
theorem dX6_init_92 : decode cX6_init 92 = .ok (.if_icmp .ge 16, 3) := by decide +kernel
theorem dX6_init_95 : decode cX6_init 95 = .ok (.aload_n 0, 1) := by decide +kernel
theorem dX6_init_96 : decode cX6_init 96 = .ok (.getfield 34, 3) := by decide +kernel
theorem dX6_init_99 : decode cX6_init 99 = .ok (.iload_n 1, 1) := by decide +kernel
theorem dX6_init_100 : decode cX6_init 100 = .ok (.iconst (-1), 1) := by decide +kernel
theorem dX6_init_101 : decode cX6_init 101 = .ok (.iastore, 1) := by decide +kernel
theorem dX6_init_102 : decode cX6_init 102 = .ok (.iinc 1 1, 3) := by decide +kernel
theorem dX6_init_105 : decode cX6_init 105 = .ok (.goto (-16), 3) := by decide +kernel
theorem dX6_init_108 : decode cX6_init 108 = .ok (.aload_n 0, 1) := by decide +kernel
theorem dX6_init_109 : decode cX6_init 109 = .ok (.getfield 30, 3) := by decide +kernel
theorem dX6_init_112 : decode cX6_init 112 = .ok (.iconst 0, 1) := by decide +kernel
theorem dX6_init_113 : decode cX6_init 113 = .ok (.new 28, 3) := by decide +kernel
theorem dX6_init_116 : decode cX6_init 116 = .ok (.dup, 1) := by decide +kernel
theorem dX6_init_117 : decode cX6_init 117 = .ok (.iconst 0, 1) := by decide +kernel
theorem dX6_init_118 : decode cX6_init 118 = .ok (.invokespecial 46, 3) := by decide +kernel
theorem dX6_init_121 : decode cX6_init 121 = .ok (.aastore, 1) := by decide +kernel
theorem dX6_init_122 : decode cX6_init 122 = .ok (.return_, 1) := by decide +kernel
theorem dX6_type_0 : decode cX6_type 0 = .ok (.iload_n 1, 1) := by decide +kernel
theorem dX6_type_1 : decode cX6_type 1 = .ok (.bipush 32, 2) := by decide +kernel
theorem dX6_type_3 : decode cX6_type 3 = .ok (.if_icmp .lt 21, 3) := by decide +kernel
theorem dX6_type_6 : decode cX6_type 6 = .ok (.iload_n 1, 1) := by decide +kernel
theorem dX6_type_7 : decode cX6_type 7 = .ok (.bipush 126, 2) := by decide +kernel
theorem dX6_type_9 : decode cX6_type 9 = .ok (.if_icmp .gt 15, 3) := by decide +kernel
theorem dX6_type_12 : decode cX6_type 12 = .ok (.aload_n 0, 1) := by decide +kernel
theorem dX6_type_13 : decode cX6_type 13 = .ok (.getfield 10, 3) := by decide +kernel
theorem dX6_type_16 : decode cX6_type 16 = .ok (.invokevirtual 49, 3) := by decide +kernel
theorem dX6_type_19 : decode cX6_type 19 = .ok (.bipush 16, 2) := by decide +kernel
theorem dX6_type_21 : decode cX6_type 21 = .ok (.if_icmp .lt 5, 3) := by decide +kernel
theorem dX6_type_24 : decode cX6_type 24 = .ok (.iconst 0, 1) := by decide +kernel
theorem dX6_type_25 : decode cX6_type 25 = .ok (.ireturn, 1) := by decide +kernel
theorem dX6_type_26 : decode cX6_type 26 = .ok (.aload_n 0, 1) := by decide +kernel
theorem dX6_type_27 : decode cX6_type 27 = .ok (.getfield 10, 3) := by decide +kernel
theorem dX6_type_30 : decode cX6_type 30 = .ok (.iload_n 1, 1) := by decide +kernel
theorem dX6_type_31 : decode cX6_type 31 = .ok (.invokevirtual 53, 3) := by decide +kernel
theorem dX6_type_34 : decode cX6_type 34 = .ok (.pop, 1) := by decide +kernel
theorem dX6_type_35 : decode cX6_type 35 = .ok (.iconst 1, 1) := by decide +kernel
theorem dX6_type_36 : decode cX6_type 36 = .ok (.ireturn, 1) := by decide +kernel
theorem dX6_keep_0 : decode cX6_keep 0 = .ok (.iload_n 1, 1) := by decide +kernel
theorem dX6_keep_1 : decode cX6_keep 1 = .ok (.ifCond .lt 9, 3) := by decide +kernel
theorem dX6_keep_4 : decode cX6_keep 4 = .ok (.iload_n 1, 1) := by decide +kernel
theorem dX6_keep_5 : decode cX6_keep 5 = .ok (.bipush 8, 2) := by decide +kernel
theorem dX6_keep_7 : decode cX6_keep 7 = .ok (.if_icmp .lt 11, 3) := by decide +kernel
theorem dX6_keep_10 : decode cX6_keep 10 = .ok (.new 57, 3) := by decide +kernel
theorem dX6_keep_13 : decode cX6_keep 13 = .ok (.dup, 1) := by decide +kernel
theorem dX6_keep_14 : decode cX6_keep 14 = .ok (.invokespecial 59, 3) := by decide +kernel
theorem dX6_keep_17 : decode cX6_keep 17 = .ok (.athrow, 1) := by decide +kernel
theorem dX6_keep_18 : decode cX6_keep 18 = .ok (.new 60, 3) := by decide +kernel
theorem dX6_keep_21 : decode cX6_keep 21 = .ok (.dup, 1) := by decide +kernel
theorem dX6_keep_22 : decode cX6_keep 22 = .ok (.aload_n 0, 1) := by decide +kernel
theorem dX6_keep_23 : decode cX6_keep 23 = .ok (.getfield 10, 3) := by decide +kernel
theorem dX6_keep_26 : decode cX6_keep 26 = .ok (.invokevirtual 62, 3) := by decide +kernel
theorem dX6_keep_29 : decode cX6_keep 29 = .ok (.invokespecial 66, 3) := by decide +kernel
theorem dX6_keep_32 : decode cX6_keep 32 = .ok (.astore_n 2, 1) := by decide +kernel
theorem dX6_keep_33 : decode cX6_keep 33 = .ok (.aload_n 0, 1) := by decide +kernel
theorem dX6_keep_34 : decode cX6_keep 34 = .ok (.getfield 10, 3) := by decide +kernel
theorem dX6_keep_37 : decode cX6_keep 37 = .ok (.iconst 0, 1) := by decide +kernel
theorem dX6_keep_38 : decode cX6_keep 38 = .ok (.invokevirtual 69, 3) := by decide +kernel
theorem dX6_keep_41 : decode cX6_keep 41 = .ok (.aload_n 2, 1) := by decide +kernel
theorem dX6_keep_42 : decode cX6_keep 42 = .ok (.invokevirtual 72, 3) := by decide +kernel
theorem dX6_keep_45 : decode cX6_keep 45 = .ok (.ifCond .ne 10, 3) := by decide +kernel
theorem dX6_keep_48 : decode cX6_keep 48 = .ok (.iconst 1, 1) := by decide +kernel
theorem dX6_keep_49 : decode cX6_keep 49 = .ok (.aload_n 2, 1) := by decide +kernel
theorem dX6_keep_50 : decode cX6_keep 50 = .ok (.invokevirtual 76, 3) := by decide +kernel
theorem dX6_keep_53 : decode cX6_keep 53 = .ok (.iadd, 1) := by decide +kernel
theorem dX6_keep_54 : decode cX6_keep 54 = .ok (.ireturn, 1) := by decide +kernel
theorem dX6_keep_55 : decode cX6_keep 55 = .ok (.aload_n 0, 1) := by decide +kernel
theorem dX6_keep_56 : decode cX6_keep 56 = .ok (.getfield 18, 3) := by decide +kernel
theorem dX6_keep_59 : decode cX6_keep 59 = .ok (.iload_n 1, 1) := by decide +kernel
theorem dX6_keep_60 : decode cX6_keep 60 = .ok (.aload_n 2, 1) := by decide +kernel
theorem dX6_keep_61 : decode cX6_keep 61 = .ok (.invokevirtual 79, 3) := by decide +kernel
theorem dX6_keep_64 : decode cX6_keep 64 = .ok (.aastore, 1) := by decide +kernel
theorem dX6_keep_65 : decode cX6_keep 65 = .ok (.iconst 0, 1) := by decide +kernel
theorem dX6_keep_66 : decode cX6_keep 66 = .ok (.ireturn, 1) := by decide +kernel
theorem dX6_written_0 : decode cX6_written 0 = .ok (.aload_n 0, 1) := by decide +kernel
theorem dX6_written_1 : decode cX6_written 1 = .ok (.iload_n 1, 1) := by decide +kernel
theorem dX6_written_2 : decode cX6_written 2 = .ok (.invokevirtual 83, 3) := by decide +kernel
theorem dX6_written_5 : decode cX6_written 5 = .ok (.getfield 87, 3) := by decide +kernel
theorem dX6_written_8 : decode cX6_written 8 = .ok (.astore_n 3, 1) := by decide +kernel
theorem dX6_written_9 : decode cX6_written 9 = .ok (.iload_n 2, 1) := by decide +kernel
theorem dX6_written_10 : decode cX6_written 10 = .ok (.ifCond .lt 19, 3) := by decide +kernel
theorem dX6_written_13 : decode cX6_written 13 = .ok (.iload_n 2, 1) := by decide +kernel
theorem dX6_written_14 : decode cX6_written 14 = .ok (.aload_n 3, 1) := by decide +kernel
theorem dX6_written_15 : decode cX6_written 15 = .ok (.invokevirtual 91, 3) := by decide +kernel
theorem dX6_written_18 : decode cX6_written 18 = .ok (.if_icmp .ge 11, 3) := by decide +kernel
theorem dX6_written_21 : decode cX6_written 21 = .ok (.aload_n 3, 1) := by decide +kernel
theorem dX6_written_22 : decode cX6_written 22 = .ok (.iload_n 2, 1) := by decide +kernel
theorem dX6_written_23 : decode cX6_written 23 = .ok (.invokevirtual 94, 3) := by decide +kernel
theorem dX6_written_26 : decode cX6_written 26 = .ok (.goto 4, 3) := by decide +kernel
theorem dX6_written_29 : decode cX6_written 29 = .ok (.iconst (-1), 1) := by decide +kernel
theorem dX6_written_30 : decode cX6_written 30 = .ok (.ireturn, 1) := by decide +kernel
theorem dX6_takesIn_0 : decode cX6_takesIn 0 = .ok (.aload_n 0, 1) := by decide +kernel
theorem dX6_takesIn_1 : decode cX6_takesIn 1 = .ok (.iload_n 1, 1) := by decide +kernel
theorem dX6_takesIn_2 : decode cX6_takesIn 2 = .ok (.invokevirtual 83, 3) := by decide +kernel
theorem dX6_takesIn_5 : decode cX6_takesIn 5 = .ok (.aload_n 0, 1) := by decide +kernel
theorem dX6_takesIn_6 : decode cX6_takesIn 6 = .ok (.iload_n 2, 1) := by decide +kernel
theorem dX6_takesIn_7 : decode cX6_takesIn 7 = .ok (.invokevirtual 83, 3) := by decide +kernel
theorem dX6_takesIn_10 : decode cX6_takesIn 10 = .ok (.invokevirtual 98, 3) := by decide +kernel
theorem dX6_takesIn_13 : decode cX6_takesIn 13 = .ok (.ireturn, 1) := by decide +kernel
theorem dX6_grant_0 : decode cX6_grant 0 = .ok (.aload_n 0, 1) := by decide +kernel
theorem dX6_grant_1 : decode cX6_grant 1 = .ok (.iload_n 1, 1) := by decide +kernel
theorem dX6_grant_2 : decode cX6_grant 2 = .ok (.invokevirtual 102, 3) := by decide +kernel
theorem dX6_grant_5 : decode cX6_grant 5 = .ok (.getfield 106, 3) := by decide +kernel
theorem dX6_grant_8 : decode cX6_grant 8 = .ok (.astore_n 3, 1) := by decide +kernel
theorem dX6_grant_9 : decode cX6_grant 9 = .ok (.aload_n 0, 1) := by decide +kernel
theorem dX6_grant_10 : decode cX6_grant 10 = .ok (.iload_n 2, 1) := by decide +kernel
theorem dX6_grant_11 : decode cX6_grant 11 = .ok (.invokevirtual 83, 3) := by decide +kernel
theorem dX6_grant_14 : decode cX6_grant 14 = .ok (.astore 4, 2) := by decide +kernel
theorem dX6_grant_16 : decode cX6_grant 16 = .ok (.aload_n 3, 1) := by decide +kernel
theorem dX6_grant_17 : decode cX6_grant 17 = .ok (.invokevirtual 109, 3) := by decide +kernel
theorem dX6_grant_20 : decode cX6_grant 20 = .ok (.bipush 6, 2) := by decide +kernel
theorem dX6_grant_22 : decode cX6_grant 22 = .ok (.if_icmp .lt 11, 3) := by decide +kernel
theorem dX6_grant_25 : decode cX6_grant 25 = .ok (.new 112, 3) := by decide +kernel
theorem dX6_grant_28 : decode cX6_grant 28 = .ok (.dup, 1) := by decide +kernel
theorem dX6_grant_29 : decode cX6_grant 29 = .ok (.invokespecial 114, 3) := by decide +kernel
theorem dX6_grant_32 : decode cX6_grant 32 = .ok (.athrow, 1) := by decide +kernel
theorem dX6_grant_33 : decode cX6_grant 33 = .ok (.aload_n 3, 1) := by decide +kernel
theorem dX6_grant_34 : decode cX6_grant 34 = .ok (.aload 4, 2) := by decide +kernel
theorem dX6_grant_36 : decode cX6_grant 36 = .ok (.invokevirtual 115, 3) := by decide +kernel
theorem dX6_grant_39 : decode cX6_grant 39 = .ok (.pop, 1) := by decide +kernel
theorem dX6_grant_40 : decode cX6_grant 40 = .ok (.aload_n 3, 1) := by decide +kernel
theorem dX6_grant_41 : decode cX6_grant 41 = .ok (.invokevirtual 109, 3) := by decide +kernel
theorem dX6_grant_44 : decode cX6_grant 44 = .ok (.ireturn, 1) := by decide +kernel
theorem dX6_revoke_0 : decode cX6_revoke 0 = .ok (.aload_n 0, 1) := by decide +kernel
theorem dX6_revoke_1 : decode cX6_revoke 1 = .ok (.iload_n 1, 1) := by decide +kernel
theorem dX6_revoke_2 : decode cX6_revoke 2 = .ok (.invokevirtual 102, 3) := by decide +kernel
theorem dX6_revoke_5 : decode cX6_revoke 5 = .ok (.getfield 106, 3) := by decide +kernel
theorem dX6_revoke_8 : decode cX6_revoke 8 = .ok (.astore_n 3, 1) := by decide +kernel
theorem dX6_revoke_9 : decode cX6_revoke 9 = .ok (.iload_n 2, 1) := by decide +kernel
theorem dX6_revoke_10 : decode cX6_revoke 10 = .ok (.ifCond .lt 11, 3) := by decide +kernel
theorem dX6_revoke_13 : decode cX6_revoke 13 = .ok (.iload_n 2, 1) := by decide +kernel
theorem dX6_revoke_14 : decode cX6_revoke 14 = .ok (.aload_n 3, 1) := by decide +kernel
theorem dX6_revoke_15 : decode cX6_revoke 15 = .ok (.invokevirtual 109, 3) := by decide +kernel
theorem dX6_revoke_18 : decode cX6_revoke 18 = .ok (.if_icmp .lt 11, 3) := by decide +kernel
theorem dX6_revoke_21 : decode cX6_revoke 21 = .ok (.new 119, 3) := by decide +kernel
theorem dX6_revoke_24 : decode cX6_revoke 24 = .ok (.dup, 1) := by decide +kernel
theorem dX6_revoke_25 : decode cX6_revoke 25 = .ok (.invokespecial 121, 3) := by decide +kernel
theorem dX6_revoke_28 : decode cX6_revoke 28 = .ok (.athrow, 1) := by decide +kernel
theorem dX6_revoke_29 : decode cX6_revoke 29 = .ok (.aload_n 3, 1) := by decide +kernel
theorem dX6_revoke_30 : decode cX6_revoke 30 = .ok (.iload_n 2, 1) := by decide +kernel
theorem dX6_revoke_31 : decode cX6_revoke 31 = .ok (.invokevirtual 122, 3) := by decide +kernel
theorem dX6_revoke_34 : decode cX6_revoke 34 = .ok (.pop, 1) := by decide +kernel
theorem dX6_revoke_35 : decode cX6_revoke 35 = .ok (.aload_n 3, 1) := by decide +kernel
theorem dX6_revoke_36 : decode cX6_revoke 36 = .ok (.invokevirtual 109, 3) := by decide +kernel
theorem dX6_revoke_39 : decode cX6_revoke 39 = .ok (.ireturn, 1) := by decide +kernel
theorem dX6_may_0 : decode cX6_may 0 = .ok (.aload_n 0, 1) := by decide +kernel
theorem dX6_may_1 : decode cX6_may 1 = .ok (.iload_n 1, 1) := by decide +kernel
theorem dX6_may_2 : decode cX6_may 2 = .ok (.invokevirtual 102, 3) := by decide +kernel
theorem dX6_may_5 : decode cX6_may 5 = .ok (.aload_n 0, 1) := by decide +kernel
theorem dX6_may_6 : decode cX6_may 6 = .ok (.iload_n 2, 1) := by decide +kernel
theorem dX6_may_7 : decode cX6_may 7 = .ok (.invokevirtual 83, 3) := by decide +kernel
theorem dX6_may_10 : decode cX6_may 10 = .ok (.invokevirtual 126, 3) := by decide +kernel
theorem dX6_may_13 : decode cX6_may 13 = .ok (.ireturn, 1) := by decide +kernel
theorem dX6_enter_0 : decode cX6_enter 0 = .ok (.aload_n 0, 1) := by decide +kernel
theorem dX6_enter_1 : decode cX6_enter 1 = .ok (.iload_n 1, 1) := by decide +kernel
theorem dX6_enter_2 : decode cX6_enter 2 = .ok (.invokevirtual 129, 3) := by decide +kernel
theorem dX6_enter_5 : decode cX6_enter 5 = .ok (.getfield 133, 3) := by decide +kernel
theorem dX6_enter_8 : decode cX6_enter 8 = .ok (.astore_n 3, 1) := by decide +kernel
theorem dX6_enter_9 : decode cX6_enter 9 = .ok (.aload_n 0, 1) := by decide +kernel
theorem dX6_enter_10 : decode cX6_enter 10 = .ok (.iload_n 2, 1) := by decide +kernel
theorem dX6_enter_11 : decode cX6_enter 11 = .ok (.invokevirtual 102, 3) := by decide +kernel
theorem dX6_enter_14 : decode cX6_enter 14 = .ok (.pop, 1) := by decide +kernel
theorem dX6_enter_15 : decode cX6_enter 15 = .ok (.aload_n 3, 1) := by decide +kernel
theorem dX6_enter_16 : decode cX6_enter 16 = .ok (.invokevirtual 109, 3) := by decide +kernel
theorem dX6_enter_19 : decode cX6_enter 19 = .ok (.bipush 10, 2) := by decide +kernel
theorem dX6_enter_21 : decode cX6_enter 21 = .ok (.if_icmp .lt 11, 3) := by decide +kernel
theorem dX6_enter_24 : decode cX6_enter 24 = .ok (.new 112, 3) := by decide +kernel
theorem dX6_enter_27 : decode cX6_enter 27 = .ok (.dup, 1) := by decide +kernel
theorem dX6_enter_28 : decode cX6_enter 28 = .ok (.invokespecial 114, 3) := by decide +kernel
theorem dX6_enter_31 : decode cX6_enter 31 = .ok (.athrow, 1) := by decide +kernel
theorem dX6_enter_32 : decode cX6_enter 32 = .ok (.aload_n 3, 1) := by decide +kernel
theorem dX6_enter_33 : decode cX6_enter 33 = .ok (.new 136, 3) := by decide +kernel
theorem dX6_enter_36 : decode cX6_enter 36 = .ok (.dup, 1) := by decide +kernel
theorem dX6_enter_37 : decode cX6_enter 37 = .ok (.iload_n 2, 1) := by decide +kernel
theorem dX6_enter_38 : decode cX6_enter 38 = .ok (.invokespecial 138, 3) := by decide +kernel
theorem dX6_enter_41 : decode cX6_enter 41 = .ok (.invokevirtual 115, 3) := by decide +kernel
theorem dX6_enter_44 : decode cX6_enter 44 = .ok (.pop, 1) := by decide +kernel
theorem dX6_enter_45 : decode cX6_enter 45 = .ok (.aload_n 3, 1) := by decide +kernel
theorem dX6_enter_46 : decode cX6_enter 46 = .ok (.invokevirtual 109, 3) := by decide +kernel
theorem dX6_enter_49 : decode cX6_enter 49 = .ok (.ireturn, 1) := by decide +kernel
theorem dX6_leave_0 : decode cX6_leave 0 = .ok (.aload_n 0, 1) := by decide +kernel
theorem dX6_leave_1 : decode cX6_leave 1 = .ok (.iload_n 1, 1) := by decide +kernel
theorem dX6_leave_2 : decode cX6_leave 2 = .ok (.invokevirtual 129, 3) := by decide +kernel
theorem dX6_leave_5 : decode cX6_leave 5 = .ok (.getfield 133, 3) := by decide +kernel
theorem dX6_leave_8 : decode cX6_leave 8 = .ok (.astore_n 2, 1) := by decide +kernel
theorem dX6_leave_9 : decode cX6_leave 9 = .ok (.aload_n 2, 1) := by decide +kernel
theorem dX6_leave_10 : decode cX6_leave 10 = .ok (.invokevirtual 109, 3) := by decide +kernel
theorem dX6_leave_13 : decode cX6_leave 13 = .ok (.iconst 1, 1) := by decide +kernel
theorem dX6_leave_14 : decode cX6_leave 14 = .ok (.isub, 1) := by decide +kernel
theorem dX6_leave_15 : decode cX6_leave 15 = .ok (.istore_n 3, 1) := by decide +kernel
theorem dX6_leave_16 : decode cX6_leave 16 = .ok (.iload_n 3, 1) := by decide +kernel
theorem dX6_leave_17 : decode cX6_leave 17 = .ok (.ifCond .ge 11, 3) := by decide +kernel
theorem dX6_leave_20 : decode cX6_leave 20 = .ok (.new 112, 3) := by decide +kernel
theorem dX6_leave_23 : decode cX6_leave 23 = .ok (.dup, 1) := by decide +kernel
theorem dX6_leave_24 : decode cX6_leave 24 = .ok (.invokespecial 114, 3) := by decide +kernel
theorem dX6_leave_27 : decode cX6_leave 27 = .ok (.athrow, 1) := by decide +kernel
theorem dX6_leave_28 : decode cX6_leave 28 = .ok (.aload_n 2, 1) := by decide +kernel
theorem dX6_leave_29 : decode cX6_leave 29 = .ok (.iload_n 3, 1) := by decide +kernel
theorem dX6_leave_30 : decode cX6_leave 30 = .ok (.invokevirtual 122, 3) := by decide +kernel
theorem dX6_leave_33 : decode cX6_leave 33 = .ok (.checkcast 136, 3) := by decide +kernel
theorem dX6_leave_36 : decode cX6_leave 36 = .ok (.astore 4, 2) := by decide +kernel
theorem dX6_leave_38 : decode cX6_leave 38 = .ok (.iload_n 3, 1) := by decide +kernel
theorem dX6_leave_39 : decode cX6_leave 39 = .ok (.ifCond .le 16, 3) := by decide +kernel
theorem dX6_leave_42 : decode cX6_leave 42 = .ok (.aload_n 2, 1) := by decide +kernel
theorem dX6_leave_43 : decode cX6_leave 43 = .ok (.iload_n 3, 1) := by decide +kernel
theorem dX6_leave_44 : decode cX6_leave 44 = .ok (.iconst 1, 1) := by decide +kernel
theorem dX6_leave_45 : decode cX6_leave 45 = .ok (.isub, 1) := by decide +kernel
theorem dX6_leave_46 : decode cX6_leave 46 = .ok (.invokevirtual 139, 3) := by decide +kernel
theorem dX6_leave_49 : decode cX6_leave 49 = .ok (.checkcast 136, 3) := by decide +kernel
theorem dX6_leave_52 : decode cX6_leave 52 = .ok (.invokevirtual 142, 3) := by decide +kernel
theorem dX6_leave_55 : decode cX6_leave 55 = .ok (.aload 4, 2) := by decide +kernel
theorem dX6_leave_57 : decode cX6_leave 57 = .ok (.getfield 145, 3) := by decide +kernel
theorem dX6_leave_60 : decode cX6_leave 60 = .ok (.ireturn, 1) := by decide +kernel
theorem dX6_guard_0 : decode cX6_guard 0 = .ok (.aload_n 0, 1) := by decide +kernel
theorem dX6_guard_1 : decode cX6_guard 1 = .ok (.iload_n 1, 1) := by decide +kernel
theorem dX6_guard_2 : decode cX6_guard 2 = .ok (.invokevirtual 129, 3) := by decide +kernel
theorem dX6_guard_5 : decode cX6_guard 5 = .ok (.getfield 133, 3) := by decide +kernel
theorem dX6_guard_8 : decode cX6_guard 8 = .ok (.astore 4, 2) := by decide +kernel
theorem dX6_guard_10 : decode cX6_guard 10 = .ok (.iload_n 2, 1) := by decide +kernel
theorem dX6_guard_11 : decode cX6_guard 11 = .ok (.iconst (-1), 1) := by decide +kernel
theorem dX6_guard_12 : decode cX6_guard 12 = .ok (.if_icmp .ne 7, 3) := by decide +kernel
theorem dX6_guard_15 : decode cX6_guard 15 = .ok (.iconst 0, 1) := by decide +kernel
theorem dX6_guard_16 : decode cX6_guard 16 = .ok (.goto 8, 3) := by decide +kernel
theorem dX6_guard_19 : decode cX6_guard 19 = .ok (.aload_n 0, 1) := by decide +kernel
theorem dX6_guard_20 : decode cX6_guard 20 = .ok (.iload_n 2, 1) := by decide +kernel
theorem dX6_guard_21 : decode cX6_guard 21 = .ok (.invokevirtual 149, 3) := by decide +kernel
theorem dX6_guard_24 : decode cX6_guard 24 = .ok (.istore 5, 2) := by decide +kernel
theorem dX6_guard_26 : decode cX6_guard 26 = .ok (.aload_n 0, 1) := by decide +kernel
theorem dX6_guard_27 : decode cX6_guard 27 = .ok (.iload_n 3, 1) := by decide +kernel
theorem dX6_guard_28 : decode cX6_guard 28 = .ok (.invokevirtual 153, 3) := by decide +kernel
theorem dX6_guard_31 : decode cX6_guard 31 = .ok (.astore 6, 2) := by decide +kernel
theorem dX6_guard_33 : decode cX6_guard 33 = .ok (.aload 4, 2) := by decide +kernel
theorem dX6_guard_35 : decode cX6_guard 35 = .ok (.invokevirtual 156, 3) := by decide +kernel
theorem dX6_guard_38 : decode cX6_guard 38 = .ok (.ifCond .eq 11, 3) := by decide +kernel
theorem dX6_guard_41 : decode cX6_guard 41 = .ok (.new 112, 3) := by decide +kernel
theorem dX6_guard_44 : decode cX6_guard 44 = .ok (.dup, 1) := by decide +kernel
theorem dX6_guard_45 : decode cX6_guard 45 = .ok (.invokespecial 114, 3) := by decide +kernel
theorem dX6_guard_48 : decode cX6_guard 48 = .ok (.athrow, 1) := by decide +kernel
theorem dX6_guard_49 : decode cX6_guard 49 = .ok (.aload 4, 2) := by decide +kernel
theorem dX6_guard_51 : decode cX6_guard 51 = .ok (.aload 4, 2) := by decide +kernel
theorem dX6_guard_53 : decode cX6_guard 53 = .ok (.invokevirtual 109, 3) := by decide +kernel
theorem dX6_guard_56 : decode cX6_guard 56 = .ok (.iconst 1, 1) := by decide +kernel
theorem dX6_guard_57 : decode cX6_guard 57 = .ok (.isub, 1) := by decide +kernel
theorem dX6_guard_58 : decode cX6_guard 58 = .ok (.invokevirtual 139, 3) := by decide +kernel
theorem dX6_guard_61 : decode cX6_guard 61 = .ok (.checkcast 136, 3) := by decide +kernel
theorem dX6_guard_64 : decode cX6_guard 64 = .ok (.iload 5, 2) := by decide +kernel
theorem dX6_guard_66 : decode cX6_guard 66 = .ok (.aload 6, 2) := by decide +kernel
theorem dX6_guard_68 : decode cX6_guard 68 = .ok (.invokevirtual 159, 3) := by decide +kernel
theorem dX6_guard_71 : decode cX6_guard 71 = .ok (.return_, 1) := by decide +kernel
theorem dX6_walk_0 : decode cX6_walk 0 = .ok (.aload_n 0, 1) := by decide +kernel
theorem dX6_walk_1 : decode cX6_walk 1 = .ok (.iload_n 1, 1) := by decide +kernel
theorem dX6_walk_2 : decode cX6_walk 2 = .ok (.invokevirtual 129, 3) := by decide +kernel
theorem dX6_walk_5 : decode cX6_walk 5 = .ok (.aload_n 0, 1) := by decide +kernel
theorem dX6_walk_6 : decode cX6_walk 6 = .ok (.iload_n 2, 1) := by decide +kernel
theorem dX6_walk_7 : decode cX6_walk 7 = .ok (.invokevirtual 153, 3) := by decide +kernel
theorem dX6_walk_10 : decode cX6_walk 10 = .ok (.invokevirtual 163, 3) := by decide +kernel
theorem dX6_walk_13 : decode cX6_walk 13 = .ok (.ireturn, 1) := by decide +kernel
theorem dX6_capture_0 : decode cX6_capture 0 = .ok (.aload_n 0, 1) := by decide +kernel
theorem dX6_capture_1 : decode cX6_capture 1 = .ok (.iload_n 1, 1) := by decide +kernel
theorem dX6_capture_2 : decode cX6_capture 2 = .ok (.invokevirtual 129, 3) := by decide +kernel
theorem dX6_capture_5 : decode cX6_capture 5 = .ok (.astore_n 2, 1) := by decide +kernel
theorem dX6_capture_6 : decode cX6_capture 6 = .ok (.aload_n 0, 1) := by decide +kernel
theorem dX6_capture_7 : decode cX6_capture 7 = .ok (.invokevirtual 167, 3) := by decide +kernel
theorem dX6_capture_10 : decode cX6_capture 10 = .ok (.istore_n 3, 1) := by decide +kernel
theorem dX6_capture_11 : decode cX6_capture 11 = .ok (.iload_n 3, 1) := by decide +kernel
theorem dX6_capture_12 : decode cX6_capture 12 = .ok (.iconst (-1), 1) := by decide +kernel
theorem dX6_capture_13 : decode cX6_capture 13 = .ok (.if_icmp .ne 11, 3) := by decide +kernel
theorem dX6_capture_16 : decode cX6_capture 16 = .ok (.new 112, 3) := by decide +kernel
theorem dX6_capture_19 : decode cX6_capture 19 = .ok (.dup, 1) := by decide +kernel
theorem dX6_capture_20 : decode cX6_capture 20 = .ok (.invokespecial 114, 3) := by decide +kernel
theorem dX6_capture_23 : decode cX6_capture 23 = .ok (.athrow, 1) := by decide +kernel
theorem dX6_capture_24 : decode cX6_capture 24 = .ok (.aload_n 0, 1) := by decide +kernel
theorem dX6_capture_25 : decode cX6_capture 25 = .ok (.getfield 34, 3) := by decide +kernel
theorem dX6_capture_28 : decode cX6_capture 28 = .ok (.iload_n 3, 1) := by decide +kernel
theorem dX6_capture_29 : decode cX6_capture 29 = .ok (.aload_n 2, 1) := by decide +kernel
theorem dX6_capture_30 : decode cX6_capture 30 = .ok (.aconst_null, 1) := by decide +kernel
theorem dX6_capture_31 : decode cX6_capture 31 = .ok (.invokevirtual 163, 3) := by decide +kernel
theorem dX6_capture_34 : decode cX6_capture 34 = .ok (.iastore, 1) := by decide +kernel
theorem dX6_capture_35 : decode cX6_capture 35 = .ok (.iload_n 3, 1) := by decide +kernel
theorem dX6_capture_36 : decode cX6_capture 36 = .ok (.ireturn, 1) := by decide +kernel
theorem dX6_combine_0 : decode cX6_combine 0 = .ok (.aload_n 0, 1) := by decide +kernel
theorem dX6_combine_1 : decode cX6_combine 1 = .ok (.iload_n 1, 1) := by decide +kernel
theorem dX6_combine_2 : decode cX6_combine 2 = .ok (.invokevirtual 149, 3) := by decide +kernel
theorem dX6_combine_5 : decode cX6_combine 5 = .ok (.aload_n 0, 1) := by decide +kernel
theorem dX6_combine_6 : decode cX6_combine 6 = .ok (.iload_n 2, 1) := by decide +kernel
theorem dX6_combine_7 : decode cX6_combine 7 = .ok (.invokevirtual 149, 3) := by decide +kernel
theorem dX6_combine_10 : decode cX6_combine 10 = .ok (.ior, 1) := by decide +kernel
theorem dX6_combine_11 : decode cX6_combine 11 = .ok (.istore_n 3, 1) := by decide +kernel
theorem dX6_combine_12 : decode cX6_combine 12 = .ok (.iload_n 1, 1) := by decide +kernel
theorem dX6_combine_13 : decode cX6_combine 13 = .ok (.iload_n 2, 1) := by decide +kernel
theorem dX6_combine_14 : decode cX6_combine 14 = .ok (.if_icmp .ne 11, 3) := by decide +kernel
theorem dX6_combine_17 : decode cX6_combine 17 = .ok (.new 119, 3) := by decide +kernel
theorem dX6_combine_20 : decode cX6_combine 20 = .ok (.dup, 1) := by decide +kernel
theorem dX6_combine_21 : decode cX6_combine 21 = .ok (.invokespecial 121, 3) := by decide +kernel
theorem dX6_combine_24 : decode cX6_combine 24 = .ok (.athrow, 1) := by decide +kernel
theorem dX6_combine_25 : decode cX6_combine 25 = .ok (.aload_n 0, 1) := by decide +kernel
theorem dX6_combine_26 : decode cX6_combine 26 = .ok (.getfield 34, 3) := by decide +kernel
theorem dX6_combine_29 : decode cX6_combine 29 = .ok (.iload_n 1, 1) := by decide +kernel
theorem dX6_combine_30 : decode cX6_combine 30 = .ok (.iload_n 2, 1) := by decide +kernel
theorem dX6_combine_31 : decode cX6_combine 31 = .ok (.invokestatic 170, 3) := by decide +kernel
theorem dX6_combine_34 : decode cX6_combine 34 = .ok (.iload_n 3, 1) := by decide +kernel
theorem dX6_combine_35 : decode cX6_combine 35 = .ok (.iastore, 1) := by decide +kernel
theorem dX6_combine_36 : decode cX6_combine 36 = .ok (.aload_n 0, 1) := by decide +kernel
theorem dX6_combine_37 : decode cX6_combine 37 = .ok (.getfield 34, 3) := by decide +kernel
theorem dX6_combine_40 : decode cX6_combine 40 = .ok (.iload_n 1, 1) := by decide +kernel
theorem dX6_combine_41 : decode cX6_combine 41 = .ok (.iload_n 2, 1) := by decide +kernel
theorem dX6_combine_42 : decode cX6_combine 42 = .ok (.invokestatic 176, 3) := by decide +kernel
theorem dX6_combine_45 : decode cX6_combine 45 = .ok (.iconst (-1), 1) := by decide +kernel
theorem dX6_combine_46 : decode cX6_combine 46 = .ok (.iastore, 1) := by decide +kernel
theorem dX6_combine_47 : decode cX6_combine 47 = .ok (.iload_n 3, 1) := by decide +kernel
theorem dX6_combine_48 : decode cX6_combine 48 = .ok (.invokestatic 179, 3) := by decide +kernel
theorem dX6_combine_51 : decode cX6_combine 51 = .ok (.ireturn, 1) := by decide +kernel
theorem dX6_spawn_0 : decode cX6_spawn 0 = .ok (.aload_n 0, 1) := by decide +kernel
theorem dX6_spawn_1 : decode cX6_spawn 1 = .ok (.iload_n 1, 1) := by decide +kernel
theorem dX6_spawn_2 : decode cX6_spawn 2 = .ok (.invokevirtual 129, 3) := by decide +kernel
theorem dX6_spawn_5 : decode cX6_spawn 5 = .ok (.astore_n 2, 1) := by decide +kernel
theorem dX6_spawn_6 : decode cX6_spawn 6 = .ok (.aload_n 0, 1) := by decide +kernel
theorem dX6_spawn_7 : decode cX6_spawn 7 = .ok (.invokevirtual 184, 3) := by decide +kernel
theorem dX6_spawn_10 : decode cX6_spawn 10 = .ok (.istore_n 3, 1) := by decide +kernel
theorem dX6_spawn_11 : decode cX6_spawn 11 = .ok (.iload_n 3, 1) := by decide +kernel
theorem dX6_spawn_12 : decode cX6_spawn 12 = .ok (.iconst (-1), 1) := by decide +kernel
theorem dX6_spawn_13 : decode cX6_spawn 13 = .ok (.if_icmp .ne 11, 3) := by decide +kernel
theorem dX6_spawn_16 : decode cX6_spawn 16 = .ok (.new 112, 3) := by decide +kernel
theorem dX6_spawn_19 : decode cX6_spawn 19 = .ok (.dup, 1) := by decide +kernel
theorem dX6_spawn_20 : decode cX6_spawn 20 = .ok (.invokespecial 114, 3) := by decide +kernel
theorem dX6_spawn_23 : decode cX6_spawn 23 = .ok (.athrow, 1) := by decide +kernel
theorem dX6_spawn_24 : decode cX6_spawn 24 = .ok (.aload_n 0, 1) := by decide +kernel
theorem dX6_spawn_25 : decode cX6_spawn 25 = .ok (.getfield 30, 3) := by decide +kernel
theorem dX6_spawn_28 : decode cX6_spawn 28 = .ok (.iload_n 3, 1) := by decide +kernel
theorem dX6_spawn_29 : decode cX6_spawn 29 = .ok (.new 28, 3) := by decide +kernel
theorem dX6_spawn_32 : decode cX6_spawn 32 = .ok (.dup, 1) := by decide +kernel
theorem dX6_spawn_33 : decode cX6_spawn 33 = .ok (.aload_n 2, 1) := by decide +kernel
theorem dX6_spawn_34 : decode cX6_spawn 34 = .ok (.aconst_null, 1) := by decide +kernel
theorem dX6_spawn_35 : decode cX6_spawn 35 = .ok (.invokevirtual 163, 3) := by decide +kernel
theorem dX6_spawn_38 : decode cX6_spawn 38 = .ok (.invokespecial 46, 3) := by decide +kernel
theorem dX6_spawn_41 : decode cX6_spawn 41 = .ok (.aastore, 1) := by decide +kernel
theorem dX6_spawn_42 : decode cX6_spawn 42 = .ok (.iload_n 3, 1) := by decide +kernel
theorem dX6_spawn_43 : decode cX6_spawn 43 = .ok (.ireturn, 1) := by decide +kernel
theorem dX6_end_0 : decode cX6_end 0 = .ok (.aload_n 0, 1) := by decide +kernel
theorem dX6_end_1 : decode cX6_end 1 = .ok (.iload_n 1, 1) := by decide +kernel
theorem dX6_end_2 : decode cX6_end 2 = .ok (.invokevirtual 129, 3) := by decide +kernel
theorem dX6_end_5 : decode cX6_end 5 = .ok (.astore_n 2, 1) := by decide +kernel
theorem dX6_end_6 : decode cX6_end 6 = .ok (.iload_n 1, 1) := by decide +kernel
theorem dX6_end_7 : decode cX6_end 7 = .ok (.ifCond .ne 11, 3) := by decide +kernel
theorem dX6_end_10 : decode cX6_end 10 = .ok (.new 119, 3) := by decide +kernel
theorem dX6_end_13 : decode cX6_end 13 = .ok (.dup, 1) := by decide +kernel
theorem dX6_end_14 : decode cX6_end 14 = .ok (.invokespecial 121, 3) := by decide +kernel
theorem dX6_end_17 : decode cX6_end 17 = .ok (.athrow, 1) := by decide +kernel
theorem dX6_end_18 : decode cX6_end 18 = .ok (.aload_n 0, 1) := by decide +kernel
theorem dX6_end_19 : decode cX6_end 19 = .ok (.getfield 30, 3) := by decide +kernel
theorem dX6_end_22 : decode cX6_end 22 = .ok (.iload_n 1, 1) := by decide +kernel
theorem dX6_end_23 : decode cX6_end 23 = .ok (.aconst_null, 1) := by decide +kernel
theorem dX6_end_24 : decode cX6_end 24 = .ok (.aastore, 1) := by decide +kernel
theorem dX6_end_25 : decode cX6_end 25 = .ok (.aload_n 2, 1) := by decide +kernel
theorem dX6_end_26 : decode cX6_end 26 = .ok (.getfield 133, 3) := by decide +kernel
theorem dX6_end_29 : decode cX6_end 29 = .ok (.invokevirtual 109, 3) := by decide +kernel
theorem dX6_end_32 : decode cX6_end 32 = .ok (.ireturn, 1) := by decide +kernel
theorem dX6_check_0 : decode cX6_check 0 = .ok (.aload_n 0, 1) := by decide +kernel
theorem dX6_check_1 : decode cX6_check 1 = .ok (.iload_n 1, 1) := by decide +kernel
theorem dX6_check_2 : decode cX6_check 2 = .ok (.invokevirtual 129, 3) := by decide +kernel
theorem dX6_check_5 : decode cX6_check 5 = .ok (.astore_n 3, 1) := by decide +kernel
theorem dX6_check_6 : decode cX6_check 6 = .ok (.aload_n 0, 1) := by decide +kernel
theorem dX6_check_7 : decode cX6_check 7 = .ok (.iload_n 2, 1) := by decide +kernel
theorem dX6_check_8 : decode cX6_check 8 = .ok (.invokevirtual 83, 3) := by decide +kernel
theorem dX6_check_11 : decode cX6_check 11 = .ok (.astore 4, 2) := by decide +kernel
theorem dX6_check_13 : decode cX6_check 13 = .ok (.aload_n 3, 1) := by decide +kernel
theorem dX6_check_14 : decode cX6_check 14 = .ok (.aload 4, 2) := by decide +kernel
theorem dX6_check_16 : decode cX6_check 16 = .ok (.invokevirtual 163, 3) := by decide +kernel
theorem dX6_check_19 : decode cX6_check 19 = .ok (.istore 5, 2) := by decide +kernel
theorem dX6_check_21 : decode cX6_check 21 = .ok (.aload_n 0, 1) := by decide +kernel
theorem dX6_check_22 : decode cX6_check 22 = .ok (.iload 5, 2) := by decide +kernel
theorem dX6_check_24 : decode cX6_check 24 = .ok (.aload 4, 2) := by decide +kernel
theorem dX6_check_26 : decode cX6_check 26 = .ok (.invokevirtual 187, 3) := by decide +kernel
theorem dX6_check_29 : decode cX6_check 29 = .ok (.istore 6, 2) := by decide +kernel
theorem dX6_check_31 : decode cX6_check 31 = .ok (.iload 6, 2) := by decide +kernel
theorem dX6_check_33 : decode cX6_check 33 = .ok (.iconst (-1), 1) := by decide +kernel
theorem dX6_check_34 : decode cX6_check 34 = .ok (.if_icmp .eq 25, 3) := by decide +kernel
theorem dX6_check_37 : decode cX6_check 37 = .ok (.aload_n 0, 1) := by decide +kernel
theorem dX6_check_38 : decode cX6_check 38 = .ok (.new 191, 3) := by decide +kernel
theorem dX6_check_41 : decode cX6_check 41 = .ok (.dup, 1) := by decide +kernel
theorem dX6_check_42 : decode cX6_check 42 = .ok (.iload_n 1, 1) := by decide +kernel
theorem dX6_check_43 : decode cX6_check 43 = .ok (.iload 6, 2) := by decide +kernel
theorem dX6_check_45 : decode cX6_check 45 = .ok (.invokespecial 193, 3) := by decide +kernel
theorem dX6_check_48 : decode cX6_check 48 = .ok (.invokevirtual 196, 3) := by decide +kernel
theorem dX6_check_51 : decode cX6_check 51 = .ok (.new 112, 3) := by decide +kernel
theorem dX6_check_54 : decode cX6_check 54 = .ok (.dup, 1) := by decide +kernel
theorem dX6_check_55 : decode cX6_check 55 = .ok (.invokespecial 114, 3) := by decide +kernel
theorem dX6_check_58 : decode cX6_check 58 = .ok (.athrow, 1) := by decide +kernel
theorem dX6_check_59 : decode cX6_check 59 = .ok (.iload 5, 2) := by decide +kernel
theorem dX6_check_61 : decode cX6_check 61 = .ok (.invokestatic 179, 3) := by decide +kernel
theorem dX6_check_64 : decode cX6_check 64 = .ok (.ireturn, 1) := by decide +kernel
theorem dX6_allowed_0 : decode cX6_allowed 0 = .ok (.aload_n 0, 1) := by decide +kernel
theorem dX6_allowed_1 : decode cX6_allowed 1 = .ok (.iload_n 1, 1) := by decide +kernel
theorem dX6_allowed_2 : decode cX6_allowed 2 = .ok (.invokevirtual 129, 3) := by decide +kernel
theorem dX6_allowed_5 : decode cX6_allowed 5 = .ok (.astore_n 2, 1) := by decide +kernel
theorem dX6_allowed_6 : decode cX6_allowed 6 = .ok (.iconst 0, 1) := by decide +kernel
theorem dX6_allowed_7 : decode cX6_allowed 7 = .ok (.istore_n 3, 1) := by decide +kernel
theorem dX6_allowed_8 : decode cX6_allowed 8 = .ok (.iconst 0, 1) := by decide +kernel
theorem dX6_allowed_9 : decode cX6_allowed 9 = .ok (.istore 4, 2) := by decide +kernel
theorem dX6_allowed_11 : decode cX6_allowed 11 = .ok (.iload 4, 2) := by decide +kernel
theorem dX6_allowed_13 : decode cX6_allowed 13 = .ok (.bipush 8, 2) := by decide +kernel
theorem dX6_allowed_15 : decode cX6_allowed 15 = .ok (.if_icmp .ge 42, 3) := by decide +kernel
theorem dX6_allowed_18 : decode cX6_allowed 18 = .ok (.aload_n 0, 1) := by decide +kernel
theorem dX6_allowed_19 : decode cX6_allowed 19 = .ok (.getfield 18, 3) := by decide +kernel
theorem dX6_allowed_22 : decode cX6_allowed 22 = .ok (.iload 4, 2) := by decide +kernel
theorem dX6_allowed_24 : decode cX6_allowed 24 = .ok (.aaload, 1) := by decide +kernel
theorem dX6_allowed_25 : decode cX6_allowed 25 = .ok (.astore 5, 2) := by decide +kernel
theorem dX6_allowed_27 : decode cX6_allowed 27 = .ok (.aload 5, 2) := by decide +kernel
theorem dX6_allowed_29 : decode cX6_allowed 29 = .ok (.ifnull 22, 3) := by decide +kernel
theorem dX6_allowed_32 : decode cX6_allowed 32 = .ok (.aload_n 0, 1) := by decide +kernel
theorem dX6_allowed_33 : decode cX6_allowed 33 = .ok (.aload_n 2, 1) := by decide +kernel
theorem dX6_allowed_34 : decode cX6_allowed 34 = .ok (.aload 5, 2) := by decide +kernel
theorem dX6_allowed_36 : decode cX6_allowed 36 = .ok (.invokevirtual 163, 3) := by decide +kernel
theorem dX6_allowed_39 : decode cX6_allowed 39 = .ok (.aload 5, 2) := by decide +kernel
theorem dX6_allowed_41 : decode cX6_allowed 41 = .ok (.invokevirtual 187, 3) := by decide +kernel
theorem dX6_allowed_44 : decode cX6_allowed 44 = .ok (.iconst (-1), 1) := by decide +kernel
theorem dX6_allowed_45 : decode cX6_allowed 45 = .ok (.if_icmp .ne 6, 3) := by decide +kernel
theorem dX6_allowed_48 : decode cX6_allowed 48 = .ok (.iinc 3 1, 3) := by decide +kernel
theorem dX6_allowed_51 : decode cX6_allowed 51 = .ok (.iinc 4 1, 3) := by decide +kernel
theorem dX6_allowed_54 : decode cX6_allowed 54 = .ok (.goto (-43), 3) := by decide +kernel
theorem dX6_allowed_57 : decode cX6_allowed 57 = .ok (.iload_n 3, 1) := by decide +kernel
theorem dX6_allowed_58 : decode cX6_allowed 58 = .ok (.ireturn, 1) := by decide +kernel
theorem dX6_note_0 : decode cX6_note 0 = .ok (.iload_n 1, 1) := by decide +kernel
theorem dX6_note_1 : decode cX6_note 1 = .ok (.ifCond .lt 23, 3) := by decide +kernel
theorem dX6_note_4 : decode cX6_note 4 = .ok (.iload_n 1, 1) := by decide +kernel
theorem dX6_note_5 : decode cX6_note 5 = .ok (.aload_n 0, 1) := by decide +kernel
theorem dX6_note_6 : decode cX6_note 6 = .ok (.getfield 41, 3) := by decide +kernel
theorem dX6_note_9 : decode cX6_note 9 = .ok (.invokevirtual 109, 3) := by decide +kernel
theorem dX6_note_12 : decode cX6_note 12 = .ok (.if_icmp .ge 12, 3) := by decide +kernel
theorem dX6_note_15 : decode cX6_note 15 = .ok (.iload_n 2, 1) := by decide +kernel
theorem dX6_note_16 : decode cX6_note 16 = .ok (.ifCond .lt 8, 3) := by decide +kernel
theorem dX6_note_19 : decode cX6_note 19 = .ok (.iload_n 2, 1) := by decide +kernel
theorem dX6_note_20 : decode cX6_note 20 = .ok (.iconst 1, 1) := by decide +kernel
theorem dX6_note_21 : decode cX6_note 21 = .ok (.if_icmp .le 11, 3) := by decide +kernel
theorem dX6_note_24 : decode cX6_note 24 = .ok (.new 119, 3) := by decide +kernel
theorem dX6_note_27 : decode cX6_note 27 = .ok (.dup, 1) := by decide +kernel
theorem dX6_note_28 : decode cX6_note 28 = .ok (.invokespecial 121, 3) := by decide +kernel
theorem dX6_note_31 : decode cX6_note 31 = .ok (.athrow, 1) := by decide +kernel
theorem dX6_note_32 : decode cX6_note 32 = .ok (.aload_n 0, 1) := by decide +kernel
theorem dX6_note_33 : decode cX6_note 33 = .ok (.getfield 41, 3) := by decide +kernel
theorem dX6_note_36 : decode cX6_note 36 = .ok (.iload_n 1, 1) := by decide +kernel
theorem dX6_note_37 : decode cX6_note 37 = .ok (.invokevirtual 139, 3) := by decide +kernel
theorem dX6_note_40 : decode cX6_note 40 = .ok (.checkcast 191, 3) := by decide +kernel
theorem dX6_note_43 : decode cX6_note 43 = .ok (.astore_n 3, 1) := by decide +kernel
theorem dX6_note_44 : decode cX6_note 44 = .ok (.iload_n 2, 1) := by decide +kernel
theorem dX6_note_45 : decode cX6_note 45 = .ok (.ifCond .ne 10, 3) := by decide +kernel
theorem dX6_note_48 : decode cX6_note 48 = .ok (.aload_n 3, 1) := by decide +kernel
theorem dX6_note_49 : decode cX6_note 49 = .ok (.getfield 200, 3) := by decide +kernel
theorem dX6_note_52 : decode cX6_note 52 = .ok (.goto 7, 3) := by decide +kernel
theorem dX6_note_55 : decode cX6_note 55 = .ok (.aload_n 3, 1) := by decide +kernel
theorem dX6_note_56 : decode cX6_note 56 = .ok (.getfield 203, 3) := by decide +kernel
theorem dX6_note_59 : decode cX6_note 59 = .ok (.ireturn, 1) := by decide +kernel
theorem dX6_idle_0 : decode cX6_idle 0 = .ok (.aload_n 0, 1) := by decide +kernel
theorem dX6_idle_1 : decode cX6_idle 1 = .ok (.iload_n 1, 1) := by decide +kernel
theorem dX6_idle_2 : decode cX6_idle 2 = .ok (.invokevirtual 102, 3) := by decide +kernel
theorem dX6_idle_5 : decode cX6_idle 5 = .ok (.invokevirtual 206, 3) := by decide +kernel
theorem dX6_idle_8 : decode cX6_idle 8 = .ok (.freturn, 1) := by decide +kernel
theorem dX6_permissionIn_0 : decode cX6_permissionIn 0 = .ok (.iload_n 1, 1) := by decide +kernel
theorem dX6_permissionIn_1 : decode cX6_permissionIn 1 = .ok (.ifCond .lt 18, 3) := by decide +kernel
theorem dX6_permissionIn_4 : decode cX6_permissionIn 4 = .ok (.iload_n 1, 1) := by decide +kernel
theorem dX6_permissionIn_5 : decode cX6_permissionIn 5 = .ok (.bipush 8, 2) := by decide +kernel
theorem dX6_permissionIn_7 : decode cX6_permissionIn 7 = .ok (.if_icmp .ge 12, 3) := by decide +kernel
theorem dX6_permissionIn_10 : decode cX6_permissionIn 10 = .ok (.aload_n 0, 1) := by decide +kernel
theorem dX6_permissionIn_11 : decode cX6_permissionIn 11 = .ok (.getfield 18, 3) := by decide +kernel
theorem dX6_permissionIn_14 : decode cX6_permissionIn 14 = .ok (.iload_n 1, 1) := by decide +kernel
theorem dX6_permissionIn_15 : decode cX6_permissionIn 15 = .ok (.aaload, 1) := by decide +kernel
theorem dX6_permissionIn_16 : decode cX6_permissionIn 16 = .ok (.ifnonnull 11, 3) := by decide +kernel
theorem dX6_permissionIn_19 : decode cX6_permissionIn 19 = .ok (.new 57, 3) := by decide +kernel
theorem dX6_permissionIn_22 : decode cX6_permissionIn 22 = .ok (.dup, 1) := by decide +kernel
theorem dX6_permissionIn_23 : decode cX6_permissionIn 23 = .ok (.invokespecial 59, 3) := by decide +kernel
theorem dX6_permissionIn_26 : decode cX6_permissionIn 26 = .ok (.athrow, 1) := by decide +kernel
theorem dX6_permissionIn_27 : decode cX6_permissionIn 27 = .ok (.aload_n 0, 1) := by decide +kernel
theorem dX6_permissionIn_28 : decode cX6_permissionIn 28 = .ok (.getfield 18, 3) := by decide +kernel
theorem dX6_permissionIn_31 : decode cX6_permissionIn 31 = .ok (.iload_n 1, 1) := by decide +kernel
theorem dX6_permissionIn_32 : decode cX6_permissionIn 32 = .ok (.aaload, 1) := by decide +kernel
theorem dX6_permissionIn_33 : decode cX6_permissionIn 33 = .ok (.areturn, 1) := by decide +kernel
theorem dX6_permissionOrNothing_0 : decode cX6_permissionOrNothing 0 = .ok (.iload_n 1, 1) := by decide +kernel
theorem dX6_permissionOrNothing_1 : decode cX6_permissionOrNothing 1 = .ok (.iconst (-1), 1) := by decide +kernel
theorem dX6_permissionOrNothing_2 : decode cX6_permissionOrNothing 2 = .ok (.if_icmp .ne 7, 3) := by decide +kernel
theorem dX6_permissionOrNothing_5 : decode cX6_permissionOrNothing 5 = .ok (.aconst_null, 1) := by decide +kernel
theorem dX6_permissionOrNothing_6 : decode cX6_permissionOrNothing 6 = .ok (.goto 8, 3) := by decide +kernel
theorem dX6_permissionOrNothing_9 : decode cX6_permissionOrNothing 9 = .ok (.aload_n 0, 1) := by decide +kernel
theorem dX6_permissionOrNothing_10 : decode cX6_permissionOrNothing 10 = .ok (.iload_n 1, 1) := by decide +kernel
theorem dX6_permissionOrNothing_11 : decode cX6_permissionOrNothing 11 = .ok (.invokevirtual 83, 3) := by decide +kernel
theorem dX6_permissionOrNothing_14 : decode cX6_permissionOrNothing 14 = .ok (.areturn, 1) := by decide +kernel
theorem dX6_sourceOf_0 : decode cX6_sourceOf 0 = .ok (.iload_n 1, 1) := by decide +kernel
theorem dX6_sourceOf_1 : decode cX6_sourceOf 1 = .ok (.ifCond .lt 9, 3) := by decide +kernel
theorem dX6_sourceOf_4 : decode cX6_sourceOf 4 = .ok (.iload_n 1, 1) := by decide +kernel
theorem dX6_sourceOf_5 : decode cX6_sourceOf 5 = .ok (.bipush 6, 2) := by decide +kernel
theorem dX6_sourceOf_7 : decode cX6_sourceOf 7 = .ok (.if_icmp .lt 11, 3) := by decide +kernel
theorem dX6_sourceOf_10 : decode cX6_sourceOf 10 = .ok (.new 57, 3) := by decide +kernel
theorem dX6_sourceOf_13 : decode cX6_sourceOf 13 = .ok (.dup, 1) := by decide +kernel
theorem dX6_sourceOf_14 : decode cX6_sourceOf 14 = .ok (.invokespecial 59, 3) := by decide +kernel
theorem dX6_sourceOf_17 : decode cX6_sourceOf 17 = .ok (.athrow, 1) := by decide +kernel
theorem dX6_sourceOf_18 : decode cX6_sourceOf 18 = .ok (.aload_n 0, 1) := by decide +kernel
theorem dX6_sourceOf_19 : decode cX6_sourceOf 19 = .ok (.getfield 24, 3) := by decide +kernel
theorem dX6_sourceOf_22 : decode cX6_sourceOf 22 = .ok (.iload_n 1, 1) := by decide +kernel
theorem dX6_sourceOf_23 : decode cX6_sourceOf 23 = .ok (.aaload, 1) := by decide +kernel
theorem dX6_sourceOf_24 : decode cX6_sourceOf 24 = .ok (.areturn, 1) := by decide +kernel
theorem dX6_stackOf_0 : decode cX6_stackOf 0 = .ok (.iload_n 1, 1) := by decide +kernel
theorem dX6_stackOf_1 : decode cX6_stackOf 1 = .ok (.ifCond .lt 17, 3) := by decide +kernel
theorem dX6_stackOf_4 : decode cX6_stackOf 4 = .ok (.iload_n 1, 1) := by decide +kernel
theorem dX6_stackOf_5 : decode cX6_stackOf 5 = .ok (.iconst 4, 1) := by decide +kernel
theorem dX6_stackOf_6 : decode cX6_stackOf 6 = .ok (.if_icmp .ge 12, 3) := by decide +kernel
theorem dX6_stackOf_9 : decode cX6_stackOf 9 = .ok (.aload_n 0, 1) := by decide +kernel
theorem dX6_stackOf_10 : decode cX6_stackOf 10 = .ok (.getfield 30, 3) := by decide +kernel
theorem dX6_stackOf_13 : decode cX6_stackOf 13 = .ok (.iload_n 1, 1) := by decide +kernel
theorem dX6_stackOf_14 : decode cX6_stackOf 14 = .ok (.aaload, 1) := by decide +kernel
theorem dX6_stackOf_15 : decode cX6_stackOf 15 = .ok (.ifnonnull 11, 3) := by decide +kernel
theorem dX6_stackOf_18 : decode cX6_stackOf 18 = .ok (.new 57, 3) := by decide +kernel
theorem dX6_stackOf_21 : decode cX6_stackOf 21 = .ok (.dup, 1) := by decide +kernel
theorem dX6_stackOf_22 : decode cX6_stackOf 22 = .ok (.invokespecial 59, 3) := by decide +kernel
theorem dX6_stackOf_25 : decode cX6_stackOf 25 = .ok (.athrow, 1) := by decide +kernel
theorem dX6_stackOf_26 : decode cX6_stackOf 26 = .ok (.aload_n 0, 1) := by decide +kernel
theorem dX6_stackOf_27 : decode cX6_stackOf 27 = .ok (.getfield 30, 3) := by decide +kernel
theorem dX6_stackOf_30 : decode cX6_stackOf 30 = .ok (.iload_n 1, 1) := by decide +kernel
theorem dX6_stackOf_31 : decode cX6_stackOf 31 = .ok (.aaload, 1) := by decide +kernel
theorem dX6_stackOf_32 : decode cX6_stackOf 32 = .ok (.areturn, 1) := by decide +kernel
theorem dX6_sourcesIn_0 : decode cX6_sourcesIn 0 = .ok (.iload_n 1, 1) := by decide +kernel
theorem dX6_sourcesIn_1 : decode cX6_sourcesIn 1 = .ok (.ifCond .lt 19, 3) := by decide +kernel
theorem dX6_sourcesIn_4 : decode cX6_sourcesIn 4 = .ok (.iload_n 1, 1) := by decide +kernel
theorem dX6_sourcesIn_5 : decode cX6_sourcesIn 5 = .ok (.bipush 8, 2) := by decide +kernel
theorem dX6_sourcesIn_7 : decode cX6_sourcesIn 7 = .ok (.if_icmp .ge 13, 3) := by decide +kernel
theorem dX6_sourcesIn_10 : decode cX6_sourcesIn 10 = .ok (.aload_n 0, 1) := by decide +kernel
theorem dX6_sourcesIn_11 : decode cX6_sourcesIn 11 = .ok (.getfield 34, 3) := by decide +kernel
theorem dX6_sourcesIn_14 : decode cX6_sourcesIn 14 = .ok (.iload_n 1, 1) := by decide +kernel
theorem dX6_sourcesIn_15 : decode cX6_sourcesIn 15 = .ok (.iaload, 1) := by decide +kernel
theorem dX6_sourcesIn_16 : decode cX6_sourcesIn 16 = .ok (.iconst (-1), 1) := by decide +kernel
theorem dX6_sourcesIn_17 : decode cX6_sourcesIn 17 = .ok (.if_icmp .ne 11, 3) := by decide +kernel
theorem dX6_sourcesIn_20 : decode cX6_sourcesIn 20 = .ok (.new 57, 3) := by decide +kernel
theorem dX6_sourcesIn_23 : decode cX6_sourcesIn 23 = .ok (.dup, 1) := by decide +kernel
theorem dX6_sourcesIn_24 : decode cX6_sourcesIn 24 = .ok (.invokespecial 59, 3) := by decide +kernel
theorem dX6_sourcesIn_27 : decode cX6_sourcesIn 27 = .ok (.athrow, 1) := by decide +kernel
theorem dX6_sourcesIn_28 : decode cX6_sourcesIn 28 = .ok (.aload_n 0, 1) := by decide +kernel
theorem dX6_sourcesIn_29 : decode cX6_sourcesIn 29 = .ok (.getfield 34, 3) := by decide +kernel
theorem dX6_sourcesIn_32 : decode cX6_sourcesIn 32 = .ok (.iload_n 1, 1) := by decide +kernel
theorem dX6_sourcesIn_33 : decode cX6_sourcesIn 33 = .ok (.iaload, 1) := by decide +kernel
theorem dX6_sourcesIn_34 : decode cX6_sourcesIn 34 = .ok (.ireturn, 1) := by decide +kernel
theorem dX6_lowestEmptyContext_0 : decode cX6_lowestEmptyContext 0 = .ok (.iconst 0, 1) := by decide +kernel
theorem dX6_lowestEmptyContext_1 : decode cX6_lowestEmptyContext 1 = .ok (.istore_n 1, 1) := by decide +kernel
theorem dX6_lowestEmptyContext_2 : decode cX6_lowestEmptyContext 2 = .ok (.iload_n 1, 1) := by decide +kernel
theorem dX6_lowestEmptyContext_3 : decode cX6_lowestEmptyContext 3 = .ok (.bipush 8, 2) := by decide +kernel
theorem dX6_lowestEmptyContext_5 : decode cX6_lowestEmptyContext 5 = .ok (.if_icmp .ge 21, 3) := by decide +kernel
theorem dX6_lowestEmptyContext_8 : decode cX6_lowestEmptyContext 8 = .ok (.aload_n 0, 1) := by decide +kernel
theorem dX6_lowestEmptyContext_9 : decode cX6_lowestEmptyContext 9 = .ok (.getfield 34, 3) := by decide +kernel
theorem dX6_lowestEmptyContext_12 : decode cX6_lowestEmptyContext 12 = .ok (.iload_n 1, 1) := by decide +kernel
theorem dX6_lowestEmptyContext_13 : decode cX6_lowestEmptyContext 13 = .ok (.iaload, 1) := by decide +kernel
theorem dX6_lowestEmptyContext_14 : decode cX6_lowestEmptyContext 14 = .ok (.iconst (-1), 1) := by decide +kernel
theorem dX6_lowestEmptyContext_15 : decode cX6_lowestEmptyContext 15 = .ok (.if_icmp .ne 5, 3) := by decide +kernel
theorem dX6_lowestEmptyContext_18 : decode cX6_lowestEmptyContext 18 = .ok (.iload_n 1, 1) := by decide +kernel
theorem dX6_lowestEmptyContext_19 : decode cX6_lowestEmptyContext 19 = .ok (.ireturn, 1) := by decide +kernel
theorem dX6_lowestEmptyContext_20 : decode cX6_lowestEmptyContext 20 = .ok (.iinc 1 1, 3) := by decide +kernel
theorem dX6_lowestEmptyContext_23 : decode cX6_lowestEmptyContext 23 = .ok (.goto (-21), 3) := by decide +kernel
theorem dX6_lowestEmptyContext_26 : decode cX6_lowestEmptyContext 26 = .ok (.iconst (-1), 1) := by decide +kernel
theorem dX6_lowestEmptyContext_27 : decode cX6_lowestEmptyContext 27 = .ok (.ireturn, 1) := by decide +kernel
theorem dX6_lowestMissingThread_0 : decode cX6_lowestMissingThread 0 = .ok (.iconst 0, 1) := by decide +kernel
theorem dX6_lowestMissingThread_1 : decode cX6_lowestMissingThread 1 = .ok (.istore_n 1, 1) := by decide +kernel
theorem dX6_lowestMissingThread_2 : decode cX6_lowestMissingThread 2 = .ok (.iload_n 1, 1) := by decide +kernel
theorem dX6_lowestMissingThread_3 : decode cX6_lowestMissingThread 3 = .ok (.iconst 4, 1) := by decide +kernel
theorem dX6_lowestMissingThread_4 : decode cX6_lowestMissingThread 4 = .ok (.if_icmp .ge 20, 3) := by decide +kernel
theorem dX6_lowestMissingThread_7 : decode cX6_lowestMissingThread 7 = .ok (.aload_n 0, 1) := by decide +kernel
theorem dX6_lowestMissingThread_8 : decode cX6_lowestMissingThread 8 = .ok (.getfield 30, 3) := by decide +kernel
theorem dX6_lowestMissingThread_11 : decode cX6_lowestMissingThread 11 = .ok (.iload_n 1, 1) := by decide +kernel
theorem dX6_lowestMissingThread_12 : decode cX6_lowestMissingThread 12 = .ok (.aaload, 1) := by decide +kernel
theorem dX6_lowestMissingThread_13 : decode cX6_lowestMissingThread 13 = .ok (.ifnonnull 5, 3) := by decide +kernel
theorem dX6_lowestMissingThread_16 : decode cX6_lowestMissingThread 16 = .ok (.iload_n 1, 1) := by decide +kernel
theorem dX6_lowestMissingThread_17 : decode cX6_lowestMissingThread 17 = .ok (.ireturn, 1) := by decide +kernel
theorem dX6_lowestMissingThread_18 : decode cX6_lowestMissingThread 18 = .ok (.iinc 1 1, 3) := by decide +kernel
theorem dX6_lowestMissingThread_21 : decode cX6_lowestMissingThread 21 = .ok (.goto (-19), 3) := by decide +kernel
theorem dX6_lowestMissingThread_24 : decode cX6_lowestMissingThread 24 = .ok (.iconst (-1), 1) := by decide +kernel
theorem dX6_lowestMissingThread_25 : decode cX6_lowestMissingThread 25 = .ok (.ireturn, 1) := by decide +kernel
theorem dX6_sourceToBlame_0 : decode cX6_sourceToBlame 0 = .ok (.iconst 0, 1) := by decide +kernel
theorem dX6_sourceToBlame_1 : decode cX6_sourceToBlame 1 = .ok (.istore_n 3, 1) := by decide +kernel
theorem dX6_sourceToBlame_2 : decode cX6_sourceToBlame 2 = .ok (.iload_n 3, 1) := by decide +kernel
theorem dX6_sourceToBlame_3 : decode cX6_sourceToBlame 3 = .ok (.bipush 6, 2) := by decide +kernel
theorem dX6_sourceToBlame_5 : decode cX6_sourceToBlame 5 = .ok (.if_icmp .ge 33, 3) := by decide +kernel
theorem dX6_sourceToBlame_8 : decode cX6_sourceToBlame 8 = .ok (.iload_n 1, 1) := by decide +kernel
theorem dX6_sourceToBlame_9 : decode cX6_sourceToBlame 9 = .ok (.iload_n 3, 1) := by decide +kernel
theorem dX6_sourceToBlame_10 : decode cX6_sourceToBlame 10 = .ok (.ishr, 1) := by decide +kernel
theorem dX6_sourceToBlame_11 : decode cX6_sourceToBlame 11 = .ok (.iconst 1, 1) := by decide +kernel
theorem dX6_sourceToBlame_12 : decode cX6_sourceToBlame 12 = .ok (.iand, 1) := by decide +kernel
theorem dX6_sourceToBlame_13 : decode cX6_sourceToBlame 13 = .ok (.iconst 1, 1) := by decide +kernel
theorem dX6_sourceToBlame_14 : decode cX6_sourceToBlame 14 = .ok (.if_icmp .ne 18, 3) := by decide +kernel
theorem dX6_sourceToBlame_17 : decode cX6_sourceToBlame 17 = .ok (.aload_n 0, 1) := by decide +kernel
theorem dX6_sourceToBlame_18 : decode cX6_sourceToBlame 18 = .ok (.getfield 24, 3) := by decide +kernel
theorem dX6_sourceToBlame_21 : decode cX6_sourceToBlame 21 = .ok (.iload_n 3, 1) := by decide +kernel
theorem dX6_sourceToBlame_22 : decode cX6_sourceToBlame 22 = .ok (.aaload, 1) := by decide +kernel
theorem dX6_sourceToBlame_23 : decode cX6_sourceToBlame 23 = .ok (.aload_n 2, 1) := by decide +kernel
theorem dX6_sourceToBlame_24 : decode cX6_sourceToBlame 24 = .ok (.invokevirtual 126, 3) := by decide +kernel
theorem dX6_sourceToBlame_27 : decode cX6_sourceToBlame 27 = .ok (.ifCond .ne 5, 3) := by decide +kernel
theorem dX6_sourceToBlame_30 : decode cX6_sourceToBlame 30 = .ok (.iload_n 3, 1) := by decide +kernel
theorem dX6_sourceToBlame_31 : decode cX6_sourceToBlame 31 = .ok (.ireturn, 1) := by decide +kernel
theorem dX6_sourceToBlame_32 : decode cX6_sourceToBlame 32 = .ok (.iinc 3 1, 3) := by decide +kernel
theorem dX6_sourceToBlame_35 : decode cX6_sourceToBlame 35 = .ok (.goto (-33), 3) := by decide +kernel
theorem dX6_sourceToBlame_38 : decode cX6_sourceToBlame 38 = .ok (.iconst (-1), 1) := by decide +kernel
theorem dX6_sourceToBlame_39 : decode cX6_sourceToBlame 39 = .ok (.ireturn, 1) := by decide +kernel
theorem dX6_remember_0 : decode cX6_remember 0 = .ok (.aload_n 0, 1) := by decide +kernel
theorem dX6_remember_1 : decode cX6_remember 1 = .ok (.getfield 41, 3) := by decide +kernel
theorem dX6_remember_4 : decode cX6_remember 4 = .ok (.invokevirtual 109, 3) := by decide +kernel
theorem dX6_remember_7 : decode cX6_remember 7 = .ok (.bipush 7, 2) := by decide +kernel
theorem dX6_remember_9 : decode cX6_remember 9 = .ok (.if_icmp .lt 13, 3) := by decide +kernel
theorem dX6_remember_12 : decode cX6_remember 12 = .ok (.aload_n 0, 1) := by decide +kernel
theorem dX6_remember_13 : decode cX6_remember 13 = .ok (.getfield 41, 3) := by decide +kernel
theorem dX6_remember_16 : decode cX6_remember 16 = .ok (.bipush 6, 2) := by decide +kernel
theorem dX6_remember_18 : decode cX6_remember 18 = .ok (.invokevirtual 122, 3) := by decide +kernel
theorem dX6_remember_21 : decode cX6_remember 21 = .ok (.pop, 1) := by decide +kernel
theorem dX6_remember_22 : decode cX6_remember 22 = .ok (.aload_n 0, 1) := by decide +kernel
theorem dX6_remember_23 : decode cX6_remember 23 = .ok (.getfield 41, 3) := by decide +kernel
theorem dX6_remember_26 : decode cX6_remember 26 = .ok (.iconst 0, 1) := by decide +kernel
theorem dX6_remember_27 : decode cX6_remember 27 = .ok (.aload_n 1, 1) := by decide +kernel
theorem dX6_remember_28 : decode cX6_remember 28 = .ok (.invokevirtual 210, 3) := by decide +kernel
theorem dX6_remember_31 : decode cX6_remember 31 = .ok (.return_, 1) := by decide +kernel

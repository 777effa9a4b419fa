theorem dX0_init_0 : decode cX0_init 0 = .ok (.aload_n 0, 1) := by decide +kernel
theorem dX0_init_1 : decode cX0_init 1 = .ok (.invokespecial 1, 3) := by decide +kernel
theorem dX0_init_4 : decode cX0_init 4 = .ok (.aload_n 0, 1) := by decide +kernel
theorem dX0_init_5 : decode cX0_init 5 = .ok (.new 7, 3) := by decide +kernel
theorem dX0_init_8 : decode cX0_init 8 = .ok (.dup, 1) := by decide +kernel
theorem dX0_init_9 : decode cX0_init 9 = .ok (.invokespecial 9, 3) := by decide +kernel
theorem dX0_init_12 : decode cX0_init 12 = .ok (.putfield 10, 3) := by decide +kernel
theorem dX0_init_15 : decode cX0_init 15 = .ok (.aload_n 0, 1) := by decide +kernel
theorem dX0_init_16 : decode cX0_init 16 = .ok (.iload_n 1, 1) := by decide +kernel
theorem dX0_init_17 : decode cX0_init 17 = .ok (.putfield 16, 3) := by decide +kernel
theorem dX0_init_20 : decode cX0_init 20 = .ok (.return_, 1) := by decide +kernel
theorem dX0_sourcesWalked_0 : decode cX0_sourcesWalked 0 = .ok (.iconst 0, 1) := by decide +kernel
theorem dX0_sourcesWalked_1 : decode cX0_sourcesWalked 1 = .ok (.istore_n 2, 1) := by decide +kernel
theorem dX0_sourcesWalked_2 : decode cX0_sourcesWalked 2 = .ok (.aload_n 0, 1) := by decide +kernel
theorem dX0_sourcesWalked_3 : decode cX0_sourcesWalked 3 = .ok (.getfield 10, 3) := by decide +kernel
theorem dX0_sourcesWalked_6 : decode cX0_sourcesWalked 6 = .ok (.invokevirtual 20, 3) := by decide +kernel
theorem dX0_sourcesWalked_9 : decode cX0_sourcesWalked 9 = .ok (.iconst 1, 1) := by decide +kernel
theorem dX0_sourcesWalked_10 : decode cX0_sourcesWalked 10 = .ok (.isub, 1) := by decide +kernel
theorem dX0_sourcesWalked_11 : decode cX0_sourcesWalked 11 = .ok (.istore_n 3, 1) := by decide +kernel
theorem dX0_sourcesWalked_12 : decode cX0_sourcesWalked 12 = .ok (.iload_n 3, 1) := by decide +kernel
theorem dX0_sourcesWalked_13 : decode cX0_sourcesWalked 13 = .ok (.ifCond .lt 49, 3) := by decide +kernel
theorem dX0_sourcesWalked_16 : decode cX0_sourcesWalked 16 = .ok (.aload_n 0, 1) := by decide +kernel
theorem dX0_sourcesWalked_17 : decode cX0_sourcesWalked 17 = .ok (.getfield 10, 3) := by decide +kernel
theorem dX0_sourcesWalked_20 : decode cX0_sourcesWalked 20 = .ok (.iload_n 3, 1) := by decide +kernel
theorem dX0_sourcesWalked_21 : decode cX0_sourcesWalked 21 = .ok (.invokevirtual 24, 3) := by decide +kernel
theorem dX0_sourcesWalked_24 : decode cX0_sourcesWalked 24 = .ok (.checkcast 28, 3) := by decide +kernel
theorem dX0_sourcesWalked_27 : decode cX0_sourcesWalked 27 = .ok (.astore 4, 2) := by decide +kernel
theorem dX0_sourcesWalked_29 : decode cX0_sourcesWalked 29 = .ok (.iload_n 2, 1) := by decide +kernel
theorem dX0_sourcesWalked_30 : decode cX0_sourcesWalked 30 = .ok (.iconst 1, 1) := by decide +kernel
theorem dX0_sourcesWalked_31 : decode cX0_sourcesWalked 31 = .ok (.aload 4, 2) := by decide +kernel
theorem dX0_sourcesWalked_33 : decode cX0_sourcesWalked 33 = .ok (.getfield 30, 3) := by decide +kernel
theorem dX0_sourcesWalked_36 : decode cX0_sourcesWalked 36 = .ok (.ishl, 1) := by decide +kernel
theorem dX0_sourcesWalked_37 : decode cX0_sourcesWalked 37 = .ok (.ior, 1) := by decide +kernel
theorem dX0_sourcesWalked_38 : decode cX0_sourcesWalked 38 = .ok (.istore_n 2, 1) := by decide +kernel
theorem dX0_sourcesWalked_39 : decode cX0_sourcesWalked 39 = .ok (.aload 4, 2) := by decide +kernel
theorem dX0_sourcesWalked_41 : decode cX0_sourcesWalked 41 = .ok (.aload_n 1, 1) := by decide +kernel
theorem dX0_sourcesWalked_42 : decode cX0_sourcesWalked 42 = .ok (.invokevirtual 33, 3) := by decide +kernel
theorem dX0_sourcesWalked_45 : decode cX0_sourcesWalked 45 = .ok (.ifCond .eq 11, 3) := by decide +kernel
theorem dX0_sourcesWalked_48 : decode cX0_sourcesWalked 48 = .ok (.iload_n 2, 1) := by decide +kernel
theorem dX0_sourcesWalked_49 : decode cX0_sourcesWalked 49 = .ok (.aload 4, 2) := by decide +kernel
theorem dX0_sourcesWalked_51 : decode cX0_sourcesWalked 51 = .ok (.getfield 37, 3) := by decide +kernel
theorem dX0_sourcesWalked_54 : decode cX0_sourcesWalked 54 = .ok (.ior, 1) := by decide +kernel
theorem dX0_sourcesWalked_55 : decode cX0_sourcesWalked 55 = .ok (.ireturn, 1) := by decide +kernel
theorem dX0_sourcesWalked_56 : decode cX0_sourcesWalked 56 = .ok (.iinc 3 (-1), 3) := by decide +kernel
theorem dX0_sourcesWalked_59 : decode cX0_sourcesWalked 59 = .ok (.goto (-47), 3) := by decide +kernel
theorem dX0_sourcesWalked_62 : decode cX0_sourcesWalked 62 = .ok (.iload_n 2, 1) := by decide +kernel
theorem dX0_sourcesWalked_63 : decode cX0_sourcesWalked 63 = .ok (.aload_n 0, 1) := by decide +kernel
theorem dX0_sourcesWalked_64 : decode cX0_sourcesWalked 64 = .ok (.getfield 16, 3) := by decide +kernel
theorem dX0_sourcesWalked_67 : decode cX0_sourcesWalked 67 = .ok (.ior, 1) := by decide +kernel
theorem dX0_sourcesWalked_68 : decode cX0_sourcesWalked 68 = .ok (.ireturn, 1) := by decide +kernel
theorem dX1_init_0 : decode cX1_init 0 = .ok (.aload_n 0, 1) := by decide +kernel
theorem dX1_init_1 : decode cX1_init 1 = .ok (.invokespecial 1, 3) := by decide +kernel
theorem dX1_init_4 : decode cX1_init 4 = .ok (.aload_n 0, 1) := by decide +kernel
theorem dX1_init_5 : decode cX1_init 5 = .ok (.iload_n 1, 1) := by decide +kernel
theorem dX1_init_6 : decode cX1_init 6 = .ok (.putfield 7, 3) := by decide +kernel
theorem dX1_init_9 : decode cX1_init 9 = .ok (.return_, 1) := by decide +kernel
theorem dX1_becomeGuard_0 : decode cX1_becomeGuard 0 = .ok (.aload_n 0, 1) := by decide +kernel
theorem dX1_becomeGuard_1 : decode cX1_becomeGuard 1 = .ok (.iconst 1, 1) := by decide +kernel
theorem dX1_becomeGuard_2 : decode cX1_becomeGuard 2 = .ok (.putfield 13, 3) := by decide +kernel
theorem dX1_becomeGuard_5 : decode cX1_becomeGuard 5 = .ok (.aload_n 0, 1) := by decide +kernel
theorem dX1_becomeGuard_6 : decode cX1_becomeGuard 6 = .ok (.iload_n 1, 1) := by decide +kernel
theorem dX1_becomeGuard_7 : decode cX1_becomeGuard 7 = .ok (.putfield 17, 3) := by decide +kernel
theorem dX1_becomeGuard_10 : decode cX1_becomeGuard 10 = .ok (.aload_n 0, 1) := by decide +kernel
theorem dX1_becomeGuard_11 : decode cX1_becomeGuard 11 = .ok (.aload_n 2, 1) := by decide +kernel
theorem dX1_becomeGuard_12 : decode cX1_becomeGuard 12 = .ok (.putfield 20, 3) := by decide +kernel
theorem dX1_becomeGuard_15 : decode cX1_becomeGuard 15 = .ok (.return_, 1) := by decide +kernel
theorem dX1_dropGuard_0 : decode cX1_dropGuard 0 = .ok (.aload_n 0, 1) := by decide +kernel
theorem dX1_dropGuard_1 : decode cX1_dropGuard 1 = .ok (.iconst 0, 1) := by decide +kernel
theorem dX1_dropGuard_2 : decode cX1_dropGuard 2 = .ok (.putfield 13, 3) := by decide +kernel
theorem dX1_dropGuard_5 : decode cX1_dropGuard 5 = .ok (.return_, 1) := by decide +kernel
theorem dX1_endsWalk_0 : decode cX1_endsWalk 0 = .ok (.aload_n 0, 1) := by decide +kernel
theorem dX1_endsWalk_1 : decode cX1_endsWalk 1 = .ok (.getfield 13, 3) := by decide +kernel
theorem dX1_endsWalk_4 : decode cX1_endsWalk 4 = .ok (.ifCond .eq 29, 3) := by decide +kernel
theorem dX1_endsWalk_7 : decode cX1_endsWalk 7 = .ok (.aload_n 0, 1) := by decide +kernel
theorem dX1_endsWalk_8 : decode cX1_endsWalk 8 = .ok (.getfield 20, 3) := by decide +kernel
theorem dX1_endsWalk_11 : decode cX1_endsWalk 11 = .ok (.ifnull 18, 3) := by decide +kernel
theorem dX1_endsWalk_14 : decode cX1_endsWalk 14 = .ok (.aload_n 1, 1) := by decide +kernel
theorem dX1_endsWalk_15 : decode cX1_endsWalk 15 = .ok (.ifnull 18, 3) := by decide +kernel
theorem dX1_endsWalk_18 : decode cX1_endsWalk 18 = .ok (.aload_n 0, 1) := by decide +kernel
theorem dX1_endsWalk_19 : decode cX1_endsWalk 19 = .ok (.getfield 20, 3) := by decide +kernel
theorem dX1_endsWalk_22 : decode cX1_endsWalk 22 = .ok (.aload_n 1, 1) := by decide +kernel
theorem dX1_endsWalk_23 : decode cX1_endsWalk 23 = .ok (.invokevirtual 24, 3) := by decide +kernel
theorem dX1_endsWalk_26 : decode cX1_endsWalk 26 = .ok (.ifCond .eq 7, 3) := by decide +kernel
theorem dX1_endsWalk_29 : decode cX1_endsWalk 29 = .ok (.iconst 1, 1) := by decide +kernel
theorem dX1_endsWalk_30 : decode cX1_endsWalk 30 = .ok (.goto 4, 3) := by decide +kernel
theorem dX1_endsWalk_33 : decode cX1_endsWalk 33 = .ok (.iconst 0, 1) := by decide +kernel
theorem dX1_endsWalk_34 : decode cX1_endsWalk 34 = .ok (.ireturn, 1) := by decide +kernel
theorem dX2_init_0 : decode cX2_init 0 = .ok (.aload_n 0, 1) := by decide +kernel
theorem dX2_init_1 : decode cX2_init 1 = .ok (.invokespecial 1, 3) := by decide +kernel
theorem dX2_init_4 : decode cX2_init 4 = .ok (.aload_n 0, 1) := by decide +kernel
theorem dX2_init_5 : decode cX2_init 5 = .ok (.iload_n 1, 1) := by decide +kernel
theorem dX2_init_6 : decode cX2_init 6 = .ok (.putfield 7, 3) := by decide +kernel
theorem dX2_init_9 : decode cX2_init 9 = .ok (.aload_n 0, 1) := by decide +kernel
theorem dX2_init_10 : decode cX2_init 10 = .ok (.iload_n 2, 1) := by decide +kernel
theorem dX2_init_11 : decode cX2_init 11 = .ok (.putfield 13, 3) := by decide +kernel
theorem dX2_init_14 : decode cX2_init 14 = .ok (.return_, 1) := by decide +kernel
theorem dX3_init_0 : decode cX3_init 0 = .ok (.aload_n 0, 1) := by decide +kernel
theorem dX3_init_1 : decode cX3_init 1 = .ok (.invokespecial 1, 3) := by decide +kernel
theorem dX3_init_4 : decode cX3_init 4 = .ok (.aload_n 0, 1) := by decide +kernel
theorem dX3_init_5 : decode cX3_init 5 = .ok (.iload_n 1, 1) := by decide +kernel
theorem dX3_init_6 : decode cX3_init 6 = .ok (.putfield 7, 3) := by decide +kernel
theorem dX3_init_9 : decode cX3_init 9 = .ok (.aload_n 0, 1) := by decide +kernel
theorem dX3_init_10 : decode cX3_init 10 = .ok (.aload_n 2, 1) := by decide +kernel
theorem dX3_init_11 : decode cX3_init 11 = .ok (.putfield 13, 3) := by decide +kernel
theorem dX3_init_14 : decode cX3_init 14 = .ok (.aload_n 0, 1) := by decide +kernel
theorem dX3_init_15 : decode cX3_init 15 = .ok (.iload_n 3, 1) := by decide +kernel
theorem dX3_init_16 : decode cX3_init 16 = .ok (.putfield 17, 3) := by decide +kernel
theorem dX3_init_19 : decode cX3_init 19 = .ok (.aload_n 0, 1) := by decide +kernel
theorem dX3_init_20 : decode cX3_init 20 = .ok (.aload 4, 2) := by decide +kernel
theorem dX3_init_22 : decode cX3_init 22 = .ok (.putfield 21, 3) := by decide +kernel
theorem dX3_init_25 : decode cX3_init 25 = .ok (.aload_n 0, 1) := by decide +kernel
theorem dX3_init_26 : decode cX3_init 26 = .ok (.iload 5, 2) := by decide +kernel
theorem dX3_init_28 : decode cX3_init 28 = .ok (.putfield 24, 3) := by decide +kernel
theorem dX3_init_31 : decode cX3_init 31 = .ok (.return_, 1) := by decide +kernel
theorem dX3_includes_0 : decode cX3_includes 0 = .ok (.aload_n 0, 1) := by decide +kernel
theorem dX3_includes_1 : decode cX3_includes 1 = .ok (.aload_n 1, 1) := by decide +kernel
theorem dX3_includes_2 : decode cX3_includes 2 = .ok (.invokevirtual 27, 3) := by decide +kernel
theorem dX3_includes_5 : decode cX3_includes 5 = .ok (.ifCond .eq 21, 3) := by decide +kernel
theorem dX3_includes_8 : decode cX3_includes 8 = .ok (.aload_n 1, 1) := by decide +kernel
theorem dX3_includes_9 : decode cX3_includes 9 = .ok (.getfield 17, 3) := by decide +kernel
theorem dX3_includes_12 : decode cX3_includes 12 = .ok (.aload_n 0, 1) := by decide +kernel
theorem dX3_includes_13 : decode cX3_includes 13 = .ok (.getfield 17, 3) := by decide +kernel
theorem dX3_includes_16 : decode cX3_includes 16 = .ok (.iconst (-1), 1) := by decide +kernel
theorem dX3_includes_17 : decode cX3_includes 17 = .ok (.ixor, 1) := by decide +kernel
theorem dX3_includes_18 : decode cX3_includes 18 = .ok (.iand, 1) := by decide +kernel
theorem dX3_includes_19 : decode cX3_includes 19 = .ok (.ifCond .ne 7, 3) := by decide +kernel
theorem dX3_includes_22 : decode cX3_includes 22 = .ok (.iconst 1, 1) := by decide +kernel
theorem dX3_includes_23 : decode cX3_includes 23 = .ok (.goto 4, 3) := by decide +kernel
theorem dX3_includes_26 : decode cX3_includes 26 = .ok (.iconst 0, 1) := by decide +kernel
theorem dX3_includes_27 : decode cX3_includes 27 = .ok (.ireturn, 1) := by decide +kernel
theorem dX3_reaches_0 : decode cX3_reaches 0 = .ok (.aload_n 0, 1) := by decide +kernel
theorem dX3_reaches_1 : decode cX3_reaches 1 = .ok (.getfield 7, 3) := by decide +kernel
theorem dX3_reaches_4 : decode cX3_reaches 4 = .ok (.bipush 42, 2) := by decide +kernel
theorem dX3_reaches_6 : decode cX3_reaches 6 = .ok (.if_icmp .ne 5, 3) := by decide +kernel
theorem dX3_reaches_9 : decode cX3_reaches 9 = .ok (.iconst 1, 1) := by decide +kernel
theorem dX3_reaches_10 : decode cX3_reaches 10 = .ok (.ireturn, 1) := by decide +kernel
theorem dX3_reaches_11 : decode cX3_reaches 11 = .ok (.aload_n 0, 1) := by decide +kernel
theorem dX3_reaches_12 : decode cX3_reaches 12 = .ok (.getfield 7, 3) := by decide +kernel
theorem dX3_reaches_15 : decode cX3_reaches 15 = .ok (.aload_n 1, 1) := by decide +kernel
theorem dX3_reaches_16 : decode cX3_reaches 16 = .ok (.getfield 7, 3) := by decide +kernel
theorem dX3_reaches_19 : decode cX3_reaches 19 = .ok (.if_icmp .ne 26, 3) := by decide +kernel
theorem dX3_reaches_22 : decode cX3_reaches 22 = .ok (.aload_n 1, 1) := by decide +kernel
theorem dX3_reaches_23 : decode cX3_reaches 23 = .ok (.aload_n 0, 1) := by decide +kernel
theorem dX3_reaches_24 : decode cX3_reaches 24 = .ok (.getfield 21, 3) := by decide +kernel
theorem dX3_reaches_27 : decode cX3_reaches 27 = .ok (.invokevirtual 31, 3) := by decide +kernel
theorem dX3_reaches_30 : decode cX3_reaches 30 = .ok (.ifCond .eq 15, 3) := by decide +kernel
theorem dX3_reaches_33 : decode cX3_reaches 33 = .ok (.aload_n 0, 1) := by decide +kernel
theorem dX3_reaches_34 : decode cX3_reaches 34 = .ok (.aload_n 1, 1) := by decide +kernel
theorem dX3_reaches_35 : decode cX3_reaches 35 = .ok (.invokevirtual 35, 3) := by decide +kernel
theorem dX3_reaches_38 : decode cX3_reaches 38 = .ok (.ifCond .eq 7, 3) := by decide +kernel
theorem dX3_reaches_41 : decode cX3_reaches 41 = .ok (.iconst 1, 1) := by decide +kernel
theorem dX3_reaches_42 : decode cX3_reaches 42 = .ok (.goto 4, 3) := by decide +kernel
theorem dX3_reaches_45 : decode cX3_reaches 45 = .ok (.iconst 0, 1) := by decide +kernel
theorem dX3_reaches_46 : decode cX3_reaches 46 = .ok (.ireturn, 1) := by decide +kernel
theorem dX3_beginsBy_0 : decode cX3_beginsBy 0 = .ok (.aload_n 0, 1) := by decide +kernel
theorem dX3_beginsBy_1 : decode cX3_beginsBy 1 = .ok (.getfield 21, 3) := by decide +kernel
theorem dX3_beginsBy_4 : decode cX3_beginsBy 4 = .ok (.invokevirtual 38, 3) := by decide +kernel
theorem dX3_beginsBy_7 : decode cX3_beginsBy 7 = .ok (.aload_n 1, 1) := by decide +kernel
theorem dX3_beginsBy_8 : decode cX3_beginsBy 8 = .ok (.invokevirtual 38, 3) := by decide +kernel
theorem dX3_beginsBy_11 : decode cX3_beginsBy 11 = .ok (.if_icmp .ge 5, 3) := by decide +kernel
theorem dX3_beginsBy_14 : decode cX3_beginsBy 14 = .ok (.iconst 0, 1) := by decide +kernel
theorem dX3_beginsBy_15 : decode cX3_beginsBy 15 = .ok (.ireturn, 1) := by decide +kernel
theorem dX3_beginsBy_16 : decode cX3_beginsBy 16 = .ok (.iconst 0, 1) := by decide +kernel
theorem dX3_beginsBy_17 : decode cX3_beginsBy 17 = .ok (.istore_n 2, 1) := by decide +kernel
theorem dX3_beginsBy_18 : decode cX3_beginsBy 18 = .ok (.iload_n 2, 1) := by decide +kernel
theorem dX3_beginsBy_19 : decode cX3_beginsBy 19 = .ok (.aload_n 1, 1) := by decide +kernel
theorem dX3_beginsBy_20 : decode cX3_beginsBy 20 = .ok (.invokevirtual 38, 3) := by decide +kernel
theorem dX3_beginsBy_23 : decode cX3_beginsBy 23 = .ok (.if_icmp .ge 27, 3) := by decide +kernel
theorem dX3_beginsBy_26 : decode cX3_beginsBy 26 = .ok (.aload_n 0, 1) := by decide +kernel
theorem dX3_beginsBy_27 : decode cX3_beginsBy 27 = .ok (.getfield 21, 3) := by decide +kernel
theorem dX3_beginsBy_30 : decode cX3_beginsBy 30 = .ok (.iload_n 2, 1) := by decide +kernel
theorem dX3_beginsBy_31 : decode cX3_beginsBy 31 = .ok (.invokevirtual 44, 3) := by decide +kernel
theorem dX3_beginsBy_34 : decode cX3_beginsBy 34 = .ok (.aload_n 1, 1) := by decide +kernel
theorem dX3_beginsBy_35 : decode cX3_beginsBy 35 = .ok (.iload_n 2, 1) := by decide +kernel
theorem dX3_beginsBy_36 : decode cX3_beginsBy 36 = .ok (.invokevirtual 44, 3) := by decide +kernel
theorem dX3_beginsBy_39 : decode cX3_beginsBy 39 = .ok (.if_icmp .eq 5, 3) := by decide +kernel
theorem dX3_beginsBy_42 : decode cX3_beginsBy 42 = .ok (.iconst 0, 1) := by decide +kernel
theorem dX3_beginsBy_43 : decode cX3_beginsBy 43 = .ok (.ireturn, 1) := by decide +kernel
theorem dX3_beginsBy_44 : decode cX3_beginsBy 44 = .ok (.iinc 2 1, 3) := by decide +kernel
theorem dX3_beginsBy_47 : decode cX3_beginsBy 47 = .ok (.goto (-29), 3) := by decide +kernel
theorem dX3_beginsBy_50 : decode cX3_beginsBy 50 = .ok (.iconst 1, 1) := by decide +kernel
theorem dX3_beginsBy_51 : decode cX3_beginsBy 51 = .ok (.ireturn, 1) := by decide +kernel
theorem dX3_wildcardFits_0 : decode cX3_wildcardFits 0 = .ok (.aload_n 1, 1) := by decide +kernel
theorem dX3_wildcardFits_1 : decode cX3_wildcardFits 1 = .ok (.getfield 21, 3) := by decide +kernel
theorem dX3_wildcardFits_4 : decode cX3_wildcardFits 4 = .ok (.invokevirtual 38, 3) := by decide +kernel
theorem dX3_wildcardFits_7 : decode cX3_wildcardFits 7 = .ok (.aload_n 0, 1) := by decide +kernel
theorem dX3_wildcardFits_8 : decode cX3_wildcardFits 8 = .ok (.getfield 21, 3) := by decide +kernel
theorem dX3_wildcardFits_11 : decode cX3_wildcardFits 11 = .ok (.invokevirtual 38, 3) := by decide +kernel
theorem dX3_wildcardFits_14 : decode cX3_wildcardFits 14 = .ok (.isub, 1) := by decide +kernel
theorem dX3_wildcardFits_15 : decode cX3_wildcardFits 15 = .ok (.istore_n 2, 1) := by decide +kernel
theorem dX3_wildcardFits_16 : decode cX3_wildcardFits 16 = .ok (.iload_n 2, 1) := by decide +kernel
theorem dX3_wildcardFits_17 : decode cX3_wildcardFits 17 = .ok (.ifCond .ne 18, 3) := by decide +kernel
theorem dX3_wildcardFits_20 : decode cX3_wildcardFits 20 = .ok (.aload_n 1, 1) := by decide +kernel
theorem dX3_wildcardFits_21 : decode cX3_wildcardFits 21 = .ok (.getfield 24, 3) := by decide +kernel
theorem dX3_wildcardFits_24 : decode cX3_wildcardFits 24 = .ok (.aload_n 0, 1) := by decide +kernel
theorem dX3_wildcardFits_25 : decode cX3_wildcardFits 25 = .ok (.getfield 24, 3) := by decide +kernel
theorem dX3_wildcardFits_28 : decode cX3_wildcardFits 28 = .ok (.if_icmp .ne 7, 3) := by decide +kernel
theorem dX3_wildcardFits_31 : decode cX3_wildcardFits 31 = .ok (.iconst 1, 1) := by decide +kernel
theorem dX3_wildcardFits_32 : decode cX3_wildcardFits 32 = .ok (.goto 4, 3) := by decide +kernel
theorem dX3_wildcardFits_35 : decode cX3_wildcardFits 35 = .ok (.iconst 0, 1) := by decide +kernel
theorem dX3_wildcardFits_36 : decode cX3_wildcardFits 36 = .ok (.istore_n 3, 1) := by decide +kernel
theorem dX3_wildcardFits_37 : decode cX3_wildcardFits 37 = .ok (.aload_n 0, 1) := by decide +kernel
theorem dX3_wildcardFits_38 : decode cX3_wildcardFits 38 = .ok (.getfield 24, 3) := by decide +kernel
theorem dX3_wildcardFits_41 : decode cX3_wildcardFits 41 = .ok (.iconst 2, 1) := by decide +kernel
theorem dX3_wildcardFits_42 : decode cX3_wildcardFits 42 = .ok (.if_icmp .ne 20, 3) := by decide +kernel
theorem dX3_wildcardFits_45 : decode cX3_wildcardFits 45 = .ok (.iload_n 2, 1) := by decide +kernel
theorem dX3_wildcardFits_46 : decode cX3_wildcardFits 46 = .ok (.ifCond .gt 10, 3) := by decide +kernel
theorem dX3_wildcardFits_49 : decode cX3_wildcardFits 49 = .ok (.aload_n 1, 1) := by decide +kernel
theorem dX3_wildcardFits_50 : decode cX3_wildcardFits 50 = .ok (.getfield 24, 3) := by decide +kernel
theorem dX3_wildcardFits_53 : decode cX3_wildcardFits 53 = .ok (.ifCond .eq 7, 3) := by decide +kernel
theorem dX3_wildcardFits_56 : decode cX3_wildcardFits 56 = .ok (.iconst 1, 1) := by decide +kernel
theorem dX3_wildcardFits_57 : decode cX3_wildcardFits 57 = .ok (.goto 4, 3) := by decide +kernel
theorem dX3_wildcardFits_60 : decode cX3_wildcardFits 60 = .ok (.iconst 0, 1) := by decide +kernel
theorem dX3_wildcardFits_61 : decode cX3_wildcardFits 61 = .ok (.ireturn, 1) := by decide +kernel
theorem dX3_wildcardFits_62 : decode cX3_wildcardFits 62 = .ok (.aload_n 0, 1) := by decide +kernel
theorem dX3_wildcardFits_63 : decode cX3_wildcardFits 63 = .ok (.getfield 24, 3) := by decide +kernel
theorem dX3_wildcardFits_66 : decode cX3_wildcardFits 66 = .ok (.iconst 1, 1) := by decide +kernel
theorem dX3_wildcardFits_67 : decode cX3_wildcardFits 67 = .ok (.if_icmp .ne 25, 3) := by decide +kernel
theorem dX3_wildcardFits_70 : decode cX3_wildcardFits 70 = .ok (.iload_n 3, 1) := by decide +kernel
theorem dX3_wildcardFits_71 : decode cX3_wildcardFits 71 = .ok (.ifCond .ne 15, 3) := by decide +kernel
theorem dX3_wildcardFits_74 : decode cX3_wildcardFits 74 = .ok (.iload_n 2, 1) := by decide +kernel
theorem dX3_wildcardFits_75 : decode cX3_wildcardFits 75 = .ok (.iconst 1, 1) := by decide +kernel
theorem dX3_wildcardFits_76 : decode cX3_wildcardFits 76 = .ok (.if_icmp .ne 14, 3) := by decide +kernel
theorem dX3_wildcardFits_79 : decode cX3_wildcardFits 79 = .ok (.aload_n 1, 1) := by decide +kernel
theorem dX3_wildcardFits_80 : decode cX3_wildcardFits 80 = .ok (.getfield 24, 3) := by decide +kernel
theorem dX3_wildcardFits_83 : decode cX3_wildcardFits 83 = .ok (.ifCond .ne 7, 3) := by decide +kernel
theorem dX3_wildcardFits_86 : decode cX3_wildcardFits 86 = .ok (.iconst 1, 1) := by decide +kernel
theorem dX3_wildcardFits_87 : decode cX3_wildcardFits 87 = .ok (.goto 4, 3) := by decide +kernel
theorem dX3_wildcardFits_90 : decode cX3_wildcardFits 90 = .ok (.iconst 0, 1) := by decide +kernel
theorem dX3_wildcardFits_91 : decode cX3_wildcardFits 91 = .ok (.ireturn, 1) := by decide +kernel
theorem dX3_wildcardFits_92 : decode cX3_wildcardFits 92 = .ok (.iload_n 3, 1) := by decide +kernel
theorem dX3_wildcardFits_93 : decode cX3_wildcardFits 93 = .ok (.ireturn, 1) := by decide +kernel
theorem dX4_init_0 : decode cX4_init 0 = .ok (.aload_n 0, 1) := by decide +kernel
theorem dX4_init_1 : decode cX4_init 1 = .ok (.invokespecial 3, 3) := by decide +kernel
theorem dX4_init_4 : decode cX4_init 4 = .ok (.aload_n 0, 1) := by decide +kernel
theorem dX4_init_5 : decode cX4_init 5 = .ok (.iconst 0, 1) := by decide +kernel
theorem dX4_init_6 : decode cX4_init 6 = .ok (.putfield 11, 3) := by decide +kernel
theorem dX4_init_9 : decode cX4_init 9 = .ok (.aload_n 0, 1) := by decide +kernel
theorem dX4_init_10 : decode cX4_init 10 = .ok (.new 15, 3) := by decide +kernel
theorem dX4_init_13 : decode cX4_init 13 = .ok (.dup, 1) := by decide +kernel
theorem dX4_init_14 : decode cX4_init 14 = .ok (.invokespecial 17, 3) := by decide +kernel
theorem dX4_init_17 : decode cX4_init 17 = .ok (.putfield 18, 3) := by decide +kernel
theorem dX4_init_20 : decode cX4_init 20 = .ok (.aload_n 0, 1) := by decide +kernel
theorem dX4_init_21 : decode cX4_init 21 = .ok (.iconst 0, 1) := by decide +kernel
theorem dX4_init_22 : decode cX4_init 22 = .ok (.putfield 24, 3) := by decide +kernel
theorem dX4_init_25 : decode cX4_init 25 = .ok (.aload_n 0, 1) := by decide +kernel
theorem dX4_init_26 : decode cX4_init 26 = .ok (.aload_n 1, 1) := by decide +kernel
theorem dX4_init_27 : decode cX4_init 27 = .ok (.putfield 28, 3) := by decide +kernel
theorem dX4_init_30 : decode cX4_init 30 = .ok (.return_, 1) := by decide +kernel
theorem dX4_succeeds_0 : decode cX4_succeeds 0 = .ok (.aload_n 0, 1) := by decide +kernel
theorem dX4_succeeds_1 : decode cX4_succeeds 1 = .ok (.invokevirtual 32, 3) := by decide +kernel
theorem dX4_succeeds_4 : decode cX4_succeeds 4 = .ok (.ifCond .eq 21, 3) := by decide +kernel
theorem dX4_succeeds_7 : decode cX4_succeeds 7 = .ok (.aload_n 0, 1) := by decide +kernel
theorem dX4_succeeds_8 : decode cX4_succeeds 8 = .ok (.getfield 36, 3) := by decide +kernel
theorem dX4_succeeds_11 : decode cX4_succeeds 11 = .ok (.aload_n 0, 1) := by decide +kernel
theorem dX4_succeeds_12 : decode cX4_succeeds 12 = .ok (.getfield 28, 3) := by decide +kernel
theorem dX4_succeeds_15 : decode cX4_succeeds 15 = .ok (.invokevirtual 39, 3) := by decide +kernel
theorem dX4_succeeds_18 : decode cX4_succeeds 18 = .ok (.if_icmp .ne 7, 3) := by decide +kernel
theorem dX4_succeeds_21 : decode cX4_succeeds 21 = .ok (.iconst 1, 1) := by decide +kernel
theorem dX4_succeeds_22 : decode cX4_succeeds 22 = .ok (.goto 4, 3) := by decide +kernel
theorem dX4_succeeds_25 : decode cX4_succeeds 25 = .ok (.iconst 0, 1) := by decide +kernel
theorem dX4_succeeds_26 : decode cX4_succeeds 26 = .ok (.ireturn, 1) := by decide +kernel
theorem dX4_position_0 : decode cX4_position 0 = .ok (.aload_n 0, 1) := by decide +kernel
theorem dX4_position_1 : decode cX4_position 1 = .ok (.getfield 36, 3) := by decide +kernel
theorem dX4_position_4 : decode cX4_position 4 = .ok (.ireturn, 1) := by decide +kernel
theorem dX4_result_0 : decode cX4_result 0 = .ok (.aload_n 0, 1) := by decide +kernel
theorem dX4_result_1 : decode cX4_result 1 = .ok (.getfield 18, 3) := by decide +kernel
theorem dX4_result_4 : decode cX4_result 4 = .ok (.invokevirtual 45, 3) := by decide +kernel
theorem dX4_result_7 : decode cX4_result 7 = .ok (.astore_n 1, 1) := by decide +kernel
theorem dX4_result_8 : decode cX4_result 8 = .ok (.aload_n 0, 1) := by decide +kernel
theorem dX4_result_9 : decode cX4_result 9 = .ok (.getfield 18, 3) := by decide +kernel
theorem dX4_result_12 : decode cX4_result 12 = .ok (.iconst 0, 1) := by decide +kernel
theorem dX4_result_13 : decode cX4_result 13 = .ok (.invokevirtual 49, 3) := by decide +kernel
theorem dX4_result_16 : decode cX4_result 16 = .ok (.new 22, 3) := by decide +kernel
theorem dX4_result_19 : decode cX4_result 19 = .ok (.dup, 1) := by decide +kernel
theorem dX4_result_20 : decode cX4_result 20 = .ok (.aload_n 0, 1) := by decide +kernel
theorem dX4_result_21 : decode cX4_result 21 = .ok (.getfield 11, 3) := by decide +kernel
theorem dX4_result_24 : decode cX4_result 24 = .ok (.aload_n 0, 1) := by decide +kernel
theorem dX4_result_25 : decode cX4_result 25 = .ok (.invokevirtual 53, 3) := by decide +kernel
theorem dX4_result_28 : decode cX4_result 28 = .ok (.aload_n 0, 1) := by decide +kernel
theorem dX4_result_29 : decode cX4_result 29 = .ok (.getfield 56, 3) := by decide +kernel
theorem dX4_result_32 : decode cX4_result 32 = .ok (.aload_n 1, 1) := by decide +kernel
theorem dX4_result_33 : decode cX4_result 33 = .ok (.aload_n 0, 1) := by decide +kernel
theorem dX4_result_34 : decode cX4_result 34 = .ok (.getfield 24, 3) := by decide +kernel
theorem dX4_result_37 : decode cX4_result 37 = .ok (.invokespecial 59, 3) := by decide +kernel
theorem dX4_result_40 : decode cX4_result 40 = .ok (.areturn, 1) := by decide +kernel
theorem dX4_readPermission_0 : decode cX4_readPermission 0 = .ok (.aload_n 0, 1) := by decide +kernel
theorem dX4_readPermission_1 : decode cX4_readPermission 1 = .ok (.aload_n 0, 1) := by decide +kernel
theorem dX4_readPermission_2 : decode cX4_readPermission 2 = .ok (.invokevirtual 62, 3) := by decide +kernel
theorem dX4_readPermission_5 : decode cX4_readPermission 5 = .ok (.putfield 11, 3) := by decide +kernel
theorem dX4_readPermission_8 : decode cX4_readPermission 8 = .ok (.aload_n 0, 1) := by decide +kernel
theorem dX4_readPermission_9 : decode cX4_readPermission 9 = .ok (.bipush 42, 2) := by decide +kernel
theorem dX4_readPermission_11 : decode cX4_readPermission 11 = .ok (.invokevirtual 66, 3) := by decide +kernel
theorem dX4_readPermission_14 : decode cX4_readPermission 14 = .ok (.ifCond .eq 10, 3) := by decide +kernel
theorem dX4_readPermission_17 : decode cX4_readPermission 17 = .ok (.aload_n 0, 1) := by decide +kernel
theorem dX4_readPermission_18 : decode cX4_readPermission 18 = .ok (.iconst (-1), 1) := by decide +kernel
theorem dX4_readPermission_19 : decode cX4_readPermission 19 = .ok (.putfield 56, 3) := by decide +kernel
theorem dX4_readPermission_22 : decode cX4_readPermission 22 = .ok (.iconst 1, 1) := by decide +kernel
theorem dX4_readPermission_23 : decode cX4_readPermission 23 = .ok (.ireturn, 1) := by decide +kernel
theorem dX4_readPermission_24 : decode cX4_readPermission 24 = .ok (.aload_n 0, 1) := by decide +kernel
theorem dX4_readPermission_25 : decode cX4_readPermission 25 = .ok (.bipush 102, 2) := by decide +kernel
theorem dX4_readPermission_27 : decode cX4_readPermission 27 = .ok (.invokevirtual 66, 3) := by decide +kernel
theorem dX4_readPermission_30 : decode cX4_readPermission 30 = .ok (.ifCond .eq 32, 3) := by decide +kernel
theorem dX4_readPermission_33 : decode cX4_readPermission 33 = .ok (.aload_n 0, 1) := by decide +kernel
theorem dX4_readPermission_34 : decode cX4_readPermission 34 = .ok (.invokevirtual 70, 3) := by decide +kernel
theorem dX4_readPermission_37 : decode cX4_readPermission 37 = .ok (.ifCond .eq 23, 3) := by decide +kernel
theorem dX4_readPermission_40 : decode cX4_readPermission 40 = .ok (.aload_n 0, 1) := by decide +kernel
theorem dX4_readPermission_41 : decode cX4_readPermission 41 = .ok (.bipush 58, 2) := by decide +kernel
theorem dX4_readPermission_43 : decode cX4_readPermission 43 = .ok (.invokevirtual 66, 3) := by decide +kernel
theorem dX4_readPermission_46 : decode cX4_readPermission 46 = .ok (.ifCond .eq 14, 3) := by decide +kernel
theorem dX4_readPermission_49 : decode cX4_readPermission 49 = .ok (.aload_n 0, 1) := by decide +kernel
theorem dX4_readPermission_50 : decode cX4_readPermission 50 = .ok (.invokevirtual 73, 3) := by decide +kernel
theorem dX4_readPermission_53 : decode cX4_readPermission 53 = .ok (.ifCond .eq 7, 3) := by decide +kernel
theorem dX4_readPermission_56 : decode cX4_readPermission 56 = .ok (.iconst 1, 1) := by decide +kernel
theorem dX4_readPermission_57 : decode cX4_readPermission 57 = .ok (.goto 4, 3) := by decide +kernel
theorem dX4_readPermission_60 : decode cX4_readPermission 60 = .ok (.iconst 0, 1) := by decide +kernel
theorem dX4_readPermission_61 : decode cX4_readPermission 61 = .ok (.ireturn, 1) := by decide +kernel
theorem dX4_readPermission_62 : decode cX4_readPermission 62 = .ok (.aload_n 0, 1) := by decide +kernel
theorem dX4_readPermission_63 : decode cX4_readPermission 63 = .ok (.bipush 104, 2) := by decide +kernel
theorem dX4_readPermission_65 : decode cX4_readPermission 65 = .ok (.invokevirtual 66, 3) := by decide +kernel
theorem dX4_readPermission_68 : decode cX4_readPermission 68 = .ok (.ifCond .eq 32, 3) := by decide +kernel
theorem dX4_readPermission_71 : decode cX4_readPermission 71 = .ok (.aload_n 0, 1) := by decide +kernel
theorem dX4_readPermission_72 : decode cX4_readPermission 72 = .ok (.invokevirtual 76, 3) := by decide +kernel
theorem dX4_readPermission_75 : decode cX4_readPermission 75 = .ok (.ifCond .eq 23, 3) := by decide +kernel
theorem dX4_readPermission_78 : decode cX4_readPermission 78 = .ok (.aload_n 0, 1) := by decide +kernel
theorem dX4_readPermission_79 : decode cX4_readPermission 79 = .ok (.bipush 58, 2) := by decide +kernel
theorem dX4_readPermission_81 : decode cX4_readPermission 81 = .ok (.invokevirtual 66, 3) := by decide +kernel
theorem dX4_readPermission_84 : decode cX4_readPermission 84 = .ok (.ifCond .eq 14, 3) := by decide +kernel
theorem dX4_readPermission_87 : decode cX4_readPermission 87 = .ok (.aload_n 0, 1) := by decide +kernel
theorem dX4_readPermission_88 : decode cX4_readPermission 88 = .ok (.invokevirtual 79, 3) := by decide +kernel
theorem dX4_readPermission_91 : decode cX4_readPermission 91 = .ok (.ifCond .eq 7, 3) := by decide +kernel
theorem dX4_readPermission_94 : decode cX4_readPermission 94 = .ok (.iconst 1, 1) := by decide +kernel
theorem dX4_readPermission_95 : decode cX4_readPermission 95 = .ok (.goto 4, 3) := by decide +kernel
theorem dX4_readPermission_98 : decode cX4_readPermission 98 = .ok (.iconst 0, 1) := by decide +kernel
theorem dX4_readPermission_99 : decode cX4_readPermission 99 = .ok (.ireturn, 1) := by decide +kernel
theorem dX4_readPermission_100 : decode cX4_readPermission 100 = .ok (.aload_n 0, 1) := by decide +kernel
theorem dX4_readPermission_101 : decode cX4_readPermission 101 = .ok (.bipush 110, 2) := by decide +kernel
theorem dX4_readPermission_103 : decode cX4_readPermission 103 = .ok (.invokevirtual 66, 3) := by decide +kernel
theorem dX4_readPermission_106 : decode cX4_readPermission 106 = .ok (.ifCond .eq 14, 3) := by decide +kernel
theorem dX4_readPermission_109 : decode cX4_readPermission 109 = .ok (.aload_n 0, 1) := by decide +kernel
theorem dX4_readPermission_110 : decode cX4_readPermission 110 = .ok (.invokevirtual 82, 3) := by decide +kernel
theorem dX4_readPermission_113 : decode cX4_readPermission 113 = .ok (.ifCond .eq 7, 3) := by decide +kernel
theorem dX4_readPermission_116 : decode cX4_readPermission 116 = .ok (.iconst 1, 1) := by decide +kernel
theorem dX4_readPermission_117 : decode cX4_readPermission 117 = .ok (.goto 4, 3) := by decide +kernel
theorem dX4_readPermission_120 : decode cX4_readPermission 120 = .ok (.iconst 0, 1) := by decide +kernel
theorem dX4_readPermission_121 : decode cX4_readPermission 121 = .ok (.ireturn, 1) := by decide +kernel
theorem dX4_readPath_0 : decode cX4_readPath 0 = .ok (.iconst 0, 1) := by decide +kernel
theorem dX4_readPath_1 : decode cX4_readPath 1 = .ok (.istore_n 1, 1) := by decide +kernel
theorem dX4_readPath_2 : decode cX4_readPath 2 = .ok (.iload_n 1, 1) := by decide +kernel
theorem dX4_readPath_3 : decode cX4_readPath 3 = .ok (.iconst 3, 1) := by decide +kernel
theorem dX4_readPath_4 : decode cX4_readPath 4 = .ok (.if_icmp .ge 59, 3) := by decide +kernel
theorem dX4_readPath_7 : decode cX4_readPath 7 = .ok (.aload_n 0, 1) := by decide +kernel
theorem dX4_readPath_8 : decode cX4_readPath 8 = .ok (.bipush 47, 2) := by decide +kernel
theorem dX4_readPath_10 : decode cX4_readPath 10 = .ok (.invokevirtual 66, 3) := by decide +kernel
theorem dX4_readPath_13 : decode cX4_readPath 13 = .ok (.ifCond .ne 13, 3) := by decide +kernel
theorem dX4_readPath_16 : decode cX4_readPath 16 = .ok (.iload_n 1, 1) := by decide +kernel
theorem dX4_readPath_17 : decode cX4_readPath 17 = .ok (.ifCond .le 7, 3) := by decide +kernel
theorem dX4_readPath_20 : decode cX4_readPath 20 = .ok (.iconst 1, 1) := by decide +kernel
theorem dX4_readPath_21 : decode cX4_readPath 21 = .ok (.goto 4, 3) := by decide +kernel
theorem dX4_readPath_24 : decode cX4_readPath 24 = .ok (.iconst 0, 1) := by decide +kernel
theorem dX4_readPath_25 : decode cX4_readPath 25 = .ok (.ireturn, 1) := by decide +kernel
theorem dX4_readPath_26 : decode cX4_readPath 26 = .ok (.aload_n 0, 1) := by decide +kernel
theorem dX4_readPath_27 : decode cX4_readPath 27 = .ok (.bipush 42, 2) := by decide +kernel
theorem dX4_readPath_29 : decode cX4_readPath 29 = .ok (.iconst 1, 1) := by decide +kernel
theorem dX4_readPath_30 : decode cX4_readPath 30 = .ok (.invokevirtual 85, 3) := by decide +kernel
theorem dX4_readPath_33 : decode cX4_readPath 33 = .ok (.ifCond .ne 13, 3) := by decide +kernel
theorem dX4_readPath_36 : decode cX4_readPath 36 = .ok (.aload_n 0, 1) := by decide +kernel
theorem dX4_readPath_37 : decode cX4_readPath 37 = .ok (.bipush 45, 2) := by decide +kernel
theorem dX4_readPath_39 : decode cX4_readPath 39 = .ok (.iconst 2, 1) := by decide +kernel
theorem dX4_readPath_40 : decode cX4_readPath 40 = .ok (.invokevirtual 85, 3) := by decide +kernel
theorem dX4_readPath_43 : decode cX4_readPath 43 = .ok (.ifCond .eq 5, 3) := by decide +kernel
theorem dX4_readPath_46 : decode cX4_readPath 46 = .ok (.iconst 1, 1) := by decide +kernel
theorem dX4_readPath_47 : decode cX4_readPath 47 = .ok (.ireturn, 1) := by decide +kernel
theorem dX4_readPath_48 : decode cX4_readPath 48 = .ok (.aload_n 0, 1) := by decide +kernel
theorem dX4_readPath_49 : decode cX4_readPath 49 = .ok (.invokevirtual 89, 3) := by decide +kernel
theorem dX4_readPath_52 : decode cX4_readPath 52 = .ok (.ifCond .ne 5, 3) := by decide +kernel
theorem dX4_readPath_55 : decode cX4_readPath 55 = .ok (.iconst 0, 1) := by decide +kernel
theorem dX4_readPath_56 : decode cX4_readPath 56 = .ok (.ireturn, 1) := by decide +kernel
theorem dX4_readPath_57 : decode cX4_readPath 57 = .ok (.iinc 1 1, 3) := by decide +kernel
theorem dX4_readPath_60 : decode cX4_readPath 60 = .ok (.goto (-58), 3) := by decide +kernel
theorem dX4_readPath_63 : decode cX4_readPath 63 = .ok (.iconst 1, 1) := by decide +kernel
theorem dX4_readPath_64 : decode cX4_readPath 64 = .ok (.ireturn, 1) := by decide +kernel
theorem dX4_readHost_0 : decode cX4_readHost 0 = .ok (.aload_n 0, 1) := by decide +kernel
theorem dX4_readHost_1 : decode cX4_readHost 1 = .ok (.bipush 42, 2) := by decide +kernel
theorem dX4_readHost_3 : decode cX4_readHost 3 = .ok (.iconst 2, 1) := by decide +kernel
theorem dX4_readHost_4 : decode cX4_readHost 4 = .ok (.invokevirtual 85, 3) := by decide +kernel
theorem dX4_readHost_7 : decode cX4_readHost 7 = .ok (.ifCond .ne 9, 3) := by decide +kernel
theorem dX4_readHost_10 : decode cX4_readHost 10 = .ok (.aload_n 0, 1) := by decide +kernel
theorem dX4_readHost_11 : decode cX4_readHost 11 = .ok (.iconst 3, 1) := by decide +kernel
theorem dX4_readHost_12 : decode cX4_readHost 12 = .ok (.invokevirtual 92, 3) := by decide +kernel
theorem dX4_readHost_15 : decode cX4_readHost 15 = .ok (.ireturn, 1) := by decide +kernel
theorem dX4_readHost_16 : decode cX4_readHost 16 = .ok (.aload_n 0, 1) := by decide +kernel
theorem dX4_readHost_17 : decode cX4_readHost 17 = .ok (.bipush 46, 2) := by decide +kernel
theorem dX4_readHost_19 : decode cX4_readHost 19 = .ok (.invokevirtual 66, 3) := by decide +kernel
theorem dX4_readHost_22 : decode cX4_readHost 22 = .ok (.ifCond .eq 11, 3) := by decide +kernel
theorem dX4_readHost_25 : decode cX4_readHost 25 = .ok (.aload_n 0, 1) := by decide +kernel
theorem dX4_readHost_26 : decode cX4_readHost 26 = .ok (.iconst 2, 1) := by decide +kernel
theorem dX4_readHost_27 : decode cX4_readHost 27 = .ok (.invokevirtual 92, 3) := by decide +kernel
theorem dX4_readHost_30 : decode cX4_readHost 30 = .ok (.ifCond .eq 7, 3) := by decide +kernel
theorem dX4_readHost_33 : decode cX4_readHost 33 = .ok (.iconst 1, 1) := by decide +kernel
theorem dX4_readHost_34 : decode cX4_readHost 34 = .ok (.goto 4, 3) := by decide +kernel
theorem dX4_readHost_37 : decode cX4_readHost 37 = .ok (.iconst 0, 1) := by decide +kernel
theorem dX4_readHost_38 : decode cX4_readHost 38 = .ok (.ireturn, 1) := by decide +kernel
theorem dX4_readHostLabels_0 : decode cX4_readHostLabels 0 = .ok (.iconst 0, 1) := by decide +kernel
theorem dX4_readHostLabels_1 : decode cX4_readHostLabels 1 = .ok (.istore_n 2, 1) := by decide +kernel
theorem dX4_readHostLabels_2 : decode cX4_readHostLabels 2 = .ok (.iload_n 2, 1) := by decide +kernel
theorem dX4_readHostLabels_3 : decode cX4_readHostLabels 3 = .ok (.iload_n 1, 1) := by decide +kernel
theorem dX4_readHostLabels_4 : decode cX4_readHostLabels 4 = .ok (.if_icmp .ge 34, 3) := by decide +kernel
theorem dX4_readHostLabels_7 : decode cX4_readHostLabels 7 = .ok (.iload_n 2, 1) := by decide +kernel
theorem dX4_readHostLabels_8 : decode cX4_readHostLabels 8 = .ok (.ifCond .le 15, 3) := by decide +kernel
theorem dX4_readHostLabels_11 : decode cX4_readHostLabels 11 = .ok (.aload_n 0, 1) := by decide +kernel
theorem dX4_readHostLabels_12 : decode cX4_readHostLabels 12 = .ok (.bipush 46, 2) := by decide +kernel
theorem dX4_readHostLabels_14 : decode cX4_readHostLabels 14 = .ok (.invokevirtual 66, 3) := by decide +kernel
theorem dX4_readHostLabels_17 : decode cX4_readHostLabels 17 = .ok (.ifCond .ne 6, 3) := by decide +kernel
theorem dX4_readHostLabels_20 : decode cX4_readHostLabels 20 = .ok (.goto 18, 3) := by decide +kernel
theorem dX4_readHostLabels_23 : decode cX4_readHostLabels 23 = .ok (.aload_n 0, 1) := by decide +kernel
theorem dX4_readHostLabels_24 : decode cX4_readHostLabels 24 = .ok (.invokevirtual 89, 3) := by decide +kernel
theorem dX4_readHostLabels_27 : decode cX4_readHostLabels 27 = .ok (.ifCond .ne 5, 3) := by decide +kernel
theorem dX4_readHostLabels_30 : decode cX4_readHostLabels 30 = .ok (.iconst 0, 1) := by decide +kernel
theorem dX4_readHostLabels_31 : decode cX4_readHostLabels 31 = .ok (.ireturn, 1) := by decide +kernel
theorem dX4_readHostLabels_32 : decode cX4_readHostLabels 32 = .ok (.iinc 2 1, 3) := by decide +kernel
theorem dX4_readHostLabels_35 : decode cX4_readHostLabels 35 = .ok (.goto (-33), 3) := by decide +kernel
theorem dX4_readHostLabels_38 : decode cX4_readHostLabels 38 = .ok (.aload_n 0, 1) := by decide +kernel
theorem dX4_readHostLabels_39 : decode cX4_readHostLabels 39 = .ok (.getfield 18, 3) := by decide +kernel
theorem dX4_readHostLabels_42 : decode cX4_readHostLabels 42 = .ok (.invokevirtual 96, 3) := by decide +kernel
theorem dX4_readHostLabels_45 : decode cX4_readHostLabels 45 = .ok (.pop, 1) := by decide +kernel
theorem dX4_readHostLabels_46 : decode cX4_readHostLabels 46 = .ok (.iconst 1, 1) := by decide +kernel
theorem dX4_readHostLabels_47 : decode cX4_readHostLabels 47 = .ok (.ireturn, 1) := by decide +kernel
theorem dX4_readName_0 : decode cX4_readName 0 = .ok (.iconst 0, 1) := by decide +kernel
theorem dX4_readName_1 : decode cX4_readName 1 = .ok (.istore_n 1, 1) := by decide +kernel
theorem dX4_readName_2 : decode cX4_readName 2 = .ok (.iload_n 1, 1) := by decide +kernel
theorem dX4_readName_3 : decode cX4_readName 3 = .ok (.iconst 3, 1) := by decide +kernel
theorem dX4_readName_4 : decode cX4_readName 4 = .ok (.if_icmp .ge 45, 3) := by decide +kernel
theorem dX4_readName_7 : decode cX4_readName 7 = .ok (.iload_n 1, 1) := by decide +kernel
theorem dX4_readName_8 : decode cX4_readName 8 = .ok (.ifCond .le 14, 3) := by decide +kernel
theorem dX4_readName_11 : decode cX4_readName 11 = .ok (.aload_n 0, 1) := by decide +kernel
theorem dX4_readName_12 : decode cX4_readName 12 = .ok (.bipush 46, 2) := by decide +kernel
theorem dX4_readName_14 : decode cX4_readName 14 = .ok (.invokevirtual 66, 3) := by decide +kernel
theorem dX4_readName_17 : decode cX4_readName 17 = .ok (.ifCond .ne 5, 3) := by decide +kernel
theorem dX4_readName_20 : decode cX4_readName 20 = .ok (.iconst 1, 1) := by decide +kernel
theorem dX4_readName_21 : decode cX4_readName 21 = .ok (.ireturn, 1) := by decide +kernel
theorem dX4_readName_22 : decode cX4_readName 22 = .ok (.aload_n 0, 1) := by decide +kernel
theorem dX4_readName_23 : decode cX4_readName 23 = .ok (.bipush 42, 2) := by decide +kernel
theorem dX4_readName_25 : decode cX4_readName 25 = .ok (.iconst 2, 1) := by decide +kernel
theorem dX4_readName_26 : decode cX4_readName 26 = .ok (.invokevirtual 85, 3) := by decide +kernel
theorem dX4_readName_29 : decode cX4_readName 29 = .ok (.ifCond .eq 5, 3) := by decide +kernel
theorem dX4_readName_32 : decode cX4_readName 32 = .ok (.iconst 1, 1) := by decide +kernel
theorem dX4_readName_33 : decode cX4_readName 33 = .ok (.ireturn, 1) := by decide +kernel
theorem dX4_readName_34 : decode cX4_readName 34 = .ok (.aload_n 0, 1) := by decide +kernel
theorem dX4_readName_35 : decode cX4_readName 35 = .ok (.invokevirtual 89, 3) := by decide +kernel
theorem dX4_readName_38 : decode cX4_readName 38 = .ok (.ifCond .ne 5, 3) := by decide +kernel
theorem dX4_readName_41 : decode cX4_readName 41 = .ok (.iconst 0, 1) := by decide +kernel
theorem dX4_readName_42 : decode cX4_readName 42 = .ok (.ireturn, 1) := by decide +kernel
theorem dX4_readName_43 : decode cX4_readName 43 = .ok (.iinc 1 1, 3) := by decide +kernel
theorem dX4_readName_46 : decode cX4_readName 46 = .ok (.goto (-44), 3) := by decide +kernel
theorem dX4_readName_49 : decode cX4_readName 49 = .ok (.iconst 1, 1) := by decide +kernel
theorem dX4_readName_50 : decode cX4_readName 50 = .ok (.ireturn, 1) := by decide +kernel
theorem dX4_readLabel_0 : decode cX4_readLabel 0 = .ok (.aload_n 0, 1) := by decide +kernel
theorem dX4_readLabel_1 : decode cX4_readLabel 1 = .ok (.invokevirtual 62, 3) := by decide +kernel
theorem dX4_readLabel_4 : decode cX4_readLabel 4 = .ok (.istore_n 1, 1) := by decide +kernel
theorem dX4_readLabel_5 : decode cX4_readLabel 5 = .ok (.iload_n 1, 1) := by decide +kernel
theorem dX4_readLabel_6 : decode cX4_readLabel 6 = .ok (.bipush 97, 2) := by decide +kernel
theorem dX4_readLabel_8 : decode cX4_readLabel 8 = .ok (.if_icmp .lt 9, 3) := by decide +kernel
theorem dX4_readLabel_11 : decode cX4_readLabel 11 = .ok (.iload_n 1, 1) := by decide +kernel
theorem dX4_readLabel_12 : decode cX4_readLabel 12 = .ok (.bipush 105, 2) := by decide +kernel
theorem dX4_readLabel_14 : decode cX4_readLabel 14 = .ok (.if_icmp .le 5, 3) := by decide +kernel
theorem dX4_readLabel_17 : decode cX4_readLabel 17 = .ok (.iconst 0, 1) := by decide +kernel
theorem dX4_readLabel_18 : decode cX4_readLabel 18 = .ok (.ireturn, 1) := by decide +kernel
theorem dX4_readLabel_19 : decode cX4_readLabel 19 = .ok (.aload_n 0, 1) := by decide +kernel
theorem dX4_readLabel_20 : decode cX4_readLabel 20 = .ok (.getfield 18, 3) := by decide +kernel
theorem dX4_readLabel_23 : decode cX4_readLabel 23 = .ok (.iload_n 1, 1) := by decide +kernel
theorem dX4_readLabel_24 : decode cX4_readLabel 24 = .ok (.invokevirtual 100, 3) := by decide +kernel
theorem dX4_readLabel_27 : decode cX4_readLabel 27 = .ok (.pop, 1) := by decide +kernel
theorem dX4_readLabel_28 : decode cX4_readLabel 28 = .ok (.aload_n 0, 1) := by decide +kernel
theorem dX4_readLabel_29 : decode cX4_readLabel 29 = .ok (.dup, 1) := by decide +kernel
theorem dX4_readLabel_30 : decode cX4_readLabel 30 = .ok (.getfield 36, 3) := by decide +kernel
theorem dX4_readLabel_33 : decode cX4_readLabel 33 = .ok (.iconst 1, 1) := by decide +kernel
theorem dX4_readLabel_34 : decode cX4_readLabel 34 = .ok (.iadd, 1) := by decide +kernel
theorem dX4_readLabel_35 : decode cX4_readLabel 35 = .ok (.putfield 36, 3) := by decide +kernel
theorem dX4_readLabel_38 : decode cX4_readLabel 38 = .ok (.iconst 1, 1) := by decide +kernel
theorem dX4_readLabel_39 : decode cX4_readLabel 39 = .ok (.ireturn, 1) := by decide +kernel
theorem dX4_readLetters_0 : decode cX4_readLetters 0 = .ok (.iconst 0, 1) := by decide +kernel
theorem dX4_readLetters_1 : decode cX4_readLetters 1 = .ok (.istore_n 1, 1) := by decide +kernel
theorem dX4_readLetters_2 : decode cX4_readLetters 2 = .ok (.iload_n 1, 1) := by decide +kernel
theorem dX4_readLetters_3 : decode cX4_readLetters 3 = .ok (.ldc 104, 2) := by decide +kernel
theorem dX4_readLetters_5 : decode cX4_readLetters 5 = .ok (.invokevirtual 39, 3) := by decide +kernel
theorem dX4_readLetters_8 : decode cX4_readLetters 8 = .ok (.if_icmp .ge 60, 3) := by decide +kernel
theorem dX4_readLetters_11 : decode cX4_readLetters 11 = .ok (.ldc 104, 2) := by decide +kernel
theorem dX4_readLetters_13 : decode cX4_readLetters 13 = .ok (.aload_n 0, 1) := by decide +kernel
theorem dX4_readLetters_14 : decode cX4_readLetters 14 = .ok (.invokevirtual 62, 3) := by decide +kernel
theorem dX4_readLetters_17 : decode cX4_readLetters 17 = .ok (.invokevirtual 106, 3) := by decide +kernel
theorem dX4_readLetters_20 : decode cX4_readLetters 20 = .ok (.istore_n 2, 1) := by decide +kernel
theorem dX4_readLetters_21 : decode cX4_readLetters 21 = .ok (.iload_n 2, 1) := by decide +kernel
theorem dX4_readLetters_22 : decode cX4_readLetters 22 = .ok (.ifCond .lt 46, 3) := by decide +kernel
theorem dX4_readLetters_25 : decode cX4_readLetters 25 = .ok (.aload_n 0, 1) := by decide +kernel
theorem dX4_readLetters_26 : decode cX4_readLetters 26 = .ok (.getfield 56, 3) := by decide +kernel
theorem dX4_readLetters_29 : decode cX4_readLetters 29 = .ok (.iload_n 2, 1) := by decide +kernel
theorem dX4_readLetters_30 : decode cX4_readLetters 30 = .ok (.ishr, 1) := by decide +kernel
theorem dX4_readLetters_31 : decode cX4_readLetters 31 = .ok (.iconst 1, 1) := by decide +kernel
theorem dX4_readLetters_32 : decode cX4_readLetters 32 = .ok (.iand, 1) := by decide +kernel
theorem dX4_readLetters_33 : decode cX4_readLetters 33 = .ok (.iconst 1, 1) := by decide +kernel
theorem dX4_readLetters_34 : decode cX4_readLetters 34 = .ok (.if_icmp .ne 6, 3) := by decide +kernel
theorem dX4_readLetters_37 : decode cX4_readLetters 37 = .ok (.goto 31, 3) := by decide +kernel
theorem dX4_readLetters_40 : decode cX4_readLetters 40 = .ok (.aload_n 0, 1) := by decide +kernel
theorem dX4_readLetters_41 : decode cX4_readLetters 41 = .ok (.dup, 1) := by decide +kernel
theorem dX4_readLetters_42 : decode cX4_readLetters 42 = .ok (.getfield 56, 3) := by decide +kernel
theorem dX4_readLetters_45 : decode cX4_readLetters 45 = .ok (.iconst 1, 1) := by decide +kernel
theorem dX4_readLetters_46 : decode cX4_readLetters 46 = .ok (.iload_n 2, 1) := by decide +kernel
theorem dX4_readLetters_47 : decode cX4_readLetters 47 = .ok (.ishl, 1) := by decide +kernel
theorem dX4_readLetters_48 : decode cX4_readLetters 48 = .ok (.ior, 1) := by decide +kernel
theorem dX4_readLetters_49 : decode cX4_readLetters 49 = .ok (.putfield 56, 3) := by decide +kernel
theorem dX4_readLetters_52 : decode cX4_readLetters 52 = .ok (.aload_n 0, 1) := by decide +kernel
theorem dX4_readLetters_53 : decode cX4_readLetters 53 = .ok (.dup, 1) := by decide +kernel
theorem dX4_readLetters_54 : decode cX4_readLetters 54 = .ok (.getfield 36, 3) := by decide +kernel
theorem dX4_readLetters_57 : decode cX4_readLetters 57 = .ok (.iconst 1, 1) := by decide +kernel
theorem dX4_readLetters_58 : decode cX4_readLetters 58 = .ok (.iadd, 1) := by decide +kernel
theorem dX4_readLetters_59 : decode cX4_readLetters 59 = .ok (.putfield 36, 3) := by decide +kernel
theorem dX4_readLetters_62 : decode cX4_readLetters 62 = .ok (.iinc 1 1, 3) := by decide +kernel
theorem dX4_readLetters_65 : decode cX4_readLetters 65 = .ok (.goto (-63), 3) := by decide +kernel
theorem dX4_readLetters_68 : decode cX4_readLetters 68 = .ok (.aload_n 0, 1) := by decide +kernel
theorem dX4_readLetters_69 : decode cX4_readLetters 69 = .ok (.getfield 56, 3) := by decide +kernel
theorem dX4_readLetters_72 : decode cX4_readLetters 72 = .ok (.ifCond .eq 7, 3) := by decide +kernel
theorem dX4_readLetters_75 : decode cX4_readLetters 75 = .ok (.iconst 1, 1) := by decide +kernel
theorem dX4_readLetters_76 : decode cX4_readLetters 76 = .ok (.goto 4, 3) := by decide +kernel
theorem dX4_readLetters_79 : decode cX4_readLetters 79 = .ok (.iconst 0, 1) := by decide +kernel
theorem dX4_readLetters_80 : decode cX4_readLetters 80 = .ok (.ireturn, 1) := by decide +kernel
theorem dX4_readRange_0 : decode cX4_readRange 0 = .ok (.aload_n 0, 1) := by decide +kernel
theorem dX4_readRange_1 : decode cX4_readRange 1 = .ok (.iconst 0, 1) := by decide +kernel
theorem dX4_readRange_2 : decode cX4_readRange 2 = .ok (.invokevirtual 110, 3) := by decide +kernel
theorem dX4_readRange_5 : decode cX4_readRange 5 = .ok (.istore_n 1, 1) := by decide +kernel
theorem dX4_readRange_6 : decode cX4_readRange 6 = .ok (.aload_n 0, 1) := by decide +kernel
theorem dX4_readRange_7 : decode cX4_readRange 7 = .ok (.bipush 45, 2) := by decide +kernel
theorem dX4_readRange_9 : decode cX4_readRange 9 = .ok (.invokevirtual 66, 3) := by decide +kernel
theorem dX4_readRange_12 : decode cX4_readRange 12 = .ok (.ifCond .eq 15, 3) := by decide +kernel
theorem dX4_readRange_15 : decode cX4_readRange 15 = .ok (.aload_n 0, 1) := by decide +kernel
theorem dX4_readRange_16 : decode cX4_readRange 16 = .ok (.iload_n 1, 1) := by decide +kernel
theorem dX4_readRange_17 : decode cX4_readRange 17 = .ok (.iconst 0, 1) := by decide +kernel
theorem dX4_readRange_18 : decode cX4_readRange 18 = .ok (.invokestatic 113, 3) := by decide +kernel
theorem dX4_readRange_21 : decode cX4_readRange 21 = .ok (.invokevirtual 110, 3) := by decide +kernel
theorem dX4_readRange_24 : decode cX4_readRange 24 = .ok (.goto 4, 3) := by decide +kernel
theorem dX4_readRange_27 : decode cX4_readRange 27 = .ok (.iload_n 1, 1) := by decide +kernel
theorem dX4_readRange_28 : decode cX4_readRange 28 = .ok (.istore_n 2, 1) := by decide +kernel
theorem dX4_readRange_29 : decode cX4_readRange 29 = .ok (.iload_n 1, 1) := by decide +kernel
theorem dX4_readRange_30 : decode cX4_readRange 30 = .ok (.iconst (-1), 1) := by decide +kernel
theorem dX4_readRange_31 : decode cX4_readRange 31 = .ok (.if_icmp .ne 10, 3) := by decide +kernel
theorem dX4_readRange_34 : decode cX4_readRange 34 = .ok (.iload_n 2, 1) := by decide +kernel
theorem dX4_readRange_35 : decode cX4_readRange 35 = .ok (.iconst (-1), 1) := by decide +kernel
theorem dX4_readRange_36 : decode cX4_readRange 36 = .ok (.if_icmp .ne 5, 3) := by decide +kernel
theorem dX4_readRange_39 : decode cX4_readRange 39 = .ok (.iconst 0, 1) := by decide +kernel
theorem dX4_readRange_40 : decode cX4_readRange 40 = .ok (.ireturn, 1) := by decide +kernel
theorem dX4_readRange_41 : decode cX4_readRange 41 = .ok (.aload_n 0, 1) := by decide +kernel
theorem dX4_readRange_42 : decode cX4_readRange 42 = .ok (.iload_n 1, 1) := by decide +kernel
theorem dX4_readRange_43 : decode cX4_readRange 43 = .ok (.iconst (-1), 1) := by decide +kernel
theorem dX4_readRange_44 : decode cX4_readRange 44 = .ok (.if_icmp .ne 7, 3) := by decide +kernel
theorem dX4_readRange_47 : decode cX4_readRange 47 = .ok (.iconst 0, 1) := by decide +kernel
theorem dX4_readRange_48 : decode cX4_readRange 48 = .ok (.goto 4, 3) := by decide +kernel
theorem dX4_readRange_51 : decode cX4_readRange 51 = .ok (.iload_n 1, 1) := by decide +kernel
theorem dX4_readRange_52 : decode cX4_readRange 52 = .ok (.putfield 119, 3) := by decide +kernel
theorem dX4_readRange_55 : decode cX4_readRange 55 = .ok (.aload_n 0, 1) := by decide +kernel
theorem dX4_readRange_56 : decode cX4_readRange 56 = .ok (.iload_n 2, 1) := by decide +kernel
theorem dX4_readRange_57 : decode cX4_readRange 57 = .ok (.iconst (-1), 1) := by decide +kernel
theorem dX4_readRange_58 : decode cX4_readRange 58 = .ok (.if_icmp .ne 8, 3) := by decide +kernel
theorem dX4_readRange_61 : decode cX4_readRange 61 = .ok (.bipush 9, 2) := by decide +kernel
theorem dX4_readRange_63 : decode cX4_readRange 63 = .ok (.goto 4, 3) := by decide +kernel
theorem dX4_readRange_66 : decode cX4_readRange 66 = .ok (.iload_n 2, 1) := by decide +kernel
theorem dX4_readRange_67 : decode cX4_readRange 67 = .ok (.putfield 122, 3) := by decide +kernel
theorem dX4_readRange_70 : decode cX4_readRange 70 = .ok (.aload_n 0, 1) := by decide +kernel
theorem dX4_readRange_71 : decode cX4_readRange 71 = .ok (.iconst 2, 1) := by decide +kernel
theorem dX4_readRange_72 : decode cX4_readRange 72 = .ok (.aload_n 0, 1) := by decide +kernel
theorem dX4_readRange_73 : decode cX4_readRange 73 = .ok (.getfield 122, 3) := by decide +kernel
theorem dX4_readRange_76 : decode cX4_readRange 76 = .ok (.ishl, 1) := by decide +kernel
theorem dX4_readRange_77 : decode cX4_readRange 77 = .ok (.iconst 1, 1) := by decide +kernel
theorem dX4_readRange_78 : decode cX4_readRange 78 = .ok (.aload_n 0, 1) := by decide +kernel
theorem dX4_readRange_79 : decode cX4_readRange 79 = .ok (.getfield 119, 3) := by decide +kernel
theorem dX4_readRange_82 : decode cX4_readRange 82 = .ok (.ishl, 1) := by decide +kernel
theorem dX4_readRange_83 : decode cX4_readRange 83 = .ok (.isub, 1) := by decide +kernel
theorem dX4_readRange_84 : decode cX4_readRange 84 = .ok (.putfield 56, 3) := by decide +kernel
theorem dX4_readRange_87 : decode cX4_readRange 87 = .ok (.iconst 1, 1) := by decide +kernel
theorem dX4_readRange_88 : decode cX4_readRange 88 = .ok (.ireturn, 1) := by decide +kernel
theorem dX4_readDigit_0 : decode cX4_readDigit 0 = .ok (.aload_n 0, 1) := by decide +kernel
theorem dX4_readDigit_1 : decode cX4_readDigit 1 = .ok (.invokevirtual 62, 3) := by decide +kernel
theorem dX4_readDigit_4 : decode cX4_readDigit 4 = .ok (.bipush 48, 2) := by decide +kernel
theorem dX4_readDigit_6 : decode cX4_readDigit 6 = .ok (.isub, 1) := by decide +kernel
theorem dX4_readDigit_7 : decode cX4_readDigit 7 = .ok (.istore_n 2, 1) := by decide +kernel
theorem dX4_readDigit_8 : decode cX4_readDigit 8 = .ok (.iload_n 2, 1) := by decide +kernel
theorem dX4_readDigit_9 : decode cX4_readDigit 9 = .ok (.iload_n 1, 1) := by decide +kernel
theorem dX4_readDigit_10 : decode cX4_readDigit 10 = .ok (.if_icmp .lt 9, 3) := by decide +kernel
theorem dX4_readDigit_13 : decode cX4_readDigit 13 = .ok (.iload_n 2, 1) := by decide +kernel
theorem dX4_readDigit_14 : decode cX4_readDigit 14 = .ok (.bipush 9, 2) := by decide +kernel
theorem dX4_readDigit_16 : decode cX4_readDigit 16 = .ok (.if_icmp .le 5, 3) := by decide +kernel
theorem dX4_readDigit_19 : decode cX4_readDigit 19 = .ok (.iconst (-1), 1) := by decide +kernel
theorem dX4_readDigit_20 : decode cX4_readDigit 20 = .ok (.ireturn, 1) := by decide +kernel
theorem dX4_readDigit_21 : decode cX4_readDigit 21 = .ok (.aload_n 0, 1) := by decide +kernel
theorem dX4_readDigit_22 : decode cX4_readDigit 22 = .ok (.dup, 1) := by decide +kernel
theorem dX4_readDigit_23 : decode cX4_readDigit 23 = .ok (.getfield 36, 3) := by decide +kernel
theorem dX4_readDigit_26 : decode cX4_readDigit 26 = .ok (.iconst 1, 1) := by decide +kernel
theorem dX4_readDigit_27 : decode cX4_readDigit 27 = .ok (.iadd, 1) := by decide +kernel
theorem dX4_readDigit_28 : decode cX4_readDigit 28 = .ok (.putfield 36, 3) := by decide +kernel
theorem dX4_readDigit_31 : decode cX4_readDigit 31 = .ok (.iload_n 2, 1) := by decide +kernel
theorem dX4_readDigit_32 : decode cX4_readDigit 32 = .ok (.ireturn, 1) := by decide +kernel
theorem dX4_acceptWildcard_0 : decode cX4_acceptWildcard 0 = .ok (.aload_n 0, 1) := by decide +kernel
theorem dX4_acceptWildcard_1 : decode cX4_acceptWildcard 1 = .ok (.iload_n 1, 1) := by decide +kernel
theorem dX4_acceptWildcard_2 : decode cX4_acceptWildcard 2 = .ok (.invokevirtual 66, 3) := by decide +kernel
theorem dX4_acceptWildcard_5 : decode cX4_acceptWildcard 5 = .ok (.ifCond .ne 5, 3) := by decide +kernel
theorem dX4_acceptWildcard_8 : decode cX4_acceptWildcard 8 = .ok (.iconst 0, 1) := by decide +kernel
theorem dX4_acceptWildcard_9 : decode cX4_acceptWildcard 9 = .ok (.ireturn, 1) := by decide +kernel
theorem dX4_acceptWildcard_10 : decode cX4_acceptWildcard 10 = .ok (.aload_n 0, 1) := by decide +kernel
theorem dX4_acceptWildcard_11 : decode cX4_acceptWildcard 11 = .ok (.iload_n 2, 1) := by decide +kernel
theorem dX4_acceptWildcard_12 : decode cX4_acceptWildcard 12 = .ok (.putfield 24, 3) := by decide +kernel
theorem dX4_acceptWildcard_15 : decode cX4_acceptWildcard 15 = .ok (.iconst 1, 1) := by decide +kernel
theorem dX4_acceptWildcard_16 : decode cX4_acceptWildcard 16 = .ok (.ireturn, 1) := by decide +kernel
theorem dX4_accept_0 : decode cX4_accept 0 = .ok (.aload_n 0, 1) := by decide +kernel
theorem dX4_accept_1 : decode cX4_accept 1 = .ok (.invokevirtual 62, 3) := by decide +kernel
theorem dX4_accept_4 : decode cX4_accept 4 = .ok (.iload_n 1, 1) := by decide +kernel
theorem dX4_accept_5 : decode cX4_accept 5 = .ok (.if_icmp .eq 5, 3) := by decide +kernel
theorem dX4_accept_8 : decode cX4_accept 8 = .ok (.iconst 0, 1) := by decide +kernel
theorem dX4_accept_9 : decode cX4_accept 9 = .ok (.ireturn, 1) := by decide +kernel
theorem dX4_accept_10 : decode cX4_accept 10 = .ok (.aload_n 0, 1) := by decide +kernel
theorem dX4_accept_11 : decode cX4_accept 11 = .ok (.dup, 1) := by decide +kernel
theorem dX4_accept_12 : decode cX4_accept 12 = .ok (.getfield 36, 3) := by decide +kernel
theorem dX4_accept_15 : decode cX4_accept 15 = .ok (.iconst 1, 1) := by decide +kernel
theorem dX4_accept_16 : decode cX4_accept 16 = .ok (.iadd, 1) := by decide +kernel
theorem dX4_accept_17 : decode cX4_accept 17 = .ok (.putfield 36, 3) := by decide +kernel
theorem dX4_accept_20 : decode cX4_accept 20 = .ok (.iconst 1, 1) := by decide +kernel
theorem dX4_accept_21 : decode cX4_accept 21 = .ok (.ireturn, 1) := by decide +kernel
theorem dX4_next_0 : decode cX4_next 0 = .ok (.aload_n 0, 1) := by decide +kernel
theorem dX4_next_1 : decode cX4_next 1 = .ok (.getfield 36, 3) := by decide +kernel
theorem dX4_next_4 : decode cX4_next 4 = .ok (.aload_n 0, 1) := by decide +kernel
theorem dX4_next_5 : decode cX4_next 5 = .ok (.getfield 28, 3) := by decide +kernel
theorem dX4_next_8 : decode cX4_next 8 = .ok (.invokevirtual 39, 3) := by decide +kernel
theorem dX4_next_11 : decode cX4_next 11 = .ok (.if_icmp .ge 17, 3) := by decide +kernel
theorem dX4_next_14 : decode cX4_next 14 = .ok (.aload_n 0, 1) := by decide +kernel
theorem dX4_next_15 : decode cX4_next 15 = .ok (.getfield 28, 3) := by decide +kernel
theorem dX4_next_18 : decode cX4_next 18 = .ok (.aload_n 0, 1) := by decide +kernel
theorem dX4_next_19 : decode cX4_next 19 = .ok (.getfield 36, 3) := by decide +kernel
theorem dX4_next_22 : decode cX4_next 22 = .ok (.invokevirtual 125, 3) := by decide +kernel
theorem dX4_next_25 : decode cX4_next 25 = .ok (.goto 4, 3) := by decide +kernel
theorem dX4_next_28 : decode cX4_next 28 = .ok (.iconst 0, 1) := by decide +kernel
theorem dX4_next_29 : decode cX4_next 29 = .ok (.ireturn, 1) := by decide +kernel
theorem dX4_writtenText_0 : decode cX4_writtenText 0 = .ok (.aload_n 0, 1) := by decide +kernel
theorem dX4_writtenText_1 : decode cX4_writtenText 1 = .ok (.getfield 28, 3) := by decide +kernel
theorem dX4_writtenText_4 : decode cX4_writtenText 4 = .ok (.bipush 58, 2) := by decide +kernel
theorem dX4_writtenText_6 : decode cX4_writtenText 6 = .ok (.invokevirtual 106, 3) := by decide +kernel
theorem dX4_writtenText_9 : decode cX4_writtenText 9 = .ok (.istore_n 1, 1) := by decide +kernel
theorem dX4_writtenText_10 : decode cX4_writtenText 10 = .ok (.iload_n 1, 1) := by decide +kernel
theorem dX4_writtenText_11 : decode cX4_writtenText 11 = .ok (.ifCond .ge 8, 3) := by decide +kernel
theorem dX4_writtenText_14 : decode cX4_writtenText 14 = .ok (.aload_n 0, 1) := by decide +kernel
theorem dX4_writtenText_15 : decode cX4_writtenText 15 = .ok (.getfield 28, 3) := by decide +kernel
theorem dX4_writtenText_18 : decode cX4_writtenText 18 = .ok (.areturn, 1) := by decide +kernel
theorem dX4_writtenText_19 : decode cX4_writtenText 19 = .ok (.aload_n 0, 1) := by decide +kernel
theorem dX4_writtenText_20 : decode cX4_writtenText 20 = .ok (.getfield 18, 3) := by decide +kernel
theorem dX4_writtenText_23 : decode cX4_writtenText 23 = .ok (.aload_n 0, 1) := by decide +kernel
theorem dX4_writtenText_24 : decode cX4_writtenText 24 = .ok (.getfield 28, 3) := by decide +kernel
theorem dX4_writtenText_27 : decode cX4_writtenText 27 = .ok (.iconst 0, 1) := by decide +kernel
theorem dX4_writtenText_28 : decode cX4_writtenText 28 = .ok (.iload_n 1, 1) := by decide +kernel
theorem dX4_writtenText_29 : decode cX4_writtenText 29 = .ok (.iconst 1, 1) := by decide +kernel
theorem dX4_writtenText_30 : decode cX4_writtenText 30 = .ok (.iadd, 1) := by decide +kernel
theorem dX4_writtenText_31 : decode cX4_writtenText 31 = .ok (.invokevirtual 129, 3) := by decide +kernel
theorem dX4_writtenText_34 : decode cX4_writtenText 34 = .ok (.invokevirtual 133, 3) := by decide +kernel
theorem dX4_writtenText_37 : decode cX4_writtenText 37 = .ok (.pop, 1) := by decide +kernel
theorem dX4_writtenText_38 : decode cX4_writtenText 38 = .ok (.aload_n 0, 1) := by decide +kernel
theorem dX4_writtenText_39 : decode cX4_writtenText 39 = .ok (.getfield 11, 3) := by decide +kernel
theorem dX4_writtenText_42 : decode cX4_writtenText 42 = .ok (.bipush 102, 2) := by decide +kernel
theorem dX4_writtenText_44 : decode cX4_writtenText 44 = .ok (.if_icmp .ne 10, 3) := by decide +kernel
theorem dX4_writtenText_47 : decode cX4_writtenText 47 = .ok (.aload_n 0, 1) := by decide +kernel
theorem dX4_writtenText_48 : decode cX4_writtenText 48 = .ok (.invokevirtual 136, 3) := by decide +kernel
theorem dX4_writtenText_51 : decode cX4_writtenText 51 = .ok (.goto 7, 3) := by decide +kernel
theorem dX4_writtenText_54 : decode cX4_writtenText 54 = .ok (.aload_n 0, 1) := by decide +kernel
theorem dX4_writtenText_55 : decode cX4_writtenText 55 = .ok (.invokevirtual 139, 3) := by decide +kernel
theorem dX4_writtenText_58 : decode cX4_writtenText 58 = .ok (.aload_n 0, 1) := by decide +kernel
theorem dX4_writtenText_59 : decode cX4_writtenText 59 = .ok (.getfield 18, 3) := by decide +kernel
theorem dX4_writtenText_62 : decode cX4_writtenText 62 = .ok (.invokevirtual 45, 3) := by decide +kernel
theorem dX4_writtenText_65 : decode cX4_writtenText 65 = .ok (.areturn, 1) := by decide +kernel
theorem dX4_appendLetters_0 : decode cX4_appendLetters 0 = .ok (.iconst 0, 1) := by decide +kernel
theorem dX4_appendLetters_1 : decode cX4_appendLetters 1 = .ok (.istore_n 1, 1) := by decide +kernel
theorem dX4_appendLetters_2 : decode cX4_appendLetters 2 = .ok (.iload_n 1, 1) := by decide +kernel
theorem dX4_appendLetters_3 : decode cX4_appendLetters 3 = .ok (.ldc 104, 2) := by decide +kernel
theorem dX4_appendLetters_5 : decode cX4_appendLetters 5 = .ok (.invokevirtual 39, 3) := by decide +kernel
theorem dX4_appendLetters_8 : decode cX4_appendLetters 8 = .ok (.if_icmp .ge 35, 3) := by decide +kernel
theorem dX4_appendLetters_11 : decode cX4_appendLetters 11 = .ok (.aload_n 0, 1) := by decide +kernel
theorem dX4_appendLetters_12 : decode cX4_appendLetters 12 = .ok (.getfield 56, 3) := by decide +kernel
theorem dX4_appendLetters_15 : decode cX4_appendLetters 15 = .ok (.iload_n 1, 1) := by decide +kernel
theorem dX4_appendLetters_16 : decode cX4_appendLetters 16 = .ok (.ishr, 1) := by decide +kernel
theorem dX4_appendLetters_17 : decode cX4_appendLetters 17 = .ok (.iconst 1, 1) := by decide +kernel
theorem dX4_appendLetters_18 : decode cX4_appendLetters 18 = .ok (.iand, 1) := by decide +kernel
theorem dX4_appendLetters_19 : decode cX4_appendLetters 19 = .ok (.iconst 1, 1) := by decide +kernel
theorem dX4_appendLetters_20 : decode cX4_appendLetters 20 = .ok (.if_icmp .ne 17, 3) := by decide +kernel
theorem dX4_appendLetters_23 : decode cX4_appendLetters 23 = .ok (.aload_n 0, 1) := by decide +kernel
theorem dX4_appendLetters_24 : decode cX4_appendLetters 24 = .ok (.getfield 18, 3) := by decide +kernel
theorem dX4_appendLetters_27 : decode cX4_appendLetters 27 = .ok (.ldc 104, 2) := by decide +kernel
theorem dX4_appendLetters_29 : decode cX4_appendLetters 29 = .ok (.iload_n 1, 1) := by decide +kernel
theorem dX4_appendLetters_30 : decode cX4_appendLetters 30 = .ok (.invokevirtual 125, 3) := by decide +kernel
theorem dX4_appendLetters_33 : decode cX4_appendLetters 33 = .ok (.invokevirtual 100, 3) := by decide +kernel
theorem dX4_appendLetters_36 : decode cX4_appendLetters 36 = .ok (.pop, 1) := by decide +kernel
theorem dX4_appendLetters_37 : decode cX4_appendLetters 37 = .ok (.iinc 1 1, 3) := by decide +kernel
theorem dX4_appendLetters_40 : decode cX4_appendLetters 40 = .ok (.goto (-38), 3) := by decide +kernel
theorem dX4_appendLetters_43 : decode cX4_appendLetters 43 = .ok (.return_, 1) := by decide +kernel
theorem dX4_appendRange_0 : decode cX4_appendRange 0 = .ok (.aload_n 0, 1) := by decide +kernel
theorem dX4_appendRange_1 : decode cX4_appendRange 1 = .ok (.getfield 18, 3) := by decide +kernel
theorem dX4_appendRange_4 : decode cX4_appendRange 4 = .ok (.aload_n 0, 1) := by decide +kernel
theorem dX4_appendRange_5 : decode cX4_appendRange 5 = .ok (.getfield 119, 3) := by decide +kernel
theorem dX4_appendRange_8 : decode cX4_appendRange 8 = .ok (.invokevirtual 142, 3) := by decide +kernel
theorem dX4_appendRange_11 : decode cX4_appendRange 11 = .ok (.pop, 1) := by decide +kernel
theorem dX4_appendRange_12 : decode cX4_appendRange 12 = .ok (.aload_n 0, 1) := by decide +kernel
theorem dX4_appendRange_13 : decode cX4_appendRange 13 = .ok (.getfield 122, 3) := by decide +kernel
theorem dX4_appendRange_16 : decode cX4_appendRange 16 = .ok (.aload_n 0, 1) := by decide +kernel
theorem dX4_appendRange_17 : decode cX4_appendRange 17 = .ok (.getfield 119, 3) := by decide +kernel
theorem dX4_appendRange_20 : decode cX4_appendRange 20 = .ok (.if_icmp .le 20, 3) := by decide +kernel
theorem dX4_appendRange_23 : decode cX4_appendRange 23 = .ok (.aload_n 0, 1) := by decide +kernel
theorem dX4_appendRange_24 : decode cX4_appendRange 24 = .ok (.getfield 18, 3) := by decide +kernel
theorem dX4_appendRange_27 : decode cX4_appendRange 27 = .ok (.bipush 45, 2) := by decide +kernel
theorem dX4_appendRange_29 : decode cX4_appendRange 29 = .ok (.invokevirtual 100, 3) := by decide +kernel
theorem dX4_appendRange_32 : decode cX4_appendRange 32 = .ok (.aload_n 0, 1) := by decide +kernel
theorem dX4_appendRange_33 : decode cX4_appendRange 33 = .ok (.getfield 122, 3) := by decide +kernel
theorem dX4_appendRange_36 : decode cX4_appendRange 36 = .ok (.invokevirtual 142, 3) := by decide +kernel
theorem dX4_appendRange_39 : decode cX4_appendRange 39 = .ok (.pop, 1) := by decide +kernel
theorem dX4_appendRange_40 : decode cX4_appendRange 40 = .ok (.return_, 1) := by decide +kernel
theorem dX5_init_0 : decode cX5_init 0 = .ok (.aload_n 0, 1) := by decide +kernel
theorem dX5_init_1 : decode cX5_init 1 = .ok (.invokespecial 1, 3) := by decide +kernel
theorem dX5_init_4 : decode cX5_init 4 = .ok (.aload_n 0, 1) := by decide +kernel
theorem dX5_init_5 : decode cX5_init 5 = .ok (.new 7, 3) := by decide +kernel
theorem dX5_init_8 : decode cX5_init 8 = .ok (.dup, 1) := by decide +kernel
theorem dX5_init_9 : decode cX5_init 9 = .ok (.invokespecial 9, 3) := by decide +kernel
theorem dX5_init_12 : decode cX5_init 12 = .ok (.putfield 10, 3) := by decide +kernel
theorem dX5_init_15 : decode cX5_init 15 = .ok (.return_, 1) := by decide +kernel
theorem dX5_isGranted_0 : decode cX5_isGranted 0 = .ok (.aload_n 1, 1) := by decide +kernel
theorem dX5_isGranted_1 : decode cX5_isGranted 1 = .ok (.getfield 16, 3) := by decide +kernel
theorem dX5_isGranted_4 : decode cX5_isGranted 4 = .ok (.bipush 102, 2) := by decide +kernel
theorem dX5_isGranted_6 : decode cX5_isGranted 6 = .ok (.if_icmp .ne 7, 3) := by decide +kernel
theorem dX5_isGranted_9 : decode cX5_isGranted 9 = .ok (.iconst 1, 1) := by decide +kernel
theorem dX5_isGranted_10 : decode cX5_isGranted 10 = .ok (.goto 4, 3) := by decide +kernel
theorem dX5_isGranted_13 : decode cX5_isGranted 13 = .ok (.iconst 0, 1) := by decide +kernel
theorem dX5_isGranted_14 : decode cX5_isGranted 14 = .ok (.istore_n 2, 1) := by decide +kernel
theorem dX5_isGranted_15 : decode cX5_isGranted 15 = .ok (.aload_n 1, 1) := by decide +kernel
theorem dX5_isGranted_16 : decode cX5_isGranted 16 = .ok (.getfield 22, 3) := by decide +kernel
theorem dX5_isGranted_19 : decode cX5_isGranted 19 = .ok (.istore_n 3, 1) := by decide +kernel
theorem dX5_isGranted_20 : decode cX5_isGranted 20 = .ok (.iconst 0, 1) := by decide +kernel
theorem dX5_isGranted_21 : decode cX5_isGranted 21 = .ok (.istore 4, 2) := by decide +kernel
theorem dX5_isGranted_23 : decode cX5_isGranted 23 = .ok (.iload 4, 2) := by decide +kernel
theorem dX5_isGranted_25 : decode cX5_isGranted 25 = .ok (.aload_n 0, 1) := by decide +kernel
theorem dX5_isGranted_26 : decode cX5_isGranted 26 = .ok (.getfield 10, 3) := by decide +kernel
theorem dX5_isGranted_29 : decode cX5_isGranted 29 = .ok (.invokevirtual 26, 3) := by decide +kernel
theorem dX5_isGranted_32 : decode cX5_isGranted 32 = .ok (.if_icmp .ge 57, 3) := by decide +kernel
theorem dX5_isGranted_35 : decode cX5_isGranted 35 = .ok (.aload_n 0, 1) := by decide +kernel
theorem dX5_isGranted_36 : decode cX5_isGranted 36 = .ok (.getfield 10, 3) := by decide +kernel
theorem dX5_isGranted_39 : decode cX5_isGranted 39 = .ok (.iload 4, 2) := by decide +kernel
theorem dX5_isGranted_41 : decode cX5_isGranted 41 = .ok (.invokevirtual 30, 3) := by decide +kernel
theorem dX5_isGranted_44 : decode cX5_isGranted 44 = .ok (.checkcast 17, 3) := by decide +kernel
theorem dX5_isGranted_47 : decode cX5_isGranted 47 = .ok (.astore 5, 2) := by decide +kernel
theorem dX5_isGranted_49 : decode cX5_isGranted 49 = .ok (.aload 5, 2) := by decide +kernel
theorem dX5_isGranted_51 : decode cX5_isGranted 51 = .ok (.aload_n 1, 1) := by decide +kernel
theorem dX5_isGranted_52 : decode cX5_isGranted 52 = .ok (.invokevirtual 34, 3) := by decide +kernel
theorem dX5_isGranted_55 : decode cX5_isGranted 55 = .ok (.ifCond .eq 5, 3) := by decide +kernel
theorem dX5_isGranted_58 : decode cX5_isGranted 58 = .ok (.iconst 1, 1) := by decide +kernel
theorem dX5_isGranted_59 : decode cX5_isGranted 59 = .ok (.ireturn, 1) := by decide +kernel
theorem dX5_isGranted_60 : decode cX5_isGranted 60 = .ok (.iload_n 2, 1) := by decide +kernel
theorem dX5_isGranted_61 : decode cX5_isGranted 61 = .ok (.ifCond .eq 22, 3) := by decide +kernel
theorem dX5_isGranted_64 : decode cX5_isGranted 64 = .ok (.aload 5, 2) := by decide +kernel
theorem dX5_isGranted_66 : decode cX5_isGranted 66 = .ok (.aload_n 1, 1) := by decide +kernel
theorem dX5_isGranted_67 : decode cX5_isGranted 67 = .ok (.invokevirtual 38, 3) := by decide +kernel
theorem dX5_isGranted_70 : decode cX5_isGranted 70 = .ok (.ifCond .eq 13, 3) := by decide +kernel
theorem dX5_isGranted_73 : decode cX5_isGranted 73 = .ok (.iload_n 3, 1) := by decide +kernel
theorem dX5_isGranted_74 : decode cX5_isGranted 74 = .ok (.aload 5, 2) := by decide +kernel
theorem dX5_isGranted_76 : decode cX5_isGranted 76 = .ok (.getfield 22, 3) := by decide +kernel
theorem dX5_isGranted_79 : decode cX5_isGranted 79 = .ok (.iconst (-1), 1) := by decide +kernel
theorem dX5_isGranted_80 : decode cX5_isGranted 80 = .ok (.ixor, 1) := by decide +kernel
theorem dX5_isGranted_81 : decode cX5_isGranted 81 = .ok (.iand, 1) := by decide +kernel
theorem dX5_isGranted_82 : decode cX5_isGranted 82 = .ok (.istore_n 3, 1) := by decide +kernel
theorem dX5_isGranted_83 : decode cX5_isGranted 83 = .ok (.iinc 4 1, 3) := by decide +kernel
theorem dX5_isGranted_86 : decode cX5_isGranted 86 = .ok (.goto (-63), 3) := by decide +kernel
theorem dX5_isGranted_89 : decode cX5_isGranted 89 = .ok (.iload_n 2, 1) := by decide +kernel
theorem dX5_isGranted_90 : decode cX5_isGranted 90 = .ok (.ifCond .eq 11, 3) := by decide +kernel
theorem dX5_isGranted_93 : decode cX5_isGranted 93 = .ok (.iload_n 3, 1) := by decide +kernel
theorem dX5_isGranted_94 : decode cX5_isGranted 94 = .ok (.ifCond .ne 7, 3) := by decide +kernel
theorem dX5_isGranted_97 : decode cX5_isGranted 97 = .ok (.iconst 1, 1) := by decide +kernel
theorem dX5_isGranted_98 : decode cX5_isGranted 98 = .ok (.goto 4, 3) := by decide +kernel
theorem dX5_isGranted_101 : decode cX5_isGranted 101 = .ok (.iconst 0, 1) := by decide +kernel
theorem dX5_isGranted_102 : decode cX5_isGranted 102 = .ok (.ireturn, 1) := by decide +kernel
theorem dX5_idlePart_0 : decode cX5_idlePart 0 = .ok (.aload_n 0, 1) := by decide +kernel
theorem dX5_idlePart_1 : decode cX5_idlePart 1 = .ok (.getfield 10, 3) := by decide +kernel
theorem dX5_idlePart_4 : decode cX5_idlePart 4 = .ok (.invokevirtual 41, 3) := by decide +kernel
theorem dX5_idlePart_7 : decode cX5_idlePart 7 = .ok (.ifCond .eq 5, 3) := by decide +kernel
theorem dX5_idlePart_10 : decode cX5_idlePart 10 = .ok (.fconst 0, 1) := by decide +kernel
theorem dX5_idlePart_11 : decode cX5_idlePart 11 = .ok (.freturn, 1) := by decide +kernel
theorem dX5_idlePart_12 : decode cX5_idlePart 12 = .ok (.iconst 0, 1) := by decide +kernel
theorem dX5_idlePart_13 : decode cX5_idlePart 13 = .ok (.istore_n 1, 1) := by decide +kernel
theorem dX5_idlePart_14 : decode cX5_idlePart 14 = .ok (.iconst 0, 1) := by decide +kernel
theorem dX5_idlePart_15 : decode cX5_idlePart 15 = .ok (.istore_n 2, 1) := by decide +kernel
theorem dX5_idlePart_16 : decode cX5_idlePart 16 = .ok (.iload_n 2, 1) := by decide +kernel
theorem dX5_idlePart_17 : decode cX5_idlePart 17 = .ok (.aload_n 0, 1) := by decide +kernel
theorem dX5_idlePart_18 : decode cX5_idlePart 18 = .ok (.getfield 10, 3) := by decide +kernel
theorem dX5_idlePart_21 : decode cX5_idlePart 21 = .ok (.invokevirtual 26, 3) := by decide +kernel
theorem dX5_idlePart_24 : decode cX5_idlePart 24 = .ok (.if_icmp .ge 20, 3) := by decide +kernel
theorem dX5_idlePart_27 : decode cX5_idlePart 27 = .ok (.aload_n 0, 1) := by decide +kernel
theorem dX5_idlePart_28 : decode cX5_idlePart 28 = .ok (.iload_n 2, 1) := by decide +kernel
theorem dX5_idlePart_29 : decode cX5_idlePart 29 = .ok (.invokevirtual 45, 3) := by decide +kernel
theorem dX5_idlePart_32 : decode cX5_idlePart 32 = .ok (.ifCond .eq 6, 3) := by decide +kernel
theorem dX5_idlePart_35 : decode cX5_idlePart 35 = .ok (.iinc 1 1, 3) := by decide +kernel
theorem dX5_idlePart_38 : decode cX5_idlePart 38 = .ok (.iinc 2 1, 3) := by decide +kernel
theorem dX5_idlePart_41 : decode cX5_idlePart 41 = .ok (.goto (-25), 3) := by decide +kernel
theorem dX5_idlePart_44 : decode cX5_idlePart 44 = .ok (.iload_n 1, 1) := by decide +kernel
theorem dX5_idlePart_45 : decode cX5_idlePart 45 = .ok (.i2f, 1) := by decide +kernel
theorem dX5_idlePart_46 : decode cX5_idlePart 46 = .ok (.aload_n 0, 1) := by decide +kernel
theorem dX5_idlePart_47 : decode cX5_idlePart 47 = .ok (.getfield 10, 3) := by decide +kernel
theorem dX5_idlePart_50 : decode cX5_idlePart 50 = .ok (.invokevirtual 26, 3) := by decide +kernel
theorem dX5_idlePart_53 : decode cX5_idlePart 53 = .ok (.i2f, 1) := by decide +kernel
theorem dX5_idlePart_54 : decode cX5_idlePart 54 = .ok (.fdiv, 1) := by decide +kernel
theorem dX5_idlePart_55 : decode cX5_idlePart 55 = .ok (.freturn, 1) := by decide +kernel
theorem dX5_anotherIncludes_0 : decode cX5_anotherIncludes 0 = .ok (.iconst 0, 1) := by decide +kernel
theorem dX5_anotherIncludes_1 : decode cX5_anotherIncludes 1 = .ok (.istore_n 2, 1) := by decide +kernel
theorem dX5_anotherIncludes_2 : decode cX5_anotherIncludes 2 = .ok (.iload_n 2, 1) := by decide +kernel
theorem dX5_anotherIncludes_3 : decode cX5_anotherIncludes 3 = .ok (.aload_n 0, 1) := by decide +kernel
theorem dX5_anotherIncludes_4 : decode cX5_anotherIncludes 4 = .ok (.getfield 10, 3) := by decide +kernel
theorem dX5_anotherIncludes_7 : decode cX5_anotherIncludes 7 = .ok (.invokevirtual 26, 3) := by decide +kernel
theorem dX5_anotherIncludes_10 : decode cX5_anotherIncludes 10 = .ok (.if_icmp .ge 44, 3) := by decide +kernel
theorem dX5_anotherIncludes_13 : decode cX5_anotherIncludes 13 = .ok (.iload_n 2, 1) := by decide +kernel
theorem dX5_anotherIncludes_14 : decode cX5_anotherIncludes 14 = .ok (.iload_n 1, 1) := by decide +kernel
theorem dX5_anotherIncludes_15 : decode cX5_anotherIncludes 15 = .ok (.if_icmp .eq 33, 3) := by decide +kernel
theorem dX5_anotherIncludes_18 : decode cX5_anotherIncludes 18 = .ok (.aload_n 0, 1) := by decide +kernel
theorem dX5_anotherIncludes_19 : decode cX5_anotherIncludes 19 = .ok (.getfield 10, 3) := by decide +kernel
theorem dX5_anotherIncludes_22 : decode cX5_anotherIncludes 22 = .ok (.iload_n 2, 1) := by decide +kernel
theorem dX5_anotherIncludes_23 : decode cX5_anotherIncludes 23 = .ok (.invokevirtual 30, 3) := by decide +kernel
theorem dX5_anotherIncludes_26 : decode cX5_anotherIncludes 26 = .ok (.checkcast 17, 3) := by decide +kernel
theorem dX5_anotherIncludes_29 : decode cX5_anotherIncludes 29 = .ok (.aload_n 0, 1) := by decide +kernel
theorem dX5_anotherIncludes_30 : decode cX5_anotherIncludes 30 = .ok (.getfield 10, 3) := by decide +kernel
theorem dX5_anotherIncludes_33 : decode cX5_anotherIncludes 33 = .ok (.iload_n 1, 1) := by decide +kernel
theorem dX5_anotherIncludes_34 : decode cX5_anotherIncludes 34 = .ok (.invokevirtual 30, 3) := by decide +kernel
theorem dX5_anotherIncludes_37 : decode cX5_anotherIncludes 37 = .ok (.checkcast 17, 3) := by decide +kernel
theorem dX5_anotherIncludes_40 : decode cX5_anotherIncludes 40 = .ok (.invokevirtual 34, 3) := by decide +kernel
theorem dX5_anotherIncludes_43 : decode cX5_anotherIncludes 43 = .ok (.ifCond .eq 5, 3) := by decide +kernel
theorem dX5_anotherIncludes_46 : decode cX5_anotherIncludes 46 = .ok (.iconst 1, 1) := by decide +kernel
theorem dX5_anotherIncludes_47 : decode cX5_anotherIncludes 47 = .ok (.ireturn, 1) := by decide +kernel
theorem dX5_anotherIncludes_48 : decode cX5_anotherIncludes 48 = .ok (.iinc 2 1, 3) := by decide +kernel
theorem dX5_anotherIncludes_51 : decode cX5_anotherIncludes 51 = .ok (.goto (-49), 3) := by decide +kernel
theorem dX5_anotherIncludes_54 : decode cX5_anotherIncludes 54 = .ok (.iconst 0, 1) := by decide +kernel
theorem dX5_anotherIncludes_55 : decode cX5_anotherIncludes 55 = .ok (.ireturn, 1) := by decide +kernel

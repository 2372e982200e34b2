theorem dX7_setRule_54 : decode cX7_setRule 54 = .ok (.iload_n 2, 1) := by decide +kernel
theorem dX7_setRule_55 : decode cX7_setRule 55 = .ok (.ireturn, 1) := by decide +kernel
theorem dX7_setBonus_0 : decode cX7_setBonus 0 = .ok (.aload_n 0, 1) := by decide +kernel
theorem dX7_setBonus_1 : decode cX7_setBonus 1 = .ok (.iload_n 1, 1) := by decide +kernel
theorem dX7_setBonus_2 : decode cX7_setBonus 2 = .ok (.i2l, 1) := by decide +kernel
theorem dX7_setBonus_3 : decode cX7_setBonus 3 = .ok (.ldc2_w 285, 3) := by decide +kernel
theorem dX7_setBonus_6 : decode cX7_setBonus 6 = .ok (.ldc2_w 287, 3) := by decide +kernel
theorem dX7_setBonus_9 : decode cX7_setBonus 9 = .ok (.invokestatic 61, 3) := by decide +kernel
theorem dX7_setBonus_12 : decode cX7_setBonus 12 = .ok (.ifCond .eq 7, 3) := by decide +kernel
theorem dX7_setBonus_15 : decode cX7_setBonus 15 = .ok (.iconst 0, 1) := by decide +kernel
theorem dX7_setBonus_16 : decode cX7_setBonus 16 = .ok (.goto 4, 3) := by decide +kernel
theorem dX7_setBonus_19 : decode cX7_setBonus 19 = .ok (.iconst 1, 1) := by decide +kernel
theorem dX7_setBonus_20 : decode cX7_setBonus 20 = .ok (.putfield 51, 3) := by decide +kernel
theorem dX7_setBonus_23 : decode cX7_setBonus 23 = .ok (.aload_n 0, 1) := by decide +kernel
theorem dX7_setBonus_24 : decode cX7_setBonus 24 = .ok (.getfield 51, 3) := by decide +kernel
theorem dX7_setBonus_27 : decode cX7_setBonus 27 = .ok (.ifCond .le 5, 3) := by decide +kernel
theorem dX7_setBonus_30 : decode cX7_setBonus 30 = .ok (.iconst 0, 1) := by decide +kernel
theorem dX7_setBonus_31 : decode cX7_setBonus 31 = .ok (.ireturn, 1) := by decide +kernel
theorem dX7_setBonus_32 : decode cX7_setBonus 32 = .ok (.aload_n 0, 1) := by decide +kernel
theorem dX7_setBonus_33 : decode cX7_setBonus 33 = .ok (.invokevirtual 69, 3) := by decide +kernel
theorem dX7_setBonus_36 : decode cX7_setBonus 36 = .ok (.aload_n 0, 1) := by decide +kernel
theorem dX7_setBonus_37 : decode cX7_setBonus 37 = .ok (.getfield 7, 3) := by decide +kernel
theorem dX7_setBonus_40 : decode cX7_setBonus 40 = .ok (.bipush 9, 2) := by decide +kernel
theorem dX7_setBonus_42 : decode cX7_setBonus 42 = .ok (.laload, 1) := by decide +kernel
theorem dX7_setBonus_43 : decode cX7_setBonus 43 = .ok (.l2i, 1) := by decide +kernel
theorem dX7_setBonus_44 : decode cX7_setBonus 44 = .ok (.istore_n 2, 1) := by decide +kernel
theorem dX7_setBonus_45 : decode cX7_setBonus 45 = .ok (.aload_n 0, 1) := by decide +kernel
theorem dX7_setBonus_46 : decode cX7_setBonus 46 = .ok (.getfield 7, 3) := by decide +kernel
theorem dX7_setBonus_49 : decode cX7_setBonus 49 = .ok (.bipush 9, 2) := by decide +kernel
theorem dX7_setBonus_51 : decode cX7_setBonus 51 = .ok (.iload_n 1, 1) := by decide +kernel
theorem dX7_setBonus_52 : decode cX7_setBonus 52 = .ok (.i2l, 1) := by decide +kernel
theorem dX7_setBonus_53 : decode cX7_setBonus 53 = .ok (.lastore, 1) := by decide +kernel
theorem dX7_setBonus_54 : decode cX7_setBonus 54 = .ok (.iload_n 2, 1) := by decide +kernel
theorem dX7_setBonus_55 : decode cX7_setBonus 55 = .ok (.ireturn, 1) := by decide +kernel
theorem dX7_poolAt_0 : decode cX7_poolAt 0 = .ok (.aload_n 0, 1) := by decide +kernel
theorem dX7_poolAt_1 : decode cX7_poolAt 1 = .ok (.aload_n 0, 1) := by decide +kernel
theorem dX7_poolAt_2 : decode cX7_poolAt 2 = .ok (.invokevirtual 218, 3) := by decide +kernel
theorem dX7_poolAt_5 : decode cX7_poolAt 5 = .ok (.iload_n 1, 1) := by decide +kernel
theorem dX7_poolAt_6 : decode cX7_poolAt 6 = .ok (.invokevirtual 210, 3) := by decide +kernel
theorem dX7_poolAt_9 : decode cX7_poolAt 9 = .ok (.lreturn, 1) := by decide +kernel
theorem dX7_ownersOf_0 : decode cX7_ownersOf 0 = .ok (.aload_n 0, 1) := by decide +kernel
theorem dX7_ownersOf_1 : decode cX7_ownersOf 1 = .ok (.lload_n 1, 1) := by decide +kernel
theorem dX7_ownersOf_2 : decode cX7_ownersOf 2 = .ok (.invokevirtual 214, 3) := by decide +kernel
theorem dX7_ownersOf_5 : decode cX7_ownersOf 5 = .ok (.lstore_n 3, 1) := by decide +kernel
theorem dX7_ownersOf_6 : decode cX7_ownersOf 6 = .ok (.lload_n 3, 1) := by decide +kernel
theorem dX7_ownersOf_7 : decode cX7_ownersOf 7 = .ok (.aload_n 0, 1) := by decide +kernel
theorem dX7_ownersOf_8 : decode cX7_ownersOf 8 = .ok (.getfield 7, 3) := by decide +kernel
theorem dX7_ownersOf_11 : decode cX7_ownersOf 11 = .ok (.bipush 11, 2) := by decide +kernel
theorem dX7_ownersOf_13 : decode cX7_ownersOf 13 = .ok (.laload, 1) := by decide +kernel
theorem dX7_ownersOf_14 : decode cX7_ownersOf 14 = .ok (.land, 1) := by decide +kernel
theorem dX7_ownersOf_15 : decode cX7_ownersOf 15 = .ok (.lconst 0, 1) := by decide +kernel
theorem dX7_ownersOf_16 : decode cX7_ownersOf 16 = .ok (.lcmp, 1) := by decide +kernel
theorem dX7_ownersOf_17 : decode cX7_ownersOf 17 = .ok (.ifCond .eq 7, 3) := by decide +kernel
theorem dX7_ownersOf_20 : decode cX7_ownersOf 20 = .ok (.iconst 1, 1) := by decide +kernel
theorem dX7_ownersOf_21 : decode cX7_ownersOf 21 = .ok (.goto 4, 3) := by decide +kernel
theorem dX7_ownersOf_24 : decode cX7_ownersOf 24 = .ok (.iconst 0, 1) := by decide +kernel
theorem dX7_ownersOf_25 : decode cX7_ownersOf 25 = .ok (.lload_n 3, 1) := by decide +kernel
theorem dX7_ownersOf_26 : decode cX7_ownersOf 26 = .ok (.aload_n 0, 1) := by decide +kernel
theorem dX7_ownersOf_27 : decode cX7_ownersOf 27 = .ok (.getfield 7, 3) := by decide +kernel
theorem dX7_ownersOf_30 : decode cX7_ownersOf 30 = .ok (.bipush 12, 2) := by decide +kernel
theorem dX7_ownersOf_32 : decode cX7_ownersOf 32 = .ok (.laload, 1) := by decide +kernel
theorem dX7_ownersOf_33 : decode cX7_ownersOf 33 = .ok (.land, 1) := by decide +kernel
theorem dX7_ownersOf_34 : decode cX7_ownersOf 34 = .ok (.lconst 0, 1) := by decide +kernel
theorem dX7_ownersOf_35 : decode cX7_ownersOf 35 = .ok (.lcmp, 1) := by decide +kernel
theorem dX7_ownersOf_36 : decode cX7_ownersOf 36 = .ok (.ifCond .eq 7, 3) := by decide +kernel
theorem dX7_ownersOf_39 : decode cX7_ownersOf 39 = .ok (.iconst 2, 1) := by decide +kernel
theorem dX7_ownersOf_40 : decode cX7_ownersOf 40 = .ok (.goto 4, 3) := by decide +kernel
theorem dX7_ownersOf_43 : decode cX7_ownersOf 43 = .ok (.iconst 0, 1) := by decide +kernel
theorem dX7_ownersOf_44 : decode cX7_ownersOf 44 = .ok (.iadd, 1) := by decide +kernel
theorem dX7_ownersOf_45 : decode cX7_ownersOf 45 = .ok (.ireturn, 1) := by decide +kernel
theorem dX7_chainsBeside_0 : decode cX7_chainsBeside 0 = .ok (.iconst 0, 1) := by decide +kernel
theorem dX7_chainsBeside_1 : decode cX7_chainsBeside 1 = .ok (.istore 4, 2) := by decide +kernel
theorem dX7_chainsBeside_3 : decode cX7_chainsBeside 3 = .ok (.iconst 0, 1) := by decide +kernel
theorem dX7_chainsBeside_4 : decode cX7_chainsBeside 4 = .ok (.istore 5, 2) := by decide +kernel
theorem dX7_chainsBeside_6 : decode cX7_chainsBeside 6 = .ok (.iload 5, 2) := by decide +kernel
theorem dX7_chainsBeside_8 : decode cX7_chainsBeside 8 = .ok (.aload_n 0, 1) := by decide +kernel
theorem dX7_chainsBeside_9 : decode cX7_chainsBeside 9 = .ok (.invokevirtual 180, 3) := by decide +kernel
theorem dX7_chainsBeside_12 : decode cX7_chainsBeside 12 = .ok (.if_icmp .ge 60, 3) := by decide +kernel
theorem dX7_chainsBeside_15 : decode cX7_chainsBeside 15 = .ok (.iload 4, 2) := by decide +kernel
theorem dX7_chainsBeside_17 : decode cX7_chainsBeside 17 = .ok (.aload_n 0, 1) := by decide +kernel
theorem dX7_chainsBeside_18 : decode cX7_chainsBeside 18 = .ok (.iload 5, 2) := by decide +kernel
theorem dX7_chainsBeside_20 : decode cX7_chainsBeside 20 = .ok (.invokevirtual 203, 3) := by decide +kernel
theorem dX7_chainsBeside_23 : decode cX7_chainsBeside 23 = .ok (.iload_n 3, 1) := by decide +kernel
theorem dX7_chainsBeside_24 : decode cX7_chainsBeside 24 = .ok (.if_icmp .ne 38, 3) := by decide +kernel
theorem dX7_chainsBeside_27 : decode cX7_chainsBeside 27 = .ok (.aload_n 0, 1) := by decide +kernel
theorem dX7_chainsBeside_28 : decode cX7_chainsBeside 28 = .ok (.iload 5, 2) := by decide +kernel
theorem dX7_chainsBeside_30 : decode cX7_chainsBeside 30 = .ok (.invokevirtual 228, 3) := by decide +kernel
theorem dX7_chainsBeside_33 : decode cX7_chainsBeside 33 = .ok (.invokestatic 234, 3) := by decide +kernel
theorem dX7_chainsBeside_36 : decode cX7_chainsBeside 36 = .ok (.iload 5, 2) := by decide +kernel
theorem dX7_chainsBeside_38 : decode cX7_chainsBeside 38 = .ok (.if_icmp .ne 24, 3) := by decide +kernel
theorem dX7_chainsBeside_41 : decode cX7_chainsBeside 41 = .ok (.aload_n 0, 1) := by decide +kernel
theorem dX7_chainsBeside_42 : decode cX7_chainsBeside 42 = .ok (.aload_n 0, 1) := by decide +kernel
theorem dX7_chainsBeside_43 : decode cX7_chainsBeside 43 = .ok (.iload 5, 2) := by decide +kernel
theorem dX7_chainsBeside_45 : decode cX7_chainsBeside 45 = .ok (.invokevirtual 228, 3) := by decide +kernel
theorem dX7_chainsBeside_48 : decode cX7_chainsBeside 48 = .ok (.invokevirtual 214, 3) := by decide +kernel
theorem dX7_chainsBeside_51 : decode cX7_chainsBeside 51 = .ok (.lload_n 1, 1) := by decide +kernel
theorem dX7_chainsBeside_52 : decode cX7_chainsBeside 52 = .ok (.land, 1) := by decide +kernel
theorem dX7_chainsBeside_53 : decode cX7_chainsBeside 53 = .ok (.lconst 0, 1) := by decide +kernel
theorem dX7_chainsBeside_54 : decode cX7_chainsBeside 54 = .ok (.lcmp, 1) := by decide +kernel
theorem dX7_chainsBeside_55 : decode cX7_chainsBeside 55 = .ok (.ifCond .eq 7, 3) := by decide +kernel
theorem dX7_chainsBeside_58 : decode cX7_chainsBeside 58 = .ok (.iconst 1, 1) := by decide +kernel
theorem dX7_chainsBeside_59 : decode cX7_chainsBeside 59 = .ok (.goto 4, 3) := by decide +kernel
theorem dX7_chainsBeside_62 : decode cX7_chainsBeside 62 = .ok (.iconst 0, 1) := by decide +kernel
theorem dX7_chainsBeside_63 : decode cX7_chainsBeside 63 = .ok (.iadd, 1) := by decide +kernel
theorem dX7_chainsBeside_64 : decode cX7_chainsBeside 64 = .ok (.istore 4, 2) := by decide +kernel
theorem dX7_chainsBeside_66 : decode cX7_chainsBeside 66 = .ok (.iinc 5 1, 3) := by decide +kernel
theorem dX7_chainsBeside_69 : decode cX7_chainsBeside 69 = .ok (.goto (-63), 3) := by decide +kernel
theorem dX7_chainsBeside_72 : decode cX7_chainsBeside 72 = .ok (.iload 4, 2) := by decide +kernel
theorem dX7_chainsBeside_74 : decode cX7_chainsBeside 74 = .ok (.ireturn, 1) := by decide +kernel
theorem dX7_pools_0 : decode cX7_pools 0 = .ok (.aload_n 0, 1) := by decide +kernel
theorem dX7_pools_1 : decode cX7_pools 1 = .ok (.iload_n 1, 1) := by decide +kernel
theorem dX7_pools_2 : decode cX7_pools 2 = .ok (.i2l, 1) := by decide +kernel
theorem dX7_pools_3 : decode cX7_pools 3 = .ok (.ldc2_w 49, 3) := by decide +kernel
theorem dX7_pools_6 : decode cX7_pools 6 = .ok (.ldc2_w 47, 3) := by decide +kernel
theorem dX7_pools_9 : decode cX7_pools 9 = .ok (.invokestatic 61, 3) := by decide +kernel
theorem dX7_pools_12 : decode cX7_pools 12 = .ok (.ifCond .eq 7, 3) := by decide +kernel
theorem dX7_pools_15 : decode cX7_pools 15 = .ok (.iconst 0, 1) := by decide +kernel
theorem dX7_pools_16 : decode cX7_pools 16 = .ok (.goto 4, 3) := by decide +kernel
theorem dX7_pools_19 : decode cX7_pools 19 = .ok (.iconst 1, 1) := by decide +kernel
theorem dX7_pools_20 : decode cX7_pools 20 = .ok (.putfield 51, 3) := by decide +kernel
theorem dX7_pools_23 : decode cX7_pools 23 = .ok (.iconst 0, 1) := by decide +kernel
theorem dX7_pools_24 : decode cX7_pools 24 = .ok (.istore_n 2, 1) := by decide +kernel
theorem dX7_pools_25 : decode cX7_pools 25 = .ok (.iconst 0, 1) := by decide +kernel
theorem dX7_pools_26 : decode cX7_pools 26 = .ok (.istore_n 3, 1) := by decide +kernel
theorem dX7_pools_27 : decode cX7_pools 27 = .ok (.iload_n 3, 1) := by decide +kernel
theorem dX7_pools_28 : decode cX7_pools 28 = .ok (.aload_n 0, 1) := by decide +kernel
theorem dX7_pools_29 : decode cX7_pools 29 = .ok (.invokevirtual 180, 3) := by decide +kernel
theorem dX7_pools_32 : decode cX7_pools 32 = .ok (.if_icmp .ge 62, 3) := by decide +kernel
theorem dX7_pools_35 : decode cX7_pools 35 = .ok (.aload_n 0, 1) := by decide +kernel
theorem dX7_pools_36 : decode cX7_pools 36 = .ok (.getfield 51, 3) := by decide +kernel
theorem dX7_pools_39 : decode cX7_pools 39 = .ok (.ifCond .ne 55, 3) := by decide +kernel
theorem dX7_pools_42 : decode cX7_pools 42 = .ok (.iload_n 2, 1) := by decide +kernel
theorem dX7_pools_43 : decode cX7_pools 43 = .ok (.aload_n 0, 1) := by decide +kernel
theorem dX7_pools_44 : decode cX7_pools 44 = .ok (.iload_n 3, 1) := by decide +kernel
theorem dX7_pools_45 : decode cX7_pools 45 = .ok (.invokevirtual 203, 3) := by decide +kernel
theorem dX7_pools_48 : decode cX7_pools 48 = .ok (.ifCond .ne 37, 3) := by decide +kernel
theorem dX7_pools_51 : decode cX7_pools 51 = .ok (.aload_n 0, 1) := by decide +kernel
theorem dX7_pools_52 : decode cX7_pools 52 = .ok (.iload_n 3, 1) := by decide +kernel
theorem dX7_pools_53 : decode cX7_pools 53 = .ok (.invokevirtual 289, 3) := by decide +kernel
theorem dX7_pools_56 : decode cX7_pools 56 = .ok (.invokestatic 234, 3) := by decide +kernel
theorem dX7_pools_59 : decode cX7_pools 59 = .ok (.iload_n 3, 1) := by decide +kernel
theorem dX7_pools_60 : decode cX7_pools 60 = .ok (.if_icmp .ne 25, 3) := by decide +kernel
theorem dX7_pools_63 : decode cX7_pools 63 = .ok (.iload_n 1, 1) := by decide +kernel
theorem dX7_pools_64 : decode cX7_pools 64 = .ok (.iconst (-1), 1) := by decide +kernel
theorem dX7_pools_65 : decode cX7_pools 65 = .ok (.if_icmp .eq 16, 3) := by decide +kernel
theorem dX7_pools_68 : decode cX7_pools 68 = .ok (.aload_n 0, 1) := by decide +kernel
theorem dX7_pools_69 : decode cX7_pools 69 = .ok (.aload_n 0, 1) := by decide +kernel
theorem dX7_pools_70 : decode cX7_pools 70 = .ok (.iload_n 3, 1) := by decide +kernel
theorem dX7_pools_71 : decode cX7_pools 71 = .ok (.invokevirtual 289, 3) := by decide +kernel
theorem dX7_pools_74 : decode cX7_pools 74 = .ok (.invokevirtual 292, 3) := by decide +kernel
theorem dX7_pools_77 : decode cX7_pools 77 = .ok (.iload_n 1, 1) := by decide +kernel
theorem dX7_pools_78 : decode cX7_pools 78 = .ok (.if_icmp .ne 7, 3) := by decide +kernel
theorem dX7_pools_81 : decode cX7_pools 81 = .ok (.iconst 1, 1) := by decide +kernel
theorem dX7_pools_82 : decode cX7_pools 82 = .ok (.goto 4, 3) := by decide +kernel
theorem dX7_pools_85 : decode cX7_pools 85 = .ok (.iconst 0, 1) := by decide +kernel
theorem dX7_pools_86 : decode cX7_pools 86 = .ok (.iadd, 1) := by decide +kernel
theorem dX7_pools_87 : decode cX7_pools 87 = .ok (.istore_n 2, 1) := by decide +kernel
theorem dX7_pools_88 : decode cX7_pools 88 = .ok (.iinc 3 1, 3) := by decide +kernel
theorem dX7_pools_91 : decode cX7_pools 91 = .ok (.goto (-64), 3) := by decide +kernel
theorem dX7_pools_94 : decode cX7_pools 94 = .ok (.iload_n 2, 1) := by decide +kernel
theorem dX7_pools_95 : decode cX7_pools 95 = .ok (.ireturn, 1) := by decide +kernel
theorem dX7_pool_0 : decode cX7_pool 0 = .ok (.aload_n 0, 1) := by decide +kernel
theorem dX7_pool_1 : decode cX7_pool 1 = .ok (.aload_n 0, 1) := by decide +kernel
theorem dX7_pool_2 : decode cX7_pool 2 = .ok (.iload_n 1, 1) := by decide +kernel
theorem dX7_pool_3 : decode cX7_pool 3 = .ok (.invokevirtual 223, 3) := by decide +kernel
theorem dX7_pool_6 : decode cX7_pool 6 = .ok (.ifCond .ne 7, 3) := by decide +kernel
theorem dX7_pool_9 : decode cX7_pool 9 = .ok (.iconst 1, 1) := by decide +kernel
theorem dX7_pool_10 : decode cX7_pool 10 = .ok (.goto 32, 3) := by decide +kernel
theorem dX7_pool_13 : decode cX7_pool 13 = .ok (.iload_n 2, 1) := by decide +kernel
theorem dX7_pool_14 : decode cX7_pool 14 = .ok (.i2l, 1) := by decide +kernel
theorem dX7_pool_15 : decode cX7_pool 15 = .ok (.lconst 0, 1) := by decide +kernel
theorem dX7_pool_16 : decode cX7_pool 16 = .ok (.ldc2_w 226, 3) := by decide +kernel
theorem dX7_pool_19 : decode cX7_pool 19 = .ok (.invokestatic 61, 3) := by decide +kernel
theorem dX7_pool_22 : decode cX7_pool 22 = .ok (.ifCond .ne 7, 3) := by decide +kernel
theorem dX7_pool_25 : decode cX7_pool 25 = .ok (.iconst 2, 1) := by decide +kernel
theorem dX7_pool_26 : decode cX7_pool 26 = .ok (.goto 16, 3) := by decide +kernel
theorem dX7_pool_29 : decode cX7_pool 29 = .ok (.aload_n 0, 1) := by decide +kernel
theorem dX7_pool_30 : decode cX7_pool 30 = .ok (.iload_n 1, 1) := by decide +kernel
theorem dX7_pool_31 : decode cX7_pool 31 = .ok (.invokevirtual 203, 3) := by decide +kernel
theorem dX7_pool_34 : decode cX7_pool 34 = .ok (.ifCond .le 7, 3) := by decide +kernel
theorem dX7_pool_37 : decode cX7_pool 37 = .ok (.iconst 3, 1) := by decide +kernel
theorem dX7_pool_38 : decode cX7_pool 38 = .ok (.goto 4, 3) := by decide +kernel
theorem dX7_pool_41 : decode cX7_pool 41 = .ok (.iconst 0, 1) := by decide +kernel
theorem dX7_pool_42 : decode cX7_pool 42 = .ok (.putfield 51, 3) := by decide +kernel
theorem dX7_pool_45 : decode cX7_pool 45 = .ok (.aload_n 0, 1) := by decide +kernel
theorem dX7_pool_46 : decode cX7_pool 46 = .ok (.getfield 51, 3) := by decide +kernel
theorem dX7_pool_49 : decode cX7_pool 49 = .ok (.ifCond .le 5, 3) := by decide +kernel
theorem dX7_pool_52 : decode cX7_pool 52 = .ok (.iconst 0, 1) := by decide +kernel
theorem dX7_pool_53 : decode cX7_pool 53 = .ok (.ireturn, 1) := by decide +kernel
theorem dX7_pool_54 : decode cX7_pool 54 = .ok (.aload_n 0, 1) := by decide +kernel
theorem dX7_pool_55 : decode cX7_pool 55 = .ok (.iload_n 1, 1) := by decide +kernel
theorem dX7_pool_56 : decode cX7_pool 56 = .ok (.invokevirtual 289, 3) := by decide +kernel
theorem dX7_pool_59 : decode cX7_pool 59 = .ok (.lstore_n 3, 1) := by decide +kernel
theorem dX7_pool_60 : decode cX7_pool 60 = .ok (.iload_n 2, 1) := by decide +kernel
theorem dX7_pool_61 : decode cX7_pool 61 = .ok (.ifCond .ne 10, 3) := by decide +kernel
theorem dX7_pool_64 : decode cX7_pool 64 = .ok (.lload_n 3, 1) := by decide +kernel
theorem dX7_pool_65 : decode cX7_pool 65 = .ok (.invokestatic 234, 3) := by decide +kernel
theorem dX7_pool_68 : decode cX7_pool 68 = .ok (.goto 36, 3) := by decide +kernel
theorem dX7_pool_71 : decode cX7_pool 71 = .ok (.iload_n 2, 1) := by decide +kernel
theorem dX7_pool_72 : decode cX7_pool 72 = .ok (.iconst 1, 1) := by decide +kernel
theorem dX7_pool_73 : decode cX7_pool 73 = .ok (.if_icmp .ne 10, 3) := by decide +kernel
theorem dX7_pool_76 : decode cX7_pool 76 = .ok (.lload_n 3, 1) := by decide +kernel
theorem dX7_pool_77 : decode cX7_pool 77 = .ok (.invokestatic 57, 3) := by decide +kernel
theorem dX7_pool_80 : decode cX7_pool 80 = .ok (.goto 24, 3) := by decide +kernel
theorem dX7_pool_83 : decode cX7_pool 83 = .ok (.iload_n 2, 1) := by decide +kernel
theorem dX7_pool_84 : decode cX7_pool 84 = .ok (.iconst 2, 1) := by decide +kernel
theorem dX7_pool_85 : decode cX7_pool 85 = .ok (.if_icmp .ne 11, 3) := by decide +kernel
theorem dX7_pool_88 : decode cX7_pool 88 = .ok (.aload_n 0, 1) := by decide +kernel
theorem dX7_pool_89 : decode cX7_pool 89 = .ok (.lload_n 3, 1) := by decide +kernel
theorem dX7_pool_90 : decode cX7_pool 90 = .ok (.invokevirtual 292, 3) := by decide +kernel
theorem dX7_pool_93 : decode cX7_pool 93 = .ok (.goto 11, 3) := by decide +kernel
theorem dX7_pool_96 : decode cX7_pool 96 = .ok (.aload_n 0, 1) := by decide +kernel
theorem dX7_pool_97 : decode cX7_pool 97 = .ok (.lload_n 3, 1) := by decide +kernel
theorem dX7_pool_98 : decode cX7_pool 98 = .ok (.iload_n 2, 1) := by decide +kernel
theorem dX7_pool_99 : decode cX7_pool 99 = .ok (.iconst 2, 1) := by decide +kernel
theorem dX7_pool_100 : decode cX7_pool 100 = .ok (.isub, 1) := by decide +kernel
theorem dX7_pool_101 : decode cX7_pool 101 = .ok (.invokevirtual 295, 3) := by decide +kernel
theorem dX7_pool_104 : decode cX7_pool 104 = .ok (.ireturn, 1) := by decide +kernel
theorem dX7_isSharedEye_0 : decode cX7_isSharedEye 0 = .ok (.aload_n 0, 1) := by decide +kernel
theorem dX7_isSharedEye_1 : decode cX7_isSharedEye 1 = .ok (.aload_n 0, 1) := by decide +kernel
theorem dX7_isSharedEye_2 : decode cX7_isSharedEye 2 = .ok (.iload_n 1, 1) := by decide +kernel
theorem dX7_isSharedEye_3 : decode cX7_isSharedEye 3 = .ok (.invokevirtual 223, 3) := by decide +kernel
theorem dX7_isSharedEye_6 : decode cX7_isSharedEye 6 = .ok (.ifCond .eq 7, 3) := by decide +kernel
theorem dX7_isSharedEye_9 : decode cX7_isSharedEye 9 = .ok (.iconst 0, 1) := by decide +kernel
theorem dX7_isSharedEye_10 : decode cX7_isSharedEye 10 = .ok (.goto 4, 3) := by decide +kernel
theorem dX7_isSharedEye_13 : decode cX7_isSharedEye 13 = .ok (.iconst 1, 1) := by decide +kernel
theorem dX7_isSharedEye_14 : decode cX7_isSharedEye 14 = .ok (.putfield 51, 3) := by decide +kernel
theorem dX7_isSharedEye_17 : decode cX7_isSharedEye 17 = .ok (.aload_n 0, 1) := by decide +kernel
theorem dX7_isSharedEye_18 : decode cX7_isSharedEye 18 = .ok (.getfield 51, 3) := by decide +kernel
theorem dX7_isSharedEye_21 : decode cX7_isSharedEye 21 = .ok (.ifCond .gt 11, 3) := by decide +kernel
theorem dX7_isSharedEye_24 : decode cX7_isSharedEye 24 = .ok (.aload_n 0, 1) := by decide +kernel
theorem dX7_isSharedEye_25 : decode cX7_isSharedEye 25 = .ok (.iload_n 1, 1) := by decide +kernel
theorem dX7_isSharedEye_26 : decode cX7_isSharedEye 26 = .ok (.invokevirtual 203, 3) := by decide +kernel
theorem dX7_isSharedEye_29 : decode cX7_isSharedEye 29 = .ok (.ifCond .le 5, 3) := by decide +kernel
theorem dX7_isSharedEye_32 : decode cX7_isSharedEye 32 = .ok (.iconst 0, 1) := by decide +kernel
theorem dX7_isSharedEye_33 : decode cX7_isSharedEye 33 = .ok (.ireturn, 1) := by decide +kernel
theorem dX7_isSharedEye_34 : decode cX7_isSharedEye 34 = .ok (.aload_n 0, 1) := by decide +kernel
theorem dX7_isSharedEye_35 : decode cX7_isSharedEye 35 = .ok (.aload_n 0, 1) := by decide +kernel
theorem dX7_isSharedEye_36 : decode cX7_isSharedEye 36 = .ok (.iload_n 1, 1) := by decide +kernel
theorem dX7_isSharedEye_37 : decode cX7_isSharedEye 37 = .ok (.invokevirtual 289, 3) := by decide +kernel
theorem dX7_isSharedEye_40 : decode cX7_isSharedEye 40 = .ok (.invokevirtual 292, 3) := by decide +kernel
theorem dX7_isSharedEye_43 : decode cX7_isSharedEye 43 = .ok (.istore_n 2, 1) := by decide +kernel
theorem dX7_isSharedEye_44 : decode cX7_isSharedEye 44 = .ok (.iload_n 2, 1) := by decide +kernel
theorem dX7_isSharedEye_45 : decode cX7_isSharedEye 45 = .ok (.invokestatic 241, 3) := by decide +kernel
theorem dX7_isSharedEye_48 : decode cX7_isSharedEye 48 = .ok (.ifCond .eq 21, 3) := by decide +kernel
theorem dX7_isSharedEye_51 : decode cX7_isSharedEye 51 = .ok (.aload_n 0, 1) := by decide +kernel
theorem dX7_isSharedEye_52 : decode cX7_isSharedEye 52 = .ok (.aload_n 0, 1) := by decide +kernel
theorem dX7_isSharedEye_53 : decode cX7_isSharedEye 53 = .ok (.iload_n 1, 1) := by decide +kernel
theorem dX7_isSharedEye_54 : decode cX7_isSharedEye 54 = .ok (.invokevirtual 289, 3) := by decide +kernel
theorem dX7_isSharedEye_57 : decode cX7_isSharedEye 57 = .ok (.iload_n 2, 1) := by decide +kernel
theorem dX7_isSharedEye_58 : decode cX7_isSharedEye 58 = .ok (.invokevirtual 295, 3) := by decide +kernel
theorem dX7_isSharedEye_61 : decode cX7_isSharedEye 61 = .ok (.iconst 1, 1) := by decide +kernel
theorem dX7_isSharedEye_62 : decode cX7_isSharedEye 62 = .ok (.if_icmp .le 7, 3) := by decide +kernel
theorem dX7_isSharedEye_65 : decode cX7_isSharedEye 65 = .ok (.iconst 1, 1) := by decide +kernel
theorem dX7_isSharedEye_66 : decode cX7_isSharedEye 66 = .ok (.goto 4, 3) := by decide +kernel
theorem dX7_isSharedEye_69 : decode cX7_isSharedEye 69 = .ok (.iconst 0, 1) := by decide +kernel
theorem dX7_isSharedEye_70 : decode cX7_isSharedEye 70 = .ok (.ireturn, 1) := by decide +kernel
theorem dX7_isNarrow_0 : decode cX7_isNarrow 0 = .ok (.aload_n 0, 1) := by decide +kernel
theorem dX7_isNarrow_1 : decode cX7_isNarrow 1 = .ok (.iload_n 1, 1) := by decide +kernel
theorem dX7_isNarrow_2 : decode cX7_isNarrow 2 = .ok (.iload_n 2, 1) := by decide +kernel
theorem dX7_isNarrow_3 : decode cX7_isNarrow 3 = .ok (.invokevirtual 268, 3) := by decide +kernel
theorem dX7_isNarrow_6 : decode cX7_isNarrow 6 = .ok (.istore_n 3, 1) := by decide +kernel
theorem dX7_isNarrow_7 : decode cX7_isNarrow 7 = .ok (.aload_n 0, 1) := by decide +kernel
theorem dX7_isNarrow_8 : decode cX7_isNarrow 8 = .ok (.getfield 261, 3) := by decide +kernel
theorem dX7_isNarrow_11 : decode cX7_isNarrow 11 = .ok (.invokestatic 57, 3) := by decide +kernel
theorem dX7_isNarrow_14 : decode cX7_isNarrow 14 = .ok (.iconst 1, 1) := by decide +kernel
theorem dX7_isNarrow_15 : decode cX7_isNarrow 15 = .ok (.if_icmp .gt 7, 3) := by decide +kernel
theorem dX7_isNarrow_18 : decode cX7_isNarrow 18 = .ok (.iconst 1, 1) := by decide +kernel
theorem dX7_isNarrow_19 : decode cX7_isNarrow 19 = .ok (.goto 4, 3) := by decide +kernel
theorem dX7_isNarrow_22 : decode cX7_isNarrow 22 = .ok (.iconst 0, 1) := by decide +kernel
theorem dX7_isNarrow_23 : decode cX7_isNarrow 23 = .ok (.ireturn, 1) := by decide +kernel
theorem dX7_isStandoff_0 : decode cX7_isStandoff 0 = .ok (.aload_n 0, 1) := by decide +kernel
theorem dX7_isStandoff_1 : decode cX7_isStandoff 1 = .ok (.aload_n 0, 1) := by decide +kernel
theorem dX7_isStandoff_2 : decode cX7_isStandoff 2 = .ok (.iload_n 1, 1) := by decide +kernel
theorem dX7_isStandoff_3 : decode cX7_isStandoff 3 = .ok (.invokevirtual 223, 3) := by decide +kernel
theorem dX7_isStandoff_6 : decode cX7_isStandoff 6 = .ok (.ifCond .eq 7, 3) := by decide +kernel
theorem dX7_isStandoff_9 : decode cX7_isStandoff 9 = .ok (.iconst 0, 1) := by decide +kernel
theorem dX7_isStandoff_10 : decode cX7_isStandoff 10 = .ok (.goto 4, 3) := by decide +kernel
theorem dX7_isStandoff_13 : decode cX7_isStandoff 13 = .ok (.iconst 1, 1) := by decide +kernel
theorem dX7_isStandoff_14 : decode cX7_isStandoff 14 = .ok (.putfield 51, 3) := by decide +kernel
theorem dX7_isStandoff_17 : decode cX7_isStandoff 17 = .ok (.aload_n 0, 1) := by decide +kernel
theorem dX7_isStandoff_18 : decode cX7_isStandoff 18 = .ok (.getfield 51, 3) := by decide +kernel
theorem dX7_isStandoff_21 : decode cX7_isStandoff 21 = .ok (.ifCond .gt 24, 3) := by decide +kernel
theorem dX7_isStandoff_24 : decode cX7_isStandoff 24 = .ok (.aload_n 0, 1) := by decide +kernel
theorem dX7_isStandoff_25 : decode cX7_isStandoff 25 = .ok (.iload_n 1, 1) := by decide +kernel
theorem dX7_isStandoff_26 : decode cX7_isStandoff 26 = .ok (.invokevirtual 203, 3) := by decide +kernel
theorem dX7_isStandoff_29 : decode cX7_isStandoff 29 = .ok (.ifCond .gt 16, 3) := by decide +kernel
theorem dX7_isStandoff_32 : decode cX7_isStandoff 32 = .ok (.aload_n 0, 1) := by decide +kernel
theorem dX7_isStandoff_33 : decode cX7_isStandoff 33 = .ok (.aload_n 0, 1) := by decide +kernel
theorem dX7_isStandoff_34 : decode cX7_isStandoff 34 = .ok (.iload_n 1, 1) := by decide +kernel
theorem dX7_isStandoff_35 : decode cX7_isStandoff 35 = .ok (.invokevirtual 289, 3) := by decide +kernel
theorem dX7_isStandoff_38 : decode cX7_isStandoff 38 = .ok (.invokevirtual 292, 3) := by decide +kernel
theorem dX7_isStandoff_41 : decode cX7_isStandoff 41 = .ok (.iconst 3, 1) := by decide +kernel
theorem dX7_isStandoff_42 : decode cX7_isStandoff 42 = .ok (.if_icmp .eq 5, 3) := by decide +kernel
theorem dX7_isStandoff_45 : decode cX7_isStandoff 45 = .ok (.iconst 0, 1) := by decide +kernel
theorem dX7_isStandoff_46 : decode cX7_isStandoff 46 = .ok (.ireturn, 1) := by decide +kernel
theorem dX7_isStandoff_47 : decode cX7_isStandoff 47 = .ok (.aload_n 0, 1) := by decide +kernel
theorem dX7_isStandoff_48 : decode cX7_isStandoff 48 = .ok (.iload_n 1, 1) := by decide +kernel
theorem dX7_isStandoff_49 : decode cX7_isStandoff 49 = .ok (.invokevirtual 289, 3) := by decide +kernel
theorem dX7_isStandoff_52 : decode cX7_isStandoff 52 = .ok (.lstore_n 2, 1) := by decide +kernel
theorem dX7_isStandoff_53 : decode cX7_isStandoff 53 = .ok (.iconst 0, 1) := by decide +kernel
theorem dX7_isStandoff_54 : decode cX7_isStandoff 54 = .ok (.istore 4, 2) := by decide +kernel
theorem dX7_isStandoff_56 : decode cX7_isStandoff 56 = .ok (.iload 4, 2) := by decide +kernel
theorem dX7_isStandoff_58 : decode cX7_isStandoff 58 = .ok (.aload_n 0, 1) := by decide +kernel
theorem dX7_isStandoff_59 : decode cX7_isStandoff 59 = .ok (.invokevirtual 180, 3) := by decide +kernel
theorem dX7_isStandoff_62 : decode cX7_isStandoff 62 = .ok (.if_icmp .ge 40, 3) := by decide +kernel
theorem dX7_isStandoff_65 : decode cX7_isStandoff 65 = .ok (.lload_n 2, 1) := by decide +kernel
theorem dX7_isStandoff_66 : decode cX7_isStandoff 66 = .ok (.iload 4, 2) := by decide +kernel
theorem dX7_isStandoff_68 : decode cX7_isStandoff 68 = .ok (.invokestatic 183, 3) := by decide +kernel
theorem dX7_isStandoff_71 : decode cX7_isStandoff 71 = .ok (.ifCond .eq 25, 3) := by decide +kernel
theorem dX7_isStandoff_74 : decode cX7_isStandoff 74 = .ok (.aload_n 0, 1) := by decide +kernel
theorem dX7_isStandoff_75 : decode cX7_isStandoff 75 = .ok (.iload 4, 2) := by decide +kernel
theorem dX7_isStandoff_77 : decode cX7_isStandoff 77 = .ok (.iconst 1, 1) := by decide +kernel
theorem dX7_isStandoff_78 : decode cX7_isStandoff 78 = .ok (.invokevirtual 299, 3) := by decide +kernel
theorem dX7_isStandoff_81 : decode cX7_isStandoff 81 = .ok (.ifCond .eq 13, 3) := by decide +kernel
theorem dX7_isStandoff_84 : decode cX7_isStandoff 84 = .ok (.aload_n 0, 1) := by decide +kernel
theorem dX7_isStandoff_85 : decode cX7_isStandoff 85 = .ok (.iload 4, 2) := by decide +kernel
theorem dX7_isStandoff_87 : decode cX7_isStandoff 87 = .ok (.iconst 2, 1) := by decide +kernel
theorem dX7_isStandoff_88 : decode cX7_isStandoff 88 = .ok (.invokevirtual 299, 3) := by decide +kernel
theorem dX7_isStandoff_91 : decode cX7_isStandoff 91 = .ok (.ifCond .ne 5, 3) := by decide +kernel
theorem dX7_isStandoff_94 : decode cX7_isStandoff 94 = .ok (.iconst 0, 1) := by decide +kernel
theorem dX7_isStandoff_95 : decode cX7_isStandoff 95 = .ok (.ireturn, 1) := by decide +kernel
theorem dX7_isStandoff_96 : decode cX7_isStandoff 96 = .ok (.iinc 4 1, 3) := by decide +kernel
theorem dX7_isStandoff_99 : decode cX7_isStandoff 99 = .ok (.goto (-43), 3) := by decide +kernel
theorem dX7_isStandoff_102 : decode cX7_isStandoff 102 = .ok (.iconst 1, 1) := by decide +kernel
theorem dX7_isStandoff_103 : decode cX7_isStandoff 103 = .ok (.ireturn, 1) := by decide +kernel
theorem dX7_vitalMany_0 : decode cX7_vitalMany 0 = .ok (.aload_n 0, 1) := by decide +kernel
theorem dX7_vitalMany_1 : decode cX7_vitalMany 1 = .ok (.invokevirtual 199, 3) := by decide +kernel
theorem dX7_vitalMany_4 : decode cX7_vitalMany 4 = .ok (.aload_n 0, 1) := by decide +kernel
theorem dX7_vitalMany_5 : decode cX7_vitalMany 5 = .ok (.iload_n 3, 1) := by decide +kernel
theorem dX7_vitalMany_6 : decode cX7_vitalMany 6 = .ok (.invokevirtual 206, 3) := by decide +kernel
theorem dX7_vitalMany_9 : decode cX7_vitalMany 9 = .ok (.ldc2_w 49, 3) := by decide +kernel
theorem dX7_vitalMany_12 : decode cX7_vitalMany 12 = .ok (.lxor, 1) := by decide +kernel
theorem dX7_vitalMany_13 : decode cX7_vitalMany 13 = .ok (.land, 1) := by decide +kernel
theorem dX7_vitalMany_14 : decode cX7_vitalMany 14 = .ok (.lstore 6, 2) := by decide +kernel
theorem dX7_vitalMany_16 : decode cX7_vitalMany 16 = .ok (.aload_n 0, 1) := by decide +kernel
theorem dX7_vitalMany_17 : decode cX7_vitalMany 17 = .ok (.lload_n 1, 1) := by decide +kernel
theorem dX7_vitalMany_18 : decode cX7_vitalMany 18 = .ok (.invokevirtual 231, 3) := by decide +kernel
theorem dX7_vitalMany_21 : decode cX7_vitalMany 21 = .ok (.lstore 8, 2) := by decide +kernel
theorem dX7_vitalMany_23 : decode cX7_vitalMany 23 = .ok (.iconst 0, 1) := by decide +kernel
theorem dX7_vitalMany_24 : decode cX7_vitalMany 24 = .ok (.istore 10, 2) := by decide +kernel
theorem dX7_vitalMany_26 : decode cX7_vitalMany 26 = .ok (.iconst 0, 1) := by decide +kernel
theorem dX7_vitalMany_27 : decode cX7_vitalMany 27 = .ok (.istore 11, 2) := by decide +kernel
theorem dX7_vitalMany_29 : decode cX7_vitalMany 29 = .ok (.iload 11, 2) := by decide +kernel
theorem dX7_vitalMany_31 : decode cX7_vitalMany 31 = .ok (.aload_n 0, 1) := by decide +kernel
theorem dX7_vitalMany_32 : decode cX7_vitalMany 32 = .ok (.invokevirtual 180, 3) := by decide +kernel
theorem dX7_vitalMany_35 : decode cX7_vitalMany 35 = .ok (.if_icmp .ge 85, 3) := by decide +kernel
theorem dX7_vitalMany_38 : decode cX7_vitalMany 38 = .ok (.lload 6, 2) := by decide +kernel
theorem dX7_vitalMany_40 : decode cX7_vitalMany 40 = .ok (.lload 4, 2) := by decide +kernel
theorem dX7_vitalMany_42 : decode cX7_vitalMany 42 = .ok (.land, 1) := by decide +kernel
theorem dX7_vitalMany_43 : decode cX7_vitalMany 43 = .ok (.iload 11, 2) := by decide +kernel
theorem dX7_vitalMany_45 : decode cX7_vitalMany 45 = .ok (.invokestatic 183, 3) := by decide +kernel
theorem dX7_vitalMany_48 : decode cX7_vitalMany 48 = .ok (.ifCond .ne 6, 3) := by decide +kernel
theorem dX7_vitalMany_51 : decode cX7_vitalMany 51 = .ok (.goto 63, 3) := by decide +kernel
theorem dX7_vitalMany_54 : decode cX7_vitalMany 54 = .ok (.aload_n 0, 1) := by decide +kernel
theorem dX7_vitalMany_55 : decode cX7_vitalMany 55 = .ok (.lload 6, 2) := by decide +kernel
theorem dX7_vitalMany_57 : decode cX7_vitalMany 57 = .ok (.iload 11, 2) := by decide +kernel
theorem dX7_vitalMany_59 : decode cX7_vitalMany 59 = .ok (.invokevirtual 210, 3) := by decide +kernel
theorem dX7_vitalMany_62 : decode cX7_vitalMany 62 = .ok (.lstore 12, 2) := by decide +kernel
theorem dX7_vitalMany_64 : decode cX7_vitalMany 64 = .ok (.lload 12, 2) := by decide +kernel
theorem dX7_vitalMany_66 : decode cX7_vitalMany 66 = .ok (.aload_n 0, 1) := by decide +kernel
theorem dX7_vitalMany_67 : decode cX7_vitalMany 67 = .ok (.invokevirtual 218, 3) := by decide +kernel
theorem dX7_vitalMany_70 : decode cX7_vitalMany 70 = .ok (.land, 1) := by decide +kernel
theorem dX7_vitalMany_71 : decode cX7_vitalMany 71 = .ok (.lstore 14, 2) := by decide +kernel
theorem dX7_vitalMany_73 : decode cX7_vitalMany 73 = .ok (.iload 10, 2) := by decide +kernel
theorem dX7_vitalMany_75 : decode cX7_vitalMany 75 = .ok (.lload 12, 2) := by decide +kernel
theorem dX7_vitalMany_77 : decode cX7_vitalMany 77 = .ok (.invokestatic 234, 3) := by decide +kernel
theorem dX7_vitalMany_80 : decode cX7_vitalMany 80 = .ok (.iload 11, 2) := by decide +kernel
theorem dX7_vitalMany_82 : decode cX7_vitalMany 82 = .ok (.if_icmp .ne 28, 3) := by decide +kernel
theorem dX7_vitalMany_85 : decode cX7_vitalMany 85 = .ok (.lload 14, 2) := by decide +kernel
theorem dX7_vitalMany_87 : decode cX7_vitalMany 87 = .ok (.lconst 0, 1) := by decide +kernel
theorem dX7_vitalMany_88 : decode cX7_vitalMany 88 = .ok (.lcmp, 1) := by decide +kernel
theorem dX7_vitalMany_89 : decode cX7_vitalMany 89 = .ok (.ifCond .eq 21, 3) := by decide +kernel
theorem dX7_vitalMany_92 : decode cX7_vitalMany 92 = .ok (.lload 14, 2) := by decide +kernel
theorem dX7_vitalMany_94 : decode cX7_vitalMany 94 = .ok (.lload 8, 2) := by decide +kernel
theorem dX7_vitalMany_96 : decode cX7_vitalMany 96 = .ok (.ldc2_w 49, 3) := by decide +kernel
theorem dX7_vitalMany_99 : decode cX7_vitalMany 99 = .ok (.lxor, 1) := by decide +kernel
theorem dX7_vitalMany_100 : decode cX7_vitalMany 100 = .ok (.land, 1) := by decide +kernel
theorem dX7_vitalMany_101 : decode cX7_vitalMany 101 = .ok (.lconst 0, 1) := by decide +kernel
theorem dX7_vitalMany_102 : decode cX7_vitalMany 102 = .ok (.lcmp, 1) := by decide +kernel
theorem dX7_vitalMany_103 : decode cX7_vitalMany 103 = .ok (.ifCond .ne 7, 3) := by decide +kernel
theorem dX7_vitalMany_106 : decode cX7_vitalMany 106 = .ok (.iconst 1, 1) := by decide +kernel
theorem dX7_vitalMany_107 : decode cX7_vitalMany 107 = .ok (.goto 4, 3) := by decide +kernel
theorem dX7_vitalMany_110 : decode cX7_vitalMany 110 = .ok (.iconst 0, 1) := by decide +kernel
theorem dX7_vitalMany_111 : decode cX7_vitalMany 111 = .ok (.iadd, 1) := by decide +kernel
theorem dX7_vitalMany_112 : decode cX7_vitalMany 112 = .ok (.istore 10, 2) := by decide +kernel
theorem dX7_vitalMany_114 : decode cX7_vitalMany 114 = .ok (.iinc 11 1, 3) := by decide +kernel
theorem dX7_vitalMany_117 : decode cX7_vitalMany 117 = .ok (.goto (-88), 3) := by decide +kernel
theorem dX7_vitalMany_120 : decode cX7_vitalMany 120 = .ok (.iload 10, 2) := by decide +kernel
theorem dX7_vitalMany_122 : decode cX7_vitalMany 122 = .ok (.ireturn, 1) := by decide +kernel
theorem dX7_livingOf_0 : decode cX7_livingOf 0 = .ok (.aload_n 0, 1) := by decide +kernel
theorem dX7_livingOf_1 : decode cX7_livingOf 1 = .ok (.invokevirtual 199, 3) := by decide +kernel
theorem dX7_livingOf_4 : decode cX7_livingOf 4 = .ok (.aload_n 0, 1) := by decide +kernel
theorem dX7_livingOf_5 : decode cX7_livingOf 5 = .ok (.iload_n 1, 1) := by decide +kernel
theorem dX7_livingOf_6 : decode cX7_livingOf 6 = .ok (.invokevirtual 206, 3) := by decide +kernel
theorem dX7_livingOf_9 : decode cX7_livingOf 9 = .ok (.ldc2_w 49, 3) := by decide +kernel
theorem dX7_livingOf_12 : decode cX7_livingOf 12 = .ok (.lxor, 1) := by decide +kernel
theorem dX7_livingOf_13 : decode cX7_livingOf 13 = .ok (.land, 1) := by decide +kernel
theorem dX7_livingOf_14 : decode cX7_livingOf 14 = .ok (.lstore_n 2, 1) := by decide +kernel
theorem dX7_livingOf_15 : decode cX7_livingOf 15 = .ok (.aload_n 0, 1) := by decide +kernel
theorem dX7_livingOf_16 : decode cX7_livingOf 16 = .ok (.iload_n 1, 1) := by decide +kernel
theorem dX7_livingOf_17 : decode cX7_livingOf 17 = .ok (.invokevirtual 206, 3) := by decide +kernel
theorem dX7_livingOf_20 : decode cX7_livingOf 20 = .ok (.lstore 4, 2) := by decide +kernel
theorem dX7_livingOf_22 : decode cX7_livingOf 22 = .ok (.aload_n 0, 1) := by decide +kernel
theorem dX7_livingOf_23 : decode cX7_livingOf 23 = .ok (.invokevirtual 199, 3) := by decide +kernel
theorem dX7_livingOf_26 : decode cX7_livingOf 26 = .ok (.lstore 6, 2) := by decide +kernel
theorem dX7_livingOf_28 : decode cX7_livingOf 28 = .ok (.iconst 1, 1) := by decide +kernel
theorem dX7_livingOf_29 : decode cX7_livingOf 29 = .ok (.istore 8, 2) := by decide +kernel
theorem dX7_livingOf_31 : decode cX7_livingOf 31 = .ok (.iload 8, 2) := by decide +kernel
theorem dX7_livingOf_33 : decode cX7_livingOf 33 = .ok (.ifCond .eq 142, 3) := by decide +kernel
theorem dX7_livingOf_36 : decode cX7_livingOf 36 = .ok (.lconst 0, 1) := by decide +kernel
theorem dX7_livingOf_37 : decode cX7_livingOf 37 = .ok (.lstore 9, 2) := by decide +kernel
theorem dX7_livingOf_39 : decode cX7_livingOf 39 = .ok (.iconst 0, 1) := by decide +kernel
theorem dX7_livingOf_40 : decode cX7_livingOf 40 = .ok (.istore 11, 2) := by decide +kernel
theorem dX7_livingOf_42 : decode cX7_livingOf 42 = .ok (.iload 11, 2) := by decide +kernel
theorem dX7_livingOf_44 : decode cX7_livingOf 44 = .ok (.aload_n 0, 1) := by decide +kernel
theorem dX7_livingOf_45 : decode cX7_livingOf 45 = .ok (.invokevirtual 180, 3) := by decide +kernel
theorem dX7_livingOf_48 : decode cX7_livingOf 48 = .ok (.if_icmp .ge 45, 3) := by decide +kernel
theorem dX7_livingOf_51 : decode cX7_livingOf 51 = .ok (.lload 4, 2) := by decide +kernel
theorem dX7_livingOf_53 : decode cX7_livingOf 53 = .ok (.iload 11, 2) := by decide +kernel
theorem dX7_livingOf_55 : decode cX7_livingOf 55 = .ok (.invokestatic 183, 3) := by decide +kernel
theorem dX7_livingOf_58 : decode cX7_livingOf 58 = .ok (.ifCond .eq 29, 3) := by decide +kernel
theorem dX7_livingOf_61 : decode cX7_livingOf 61 = .ok (.aload_n 0, 1) := by decide +kernel
theorem dX7_livingOf_62 : decode cX7_livingOf 62 = .ok (.aload_n 0, 1) := by decide +kernel
theorem dX7_livingOf_63 : decode cX7_livingOf 63 = .ok (.iload 11, 2) := by decide +kernel
theorem dX7_livingOf_65 : decode cX7_livingOf 65 = .ok (.invokevirtual 228, 3) := by decide +kernel
theorem dX7_livingOf_68 : decode cX7_livingOf 68 = .ok (.iload_n 1, 1) := by decide +kernel
theorem dX7_livingOf_69 : decode cX7_livingOf 69 = .ok (.lload 6, 2) := by decide +kernel
theorem dX7_livingOf_71 : decode cX7_livingOf 71 = .ok (.invokevirtual 237, 3) := by decide +kernel
theorem dX7_livingOf_74 : decode cX7_livingOf 74 = .ok (.iconst 2, 1) := by decide +kernel
theorem dX7_livingOf_75 : decode cX7_livingOf 75 = .ok (.if_icmp .ge 12, 3) := by decide +kernel
theorem dX7_livingOf_78 : decode cX7_livingOf 78 = .ok (.lload 9, 2) := by decide +kernel
theorem dX7_livingOf_80 : decode cX7_livingOf 80 = .ok (.lconst 1, 1) := by decide +kernel
theorem dX7_livingOf_81 : decode cX7_livingOf 81 = .ok (.iload 11, 2) := by decide +kernel
theorem dX7_livingOf_83 : decode cX7_livingOf 83 = .ok (.lshl, 1) := by decide +kernel
theorem dX7_livingOf_84 : decode cX7_livingOf 84 = .ok (.lor, 1) := by decide +kernel
theorem dX7_livingOf_85 : decode cX7_livingOf 85 = .ok (.lstore 9, 2) := by decide +kernel
theorem dX7_livingOf_87 : decode cX7_livingOf 87 = .ok (.iinc 11 1, 3) := by decide +kernel
theorem dX7_livingOf_90 : decode cX7_livingOf 90 = .ok (.goto (-48), 3) := by decide +kernel
theorem dX7_livingOf_93 : decode cX7_livingOf 93 = .ok (.lload 4, 2) := by decide +kernel
theorem dX7_livingOf_95 : decode cX7_livingOf 95 = .ok (.lload 9, 2) := by decide +kernel
theorem dX7_livingOf_97 : decode cX7_livingOf 97 = .ok (.ldc2_w 49, 3) := by decide +kernel
theorem dX7_livingOf_100 : decode cX7_livingOf 100 = .ok (.lxor, 1) := by decide +kernel
theorem dX7_livingOf_101 : decode cX7_livingOf 101 = .ok (.land, 1) := by decide +kernel
theorem dX7_livingOf_102 : decode cX7_livingOf 102 = .ok (.lstore 4, 2) := by decide +kernel
theorem dX7_livingOf_104 : decode cX7_livingOf 104 = .ok (.aload_n 0, 1) := by decide +kernel
theorem dX7_livingOf_105 : decode cX7_livingOf 105 = .ok (.lload 9, 2) := by decide +kernel
theorem dX7_livingOf_107 : decode cX7_livingOf 107 = .ok (.invokevirtual 214, 3) := by decide +kernel
theorem dX7_livingOf_110 : decode cX7_livingOf 110 = .ok (.lload_n 2, 1) := by decide +kernel
theorem dX7_livingOf_111 : decode cX7_livingOf 111 = .ok (.land, 1) := by decide +kernel
theorem dX7_livingOf_112 : decode cX7_livingOf 112 = .ok (.lstore 11, 2) := by decide +kernel
theorem dX7_livingOf_114 : decode cX7_livingOf 114 = .ok (.iconst 0, 1) := by decide +kernel
theorem dX7_livingOf_115 : decode cX7_livingOf 115 = .ok (.istore 13, 2) := by decide +kernel
theorem dX7_livingOf_117 : decode cX7_livingOf 117 = .ok (.iload 13, 2) := by decide +kernel
theorem dX7_livingOf_119 : decode cX7_livingOf 119 = .ok (.aload_n 0, 1) := by decide +kernel
theorem dX7_livingOf_120 : decode cX7_livingOf 120 = .ok (.invokevirtual 180, 3) := by decide +kernel
theorem dX7_livingOf_123 : decode cX7_livingOf 123 = .ok (.if_icmp .ge 35, 3) := by decide +kernel
theorem dX7_livingOf_126 : decode cX7_livingOf 126 = .ok (.lload 11, 2) := by decide +kernel
theorem dX7_livingOf_128 : decode cX7_livingOf 128 = .ok (.iload 13, 2) := by decide +kernel
theorem dX7_livingOf_130 : decode cX7_livingOf 130 = .ok (.invokestatic 183, 3) := by decide +kernel
theorem dX7_livingOf_133 : decode cX7_livingOf 133 = .ok (.ifCond .eq 19, 3) := by decide +kernel
theorem dX7_livingOf_136 : decode cX7_livingOf 136 = .ok (.lload 6, 2) := by decide +kernel
theorem dX7_livingOf_138 : decode cX7_livingOf 138 = .ok (.aload_n 0, 1) := by decide +kernel
theorem dX7_livingOf_139 : decode cX7_livingOf 139 = .ok (.lload_n 2, 1) := by decide +kernel
theorem dX7_livingOf_140 : decode cX7_livingOf 140 = .ok (.iload 13, 2) := by decide +kernel
theorem dX7_livingOf_142 : decode cX7_livingOf 142 = .ok (.invokevirtual 210, 3) := by decide +kernel
theorem dX7_livingOf_145 : decode cX7_livingOf 145 = .ok (.ldc2_w 49, 3) := by decide +kernel
theorem dX7_livingOf_148 : decode cX7_livingOf 148 = .ok (.lxor, 1) := by decide +kernel
theorem dX7_livingOf_149 : decode cX7_livingOf 149 = .ok (.land, 1) := by decide +kernel
theorem dX7_livingOf_150 : decode cX7_livingOf 150 = .ok (.lstore 6, 2) := by decide +kernel
theorem dX7_livingOf_152 : decode cX7_livingOf 152 = .ok (.iinc 13 1, 3) := by decide +kernel
theorem dX7_livingOf_155 : decode cX7_livingOf 155 = .ok (.goto (-38), 3) := by decide +kernel
theorem dX7_livingOf_158 : decode cX7_livingOf 158 = .ok (.lload 9, 2) := by decide +kernel
theorem dX7_livingOf_160 : decode cX7_livingOf 160 = .ok (.lconst 0, 1) := by decide +kernel
theorem dX7_livingOf_161 : decode cX7_livingOf 161 = .ok (.lcmp, 1) := by decide +kernel
theorem dX7_livingOf_162 : decode cX7_livingOf 162 = .ok (.ifCond .eq 7, 3) := by decide +kernel
theorem dX7_livingOf_165 : decode cX7_livingOf 165 = .ok (.iconst 1, 1) := by decide +kernel
theorem dX7_livingOf_166 : decode cX7_livingOf 166 = .ok (.goto 4, 3) := by decide +kernel
theorem dX7_livingOf_169 : decode cX7_livingOf 169 = .ok (.iconst 0, 1) := by decide +kernel
theorem dX7_livingOf_170 : decode cX7_livingOf 170 = .ok (.istore 8, 2) := by decide +kernel
theorem dX7_livingOf_172 : decode cX7_livingOf 172 = .ok (.goto (-141), 3) := by decide +kernel
theorem dX7_livingOf_175 : decode cX7_livingOf 175 = .ok (.lload 4, 2) := by decide +kernel
theorem dX7_livingOf_177 : decode cX7_livingOf 177 = .ok (.lreturn, 1) := by decide +kernel
theorem dX7_isAlive_0 : decode cX7_isAlive 0 = .ok (.aload_n 0, 1) := by decide +kernel
theorem dX7_isAlive_1 : decode cX7_isAlive 1 = .ok (.aload_n 0, 1) := by decide +kernel
theorem dX7_isAlive_2 : decode cX7_isAlive 2 = .ok (.iload_n 1, 1) := by decide +kernel
theorem dX7_isAlive_3 : decode cX7_isAlive 3 = .ok (.invokevirtual 223, 3) := by decide +kernel
theorem dX7_isAlive_6 : decode cX7_isAlive 6 = .ok (.ifCond .eq 7, 3) := by decide +kernel
theorem dX7_isAlive_9 : decode cX7_isAlive 9 = .ok (.iconst 0, 1) := by decide +kernel
theorem dX7_isAlive_10 : decode cX7_isAlive 10 = .ok (.goto 4, 3) := by decide +kernel
theorem dX7_isAlive_13 : decode cX7_isAlive 13 = .ok (.iconst 1, 1) := by decide +kernel
theorem dX7_isAlive_14 : decode cX7_isAlive 14 = .ok (.putfield 51, 3) := by decide +kernel
theorem dX7_isAlive_17 : decode cX7_isAlive 17 = .ok (.aload_n 0, 1) := by decide +kernel
theorem dX7_isAlive_18 : decode cX7_isAlive 18 = .ok (.getfield 51, 3) := by decide +kernel
theorem dX7_isAlive_21 : decode cX7_isAlive 21 = .ok (.ifCond .ne 31, 3) := by decide +kernel
theorem dX7_isAlive_24 : decode cX7_isAlive 24 = .ok (.aload_n 0, 1) := by decide +kernel
theorem dX7_isAlive_25 : decode cX7_isAlive 25 = .ok (.iload_n 1, 1) := by decide +kernel
theorem dX7_isAlive_26 : decode cX7_isAlive 26 = .ok (.invokevirtual 203, 3) := by decide +kernel
theorem dX7_isAlive_29 : decode cX7_isAlive 29 = .ok (.ifCond .le 23, 3) := by decide +kernel
theorem dX7_isAlive_32 : decode cX7_isAlive 32 = .ok (.aload_n 0, 1) := by decide +kernel
theorem dX7_isAlive_33 : decode cX7_isAlive 33 = .ok (.aload_n 0, 1) := by decide +kernel
theorem dX7_isAlive_34 : decode cX7_isAlive 34 = .ok (.iload_n 1, 1) := by decide +kernel
theorem dX7_isAlive_35 : decode cX7_isAlive 35 = .ok (.invokevirtual 203, 3) := by decide +kernel
theorem dX7_isAlive_38 : decode cX7_isAlive 38 = .ok (.invokevirtual 302, 3) := by decide +kernel
theorem dX7_isAlive_41 : decode cX7_isAlive 41 = .ok (.iload_n 1, 1) := by decide +kernel
theorem dX7_isAlive_42 : decode cX7_isAlive 42 = .ok (.invokestatic 183, 3) := by decide +kernel
theorem dX7_isAlive_45 : decode cX7_isAlive 45 = .ok (.ifCond .eq 7, 3) := by decide +kernel
theorem dX7_isAlive_48 : decode cX7_isAlive 48 = .ok (.iconst 1, 1) := by decide +kernel
theorem dX7_isAlive_49 : decode cX7_isAlive 49 = .ok (.goto 4, 3) := by decide +kernel
theorem dX7_isAlive_52 : decode cX7_isAlive 52 = .ok (.iconst 0, 1) := by decide +kernel
theorem dX7_isAlive_53 : decode cX7_isAlive 53 = .ok (.ireturn, 1) := by decide +kernel
theorem dX7_alive_0 : decode cX7_alive 0 = .ok (.aload_n 0, 1) := by decide +kernel
theorem dX7_alive_1 : decode cX7_alive 1 = .ok (.iload_n 1, 1) := by decide +kernel
theorem dX7_alive_2 : decode cX7_alive 2 = .ok (.invokestatic 241, 3) := by decide +kernel
theorem dX7_alive_5 : decode cX7_alive 5 = .ok (.ifCond .eq 7, 3) := by decide +kernel
theorem dX7_alive_8 : decode cX7_alive 8 = .ok (.iconst 0, 1) := by decide +kernel
theorem dX7_alive_9 : decode cX7_alive 9 = .ok (.goto 4, 3) := by decide +kernel
theorem dX7_alive_12 : decode cX7_alive 12 = .ok (.iconst 1, 1) := by decide +kernel
theorem dX7_alive_13 : decode cX7_alive 13 = .ok (.putfield 51, 3) := by decide +kernel
theorem dX7_alive_16 : decode cX7_alive 16 = .ok (.aload_n 0, 1) := by decide +kernel
theorem dX7_alive_17 : decode cX7_alive 17 = .ok (.getfield 51, 3) := by decide +kernel
theorem dX7_alive_20 : decode cX7_alive 20 = .ok (.ifCond .le 7, 3) := by decide +kernel
theorem dX7_alive_23 : decode cX7_alive 23 = .ok (.iconst 0, 1) := by decide +kernel
theorem dX7_alive_24 : decode cX7_alive 24 = .ok (.goto 11, 3) := by decide +kernel
theorem dX7_alive_27 : decode cX7_alive 27 = .ok (.aload_n 0, 1) := by decide +kernel
theorem dX7_alive_28 : decode cX7_alive 28 = .ok (.iload_n 1, 1) := by decide +kernel
theorem dX7_alive_29 : decode cX7_alive 29 = .ok (.invokevirtual 302, 3) := by decide +kernel
theorem dX7_alive_32 : decode cX7_alive 32 = .ok (.invokestatic 57, 3) := by decide +kernel
theorem dX7_alive_35 : decode cX7_alive 35 = .ok (.ireturn, 1) := by decide +kernel
theorem dX7_isCaught_0 : decode cX7_isCaught 0 = .ok (.aload_n 0, 1) := by decide +kernel
theorem dX7_isCaught_1 : decode cX7_isCaught 1 = .ok (.aload_n 0, 1) := by decide +kernel
theorem dX7_isCaught_2 : decode cX7_isCaught 2 = .ok (.lload_n 1, 1) := by decide +kernel
theorem dX7_isCaught_3 : decode cX7_isCaught 3 = .ok (.iload 5, 2) := by decide +kernel
theorem dX7_isCaught_5 : decode cX7_isCaught 5 = .ok (.invokevirtual 210, 3) := by decide +kernel
theorem dX7_isCaught_8 : decode cX7_isCaught 8 = .ok (.invokevirtual 214, 3) := by decide +kernel
theorem dX7_isCaught_11 : decode cX7_isCaught 11 = .ok (.aload_n 0, 1) := by decide +kernel
theorem dX7_isCaught_12 : decode cX7_isCaught 12 = .ok (.invokevirtual 199, 3) := by decide +kernel
theorem dX7_isCaught_15 : decode cX7_isCaught 15 = .ok (.land, 1) := by decide +kernel
theorem dX7_isCaught_16 : decode cX7_isCaught 16 = .ok (.lload_n 1, 1) := by decide +kernel
theorem dX7_isCaught_17 : decode cX7_isCaught 17 = .ok (.lload_n 3, 1) := by decide +kernel
theorem dX7_isCaught_18 : decode cX7_isCaught 18 = .ok (.lor, 1) := by decide +kernel
theorem dX7_isCaught_19 : decode cX7_isCaught 19 = .ok (.ldc2_w 49, 3) := by decide +kernel
theorem dX7_isCaught_22 : decode cX7_isCaught 22 = .ok (.lxor, 1) := by decide +kernel
theorem dX7_isCaught_23 : decode cX7_isCaught 23 = .ok (.land, 1) := by decide +kernel
theorem dX7_isCaught_24 : decode cX7_isCaught 24 = .ok (.lstore 7, 2) := by decide +kernel
theorem dX7_isCaught_26 : decode cX7_isCaught 26 = .ok (.iconst 0, 1) := by decide +kernel
theorem dX7_isCaught_27 : decode cX7_isCaught 27 = .ok (.istore 9, 2) := by decide +kernel
theorem dX7_isCaught_29 : decode cX7_isCaught 29 = .ok (.iload 9, 2) := by decide +kernel
theorem dX7_isCaught_31 : decode cX7_isCaught 31 = .ok (.aload_n 0, 1) := by decide +kernel
theorem dX7_isCaught_32 : decode cX7_isCaught 32 = .ok (.invokevirtual 180, 3) := by decide +kernel
theorem dX7_isCaught_35 : decode cX7_isCaught 35 = .ok (.if_icmp .ge 150, 3) := by decide +kernel
theorem dX7_isCaught_38 : decode cX7_isCaught 38 = .ok (.lload 7, 2) := by decide +kernel
theorem dX7_isCaught_40 : decode cX7_isCaught 40 = .ok (.iload 9, 2) := by decide +kernel
theorem dX7_isCaught_42 : decode cX7_isCaught 42 = .ok (.invokestatic 183, 3) := by decide +kernel
theorem dX7_isCaught_45 : decode cX7_isCaught 45 = .ok (.ifCond .eq 134, 3) := by decide +kernel
theorem dX7_isCaught_48 : decode cX7_isCaught 48 = .ok (.aload_n 0, 1) := by decide +kernel
theorem dX7_isCaught_49 : decode cX7_isCaught 49 = .ok (.lload_n 3, 1) := by decide +kernel
theorem dX7_isCaught_50 : decode cX7_isCaught 50 = .ok (.lload_n 1, 1) := by decide +kernel
theorem dX7_isCaught_51 : decode cX7_isCaught 51 = .ok (.iload 9, 2) := by decide +kernel
theorem dX7_isCaught_53 : decode cX7_isCaught 53 = .ok (.invokevirtual 264, 3) := by decide +kernel
theorem dX7_isCaught_56 : decode cX7_isCaught 56 = .ok (.ifCond .ne 6, 3) := by decide +kernel
theorem dX7_isCaught_59 : decode cX7_isCaught 59 = .ok (.goto 120, 3) := by decide +kernel
theorem dX7_isCaught_62 : decode cX7_isCaught 62 = .ok (.aload_n 0, 1) := by decide +kernel
theorem dX7_isCaught_63 : decode cX7_isCaught 63 = .ok (.getfield 255, 3) := by decide +kernel
theorem dX7_isCaught_66 : decode cX7_isCaught 66 = .ok (.iload 5, 2) := by decide +kernel
theorem dX7_isCaught_68 : decode cX7_isCaught 68 = .ok (.invokestatic 183, 3) := by decide +kernel
theorem dX7_isCaught_71 : decode cX7_isCaught 71 = .ok (.ifCond .ne 5, 3) := by decide +kernel
theorem dX7_isCaught_74 : decode cX7_isCaught 74 = .ok (.iconst 1, 1) := by decide +kernel
theorem dX7_isCaught_75 : decode cX7_isCaught 75 = .ok (.ireturn, 1) := by decide +kernel
theorem dX7_isCaught_76 : decode cX7_isCaught 76 = .ok (.iload 6, 2) := by decide +kernel
theorem dX7_isCaught_78 : decode cX7_isCaught 78 = .ok (.iconst 1, 1) := by decide +kernel
theorem dX7_isCaught_79 : decode cX7_isCaught 79 = .ok (.if_icmp .ne 6, 3) := by decide +kernel
theorem dX7_isCaught_82 : decode cX7_isCaught 82 = .ok (.goto 97, 3) := by decide +kernel
theorem dX7_isCaught_85 : decode cX7_isCaught 85 = .ok (.aload_n 0, 1) := by decide +kernel
theorem dX7_isCaught_86 : decode cX7_isCaught 86 = .ok (.getfield 255, 3) := by decide +kernel
theorem dX7_isCaught_89 : decode cX7_isCaught 89 = .ok (.lstore 10, 2) := by decide +kernel
theorem dX7_isCaught_91 : decode cX7_isCaught 91 = .ok (.aload_n 0, 1) := by decide +kernel
theorem dX7_isCaught_92 : decode cX7_isCaught 92 = .ok (.getfield 248, 3) := by decide +kernel
theorem dX7_isCaught_95 : decode cX7_isCaught 95 = .ok (.lstore 12, 2) := by decide +kernel
theorem dX7_isCaught_97 : decode cX7_isCaught 97 = .ok (.aload_n 0, 1) := by decide +kernel
theorem dX7_isCaught_98 : decode cX7_isCaught 98 = .ok (.aload_n 0, 1) := by decide +kernel
theorem dX7_isCaught_99 : decode cX7_isCaught 99 = .ok (.lload 10, 2) := by decide +kernel
theorem dX7_isCaught_101 : decode cX7_isCaught 101 = .ok (.iload 5, 2) := by decide +kernel
theorem dX7_isCaught_103 : decode cX7_isCaught 103 = .ok (.invokevirtual 210, 3) := by decide +kernel
theorem dX7_isCaught_106 : decode cX7_isCaught 106 = .ok (.invokevirtual 214, 3) := by decide +kernel
theorem dX7_isCaught_109 : decode cX7_isCaught 109 = .ok (.aload_n 0, 1) := by decide +kernel
theorem dX7_isCaught_110 : decode cX7_isCaught 110 = .ok (.invokevirtual 199, 3) := by decide +kernel
theorem dX7_isCaught_113 : decode cX7_isCaught 113 = .ok (.land, 1) := by decide +kernel
theorem dX7_isCaught_114 : decode cX7_isCaught 114 = .ok (.lload 10, 2) := by decide +kernel
theorem dX7_isCaught_116 : decode cX7_isCaught 116 = .ok (.lload 12, 2) := by decide +kernel
theorem dX7_isCaught_118 : decode cX7_isCaught 118 = .ok (.lor, 1) := by decide +kernel
theorem dX7_isCaught_119 : decode cX7_isCaught 119 = .ok (.ldc2_w 49, 3) := by decide +kernel
theorem dX7_isCaught_122 : decode cX7_isCaught 122 = .ok (.lxor, 1) := by decide +kernel
theorem dX7_isCaught_123 : decode cX7_isCaught 123 = .ok (.land, 1) := by decide +kernel
theorem dX7_isCaught_124 : decode cX7_isCaught 124 = .ok (.lstore 14, 2) := by decide +kernel
theorem dX7_isCaught_126 : decode cX7_isCaught 126 = .ok (.lload 14, 2) := by decide +kernel
theorem dX7_isCaught_128 : decode cX7_isCaught 128 = .ok (.invokestatic 57, 3) := by decide +kernel
theorem dX7_isCaught_131 : decode cX7_isCaught 131 = .ok (.iconst 1, 1) := by decide +kernel
theorem dX7_isCaught_132 : decode cX7_isCaught 132 = .ok (.if_icmp .eq 6, 3) := by decide +kernel
theorem dX7_isCaught_135 : decode cX7_isCaught 135 = .ok (.goto 44, 3) := by decide +kernel
theorem dX7_isCaught_138 : decode cX7_isCaught 138 = .ok (.aload_n 0, 1) := by decide +kernel
theorem dX7_isCaught_139 : decode cX7_isCaught 139 = .ok (.lload 10, 2) := by decide +kernel
theorem dX7_isCaught_141 : decode cX7_isCaught 141 = .ok (.lload 12, 2) := by decide +kernel
theorem dX7_isCaught_143 : decode cX7_isCaught 143 = .ok (.lload 14, 2) := by decide +kernel
theorem dX7_isCaught_145 : decode cX7_isCaught 145 = .ok (.invokestatic 234, 3) := by decide +kernel
theorem dX7_isCaught_148 : decode cX7_isCaught 148 = .ok (.invokevirtual 264, 3) := by decide +kernel
theorem dX7_isCaught_151 : decode cX7_isCaught 151 = .ok (.ifCond .ne 5, 3) := by decide +kernel
theorem dX7_isCaught_154 : decode cX7_isCaught 154 = .ok (.iconst 1, 1) := by decide +kernel
theorem dX7_isCaught_155 : decode cX7_isCaught 155 = .ok (.ireturn, 1) := by decide +kernel
theorem dX7_isCaught_156 : decode cX7_isCaught 156 = .ok (.aload_n 0, 1) := by decide +kernel
theorem dX7_isCaught_157 : decode cX7_isCaught 157 = .ok (.aload_n 0, 1) := by decide +kernel
theorem dX7_isCaught_158 : decode cX7_isCaught 158 = .ok (.getfield 248, 3) := by decide +kernel
theorem dX7_isCaught_161 : decode cX7_isCaught 161 = .ok (.aload_n 0, 1) := by decide +kernel
theorem dX7_isCaught_162 : decode cX7_isCaught 162 = .ok (.getfield 255, 3) := by decide +kernel
theorem dX7_isCaught_165 : decode cX7_isCaught 165 = .ok (.iload 5, 2) := by decide +kernel
theorem dX7_isCaught_167 : decode cX7_isCaught 167 = .ok (.iload 6, 2) := by decide +kernel
theorem dX7_isCaught_169 : decode cX7_isCaught 169 = .ok (.iconst 1, 1) := by decide +kernel
theorem dX7_isCaught_170 : decode cX7_isCaught 170 = .ok (.isub, 1) := by decide +kernel
theorem dX7_isCaught_171 : decode cX7_isCaught 171 = .ok (.invokevirtual 305, 3) := by decide +kernel
theorem dX7_isCaught_174 : decode cX7_isCaught 174 = .ok (.ifCond .eq 5, 3) := by decide +kernel
theorem dX7_isCaught_177 : decode cX7_isCaught 177 = .ok (.iconst 1, 1) := by decide +kernel
theorem dX7_isCaught_178 : decode cX7_isCaught 178 = .ok (.ireturn, 1) := by decide +kernel
theorem dX7_isCaught_179 : decode cX7_isCaught 179 = .ok (.iinc 9 1, 3) := by decide +kernel
theorem dX7_isCaught_182 : decode cX7_isCaught 182 = .ok (.goto (-153), 3) := by decide +kernel
theorem dX7_isCaught_185 : decode cX7_isCaught 185 = .ok (.iconst 0, 1) := by decide +kernel
theorem dX7_isCaught_186 : decode cX7_isCaught 186 = .ok (.ireturn, 1) := by decide +kernel
theorem dX7_caughtBy_0 : decode cX7_caughtBy 0 = .ok (.aload_n 0, 1) := by decide +kernel
theorem dX7_caughtBy_1 : decode cX7_caughtBy 1 = .ok (.aload_n 0, 1) := by decide +kernel
theorem dX7_caughtBy_2 : decode cX7_caughtBy 2 = .ok (.iload_n 1, 1) := by decide +kernel
theorem dX7_caughtBy_3 : decode cX7_caughtBy 3 = .ok (.invokevirtual 223, 3) := by decide +kernel
theorem dX7_caughtBy_6 : decode cX7_caughtBy 6 = .ok (.ifCond .ne 7, 3) := by decide +kernel
theorem dX7_caughtBy_9 : decode cX7_caughtBy 9 = .ok (.iconst 1, 1) := by decide +kernel
theorem dX7_caughtBy_10 : decode cX7_caughtBy 10 = .ok (.goto 16, 3) := by decide +kernel
theorem dX7_caughtBy_13 : decode cX7_caughtBy 13 = .ok (.aload_n 0, 1) := by decide +kernel
theorem dX7_caughtBy_14 : decode cX7_caughtBy 14 = .ok (.iload_n 1, 1) := by decide +kernel
theorem dX7_caughtBy_15 : decode cX7_caughtBy 15 = .ok (.invokevirtual 203, 3) := by decide +kernel
theorem dX7_caughtBy_18 : decode cX7_caughtBy 18 = .ok (.ifCond .ne 7, 3) := by decide +kernel
theorem dX7_caughtBy_21 : decode cX7_caughtBy 21 = .ok (.iconst 2, 1) := by decide +kernel
theorem dX7_caughtBy_22 : decode cX7_caughtBy 22 = .ok (.goto 4, 3) := by decide +kernel
theorem dX7_caughtBy_25 : decode cX7_caughtBy 25 = .ok (.iconst 0, 1) := by decide +kernel
theorem dX7_caughtBy_26 : decode cX7_caughtBy 26 = .ok (.putfield 51, 3) := by decide +kernel
theorem dX7_caughtBy_29 : decode cX7_caughtBy 29 = .ok (.aload_n 0, 1) := by decide +kernel
theorem dX7_caughtBy_30 : decode cX7_caughtBy 30 = .ok (.getfield 51, 3) := by decide +kernel
theorem dX7_caughtBy_33 : decode cX7_caughtBy 33 = .ok (.ifCond .le 5, 3) := by decide +kernel
theorem dX7_caughtBy_36 : decode cX7_caughtBy 36 = .ok (.iconst 0, 1) := by decide +kernel
theorem dX7_caughtBy_37 : decode cX7_caughtBy 37 = .ok (.ireturn, 1) := by decide +kernel
theorem dX7_caughtBy_38 : decode cX7_caughtBy 38 = .ok (.iconst 1, 1) := by decide +kernel
theorem dX7_caughtBy_39 : decode cX7_caughtBy 39 = .ok (.istore_n 2, 1) := by decide +kernel
theorem dX7_caughtBy_40 : decode cX7_caughtBy 40 = .ok (.iload_n 2, 1) := by decide +kernel
theorem dX7_caughtBy_41 : decode cX7_caughtBy 41 = .ok (.bipush 8, 2) := by decide +kernel
theorem dX7_caughtBy_43 : decode cX7_caughtBy 43 = .ok (.if_icmp .gt 40, 3) := by decide +kernel
theorem dX7_caughtBy_46 : decode cX7_caughtBy 46 = .ok (.aload_n 0, 1) := by decide +kernel
theorem dX7_caughtBy_47 : decode cX7_caughtBy 47 = .ok (.aload_n 0, 1) := by decide +kernel
theorem dX7_caughtBy_48 : decode cX7_caughtBy 48 = .ok (.aload_n 0, 1) := by decide +kernel
theorem dX7_caughtBy_49 : decode cX7_caughtBy 49 = .ok (.iload_n 1, 1) := by decide +kernel
theorem dX7_caughtBy_50 : decode cX7_caughtBy 50 = .ok (.invokevirtual 203, 3) := by decide +kernel
theorem dX7_caughtBy_53 : decode cX7_caughtBy 53 = .ok (.invokevirtual 206, 3) := by decide +kernel
theorem dX7_caughtBy_56 : decode cX7_caughtBy 56 = .ok (.aload_n 0, 1) := by decide +kernel
theorem dX7_caughtBy_57 : decode cX7_caughtBy 57 = .ok (.iconst 3, 1) := by decide +kernel
theorem dX7_caughtBy_58 : decode cX7_caughtBy 58 = .ok (.aload_n 0, 1) := by decide +kernel
theorem dX7_caughtBy_59 : decode cX7_caughtBy 59 = .ok (.iload_n 1, 1) := by decide +kernel
theorem dX7_caughtBy_60 : decode cX7_caughtBy 60 = .ok (.invokevirtual 203, 3) := by decide +kernel
theorem dX7_caughtBy_63 : decode cX7_caughtBy 63 = .ok (.isub, 1) := by decide +kernel
theorem dX7_caughtBy_64 : decode cX7_caughtBy 64 = .ok (.invokevirtual 206, 3) := by decide +kernel
theorem dX7_caughtBy_67 : decode cX7_caughtBy 67 = .ok (.iload_n 1, 1) := by decide +kernel
theorem dX7_caughtBy_68 : decode cX7_caughtBy 68 = .ok (.iload_n 2, 1) := by decide +kernel
theorem dX7_caughtBy_69 : decode cX7_caughtBy 69 = .ok (.invokevirtual 305, 3) := by decide +kernel
theorem dX7_caughtBy_72 : decode cX7_caughtBy 72 = .ok (.ifCond .eq 5, 3) := by decide +kernel
theorem dX7_caughtBy_75 : decode cX7_caughtBy 75 = .ok (.iload_n 2, 1) := by decide +kernel
theorem dX7_caughtBy_76 : decode cX7_caughtBy 76 = .ok (.ireturn, 1) := by decide +kernel
theorem dX7_caughtBy_77 : decode cX7_caughtBy 77 = .ok (.iinc 2 1, 3) := by decide +kernel
theorem dX7_caughtBy_80 : decode cX7_caughtBy 80 = .ok (.goto (-40), 3) := by decide +kernel
theorem dX7_caughtBy_83 : decode cX7_caughtBy 83 = .ok (.iconst (-1), 1) := by decide +kernel
theorem dX7_caughtBy_84 : decode cX7_caughtBy 84 = .ok (.ireturn, 1) := by decide +kernel
theorem dX7_areaOf_0 : decode cX7_areaOf 0 = .ok (.aload_n 0, 1) := by decide +kernel
theorem dX7_areaOf_1 : decode cX7_areaOf 1 = .ok (.iload_n 1, 1) := by decide +kernel
theorem dX7_areaOf_2 : decode cX7_areaOf 2 = .ok (.invokevirtual 206, 3) := by decide +kernel
theorem dX7_areaOf_5 : decode cX7_areaOf 5 = .ok (.invokestatic 57, 3) := by decide +kernel
theorem dX7_areaOf_8 : decode cX7_areaOf 8 = .ok (.istore_n 2, 1) := by decide +kernel
theorem dX7_areaOf_9 : decode cX7_areaOf 9 = .ok (.iconst 0, 1) := by decide +kernel
theorem dX7_areaOf_10 : decode cX7_areaOf 10 = .ok (.istore_n 3, 1) := by decide +kernel
theorem dX7_areaOf_11 : decode cX7_areaOf 11 = .ok (.iload_n 3, 1) := by decide +kernel
theorem dX7_areaOf_12 : decode cX7_areaOf 12 = .ok (.aload_n 0, 1) := by decide +kernel
theorem dX7_areaOf_13 : decode cX7_areaOf 13 = .ok (.invokevirtual 180, 3) := by decide +kernel
theorem dX7_areaOf_16 : decode cX7_areaOf 16 = .ok (.if_icmp .ge 38, 3) := by decide +kernel
theorem dX7_areaOf_19 : decode cX7_areaOf 19 = .ok (.iload_n 2, 1) := by decide +kernel
theorem dX7_areaOf_20 : decode cX7_areaOf 20 = .ok (.aload_n 0, 1) := by decide +kernel
theorem dX7_areaOf_21 : decode cX7_areaOf 21 = .ok (.iload_n 3, 1) := by decide +kernel
theorem dX7_areaOf_22 : decode cX7_areaOf 22 = .ok (.invokevirtual 203, 3) := by decide +kernel
theorem dX7_areaOf_25 : decode cX7_areaOf 25 = .ok (.ifCond .ne 20, 3) := by decide +kernel
theorem dX7_areaOf_28 : decode cX7_areaOf 28 = .ok (.aload_n 0, 1) := by decide +kernel
theorem dX7_areaOf_29 : decode cX7_areaOf 29 = .ok (.aload_n 0, 1) := by decide +kernel
theorem dX7_areaOf_30 : decode cX7_areaOf 30 = .ok (.iload_n 3, 1) := by decide +kernel
theorem dX7_areaOf_31 : decode cX7_areaOf 31 = .ok (.invokevirtual 289, 3) := by decide +kernel
theorem dX7_areaOf_34 : decode cX7_areaOf 34 = .ok (.invokevirtual 292, 3) := by decide +kernel
theorem dX7_areaOf_37 : decode cX7_areaOf 37 = .ok (.iload_n 1, 1) := by decide +kernel
theorem dX7_areaOf_38 : decode cX7_areaOf 38 = .ok (.if_icmp .ne 7, 3) := by decide +kernel
theorem dX7_areaOf_41 : decode cX7_areaOf 41 = .ok (.iconst 1, 1) := by decide +kernel
theorem dX7_areaOf_42 : decode cX7_areaOf 42 = .ok (.goto 4, 3) := by decide +kernel
theorem dX7_areaOf_45 : decode cX7_areaOf 45 = .ok (.iconst 0, 1) := by decide +kernel
theorem dX7_areaOf_46 : decode cX7_areaOf 46 = .ok (.iadd, 1) := by decide +kernel
theorem dX7_areaOf_47 : decode cX7_areaOf 47 = .ok (.istore_n 2, 1) := by decide +kernel
theorem dX7_areaOf_48 : decode cX7_areaOf 48 = .ok (.iinc 3 1, 3) := by decide +kernel
theorem dX7_areaOf_51 : decode cX7_areaOf 51 = .ok (.goto (-40), 3) := by decide +kernel
theorem dX7_areaOf_54 : decode cX7_areaOf 54 = .ok (.iload_n 2, 1) := by decide +kernel
theorem dX7_areaOf_55 : decode cX7_areaOf 55 = .ok (.ireturn, 1) := by decide +kernel
theorem dX7_area_0 : decode cX7_area 0 = .ok (.aload_n 0, 1) := by decide +kernel
theorem dX7_area_1 : decode cX7_area 1 = .ok (.iload_n 1, 1) := by decide +kernel
theorem dX7_area_2 : decode cX7_area 2 = .ok (.invokestatic 241, 3) := by decide +kernel
theorem dX7_area_5 : decode cX7_area 5 = .ok (.ifCond .eq 7, 3) := by decide +kernel
theorem dX7_area_8 : decode cX7_area 8 = .ok (.iconst 0, 1) := by decide +kernel
theorem dX7_area_9 : decode cX7_area 9 = .ok (.goto 4, 3) := by decide +kernel
theorem dX7_area_12 : decode cX7_area 12 = .ok (.iconst 1, 1) := by decide +kernel
theorem dX7_area_13 : decode cX7_area 13 = .ok (.putfield 51, 3) := by decide +kernel
theorem dX7_area_16 : decode cX7_area 16 = .ok (.aload_n 0, 1) := by decide +kernel
theorem dX7_area_17 : decode cX7_area 17 = .ok (.getfield 51, 3) := by decide +kernel
theorem dX7_area_20 : decode cX7_area 20 = .ok (.ifCond .le 7, 3) := by decide +kernel
theorem dX7_area_23 : decode cX7_area 23 = .ok (.iconst 0, 1) := by decide +kernel
theorem dX7_area_24 : decode cX7_area 24 = .ok (.goto 8, 3) := by decide +kernel
theorem dX7_area_27 : decode cX7_area 27 = .ok (.aload_n 0, 1) := by decide +kernel
theorem dX7_area_28 : decode cX7_area 28 = .ok (.iload_n 1, 1) := by decide +kernel
theorem dX7_area_29 : decode cX7_area 29 = .ok (.invokevirtual 309, 3) := by decide +kernel
theorem dX7_area_32 : decode cX7_area 32 = .ok (.ireturn, 1) := by decide +kernel
theorem dX7_score_0 : decode cX7_score 0 = .ok (.aload_n 0, 1) := by decide +kernel
theorem dX7_score_1 : decode cX7_score 1 = .ok (.iconst 0, 1) := by decide +kernel
theorem dX7_score_2 : decode cX7_score 2 = .ok (.putfield 51, 3) := by decide +kernel
theorem dX7_score_5 : decode cX7_score 5 = .ok (.aload_n 0, 1) := by decide +kernel
theorem dX7_score_6 : decode cX7_score 6 = .ok (.iconst 1, 1) := by decide +kernel
theorem dX7_score_7 : decode cX7_score 7 = .ok (.invokevirtual 309, 3) := by decide +kernel
theorem dX7_score_10 : decode cX7_score 10 = .ok (.aload_n 0, 1) := by decide +kernel
theorem dX7_score_11 : decode cX7_score 11 = .ok (.iconst 2, 1) := by decide +kernel
theorem dX7_score_12 : decode cX7_score 12 = .ok (.invokevirtual 309, 3) := by decide +kernel
theorem dX7_score_15 : decode cX7_score 15 = .ok (.isub, 1) := by decide +kernel
theorem dX7_score_16 : decode cX7_score 16 = .ok (.aload_n 0, 1) := by decide +kernel
theorem dX7_score_17 : decode cX7_score 17 = .ok (.getfield 7, 3) := by decide +kernel
theorem dX7_score_20 : decode cX7_score 20 = .ok (.bipush 9, 2) := by decide +kernel
theorem dX7_score_22 : decode cX7_score 22 = .ok (.laload, 1) := by decide +kernel
theorem dX7_score_23 : decode cX7_score 23 = .ok (.l2i, 1) := by decide +kernel
theorem dX7_score_24 : decode cX7_score 24 = .ok (.isub, 1) := by decide +kernel
theorem dX7_score_25 : decode cX7_score 25 = .ok (.ireturn, 1) := by decide +kernel
theorem dX7_share_0 : decode cX7_share 0 = .ok (.aload_n 0, 1) := by decide +kernel
theorem dX7_share_1 : decode cX7_share 1 = .ok (.iload_n 1, 1) := by decide +kernel
theorem dX7_share_2 : decode cX7_share 2 = .ok (.invokestatic 241, 3) := by decide +kernel
theorem dX7_share_5 : decode cX7_share 5 = .ok (.ifCond .eq 7, 3) := by decide +kernel
theorem dX7_share_8 : decode cX7_share 8 = .ok (.iconst 0, 1) := by decide +kernel
theorem dX7_share_9 : decode cX7_share 9 = .ok (.goto 4, 3) := by decide +kernel
theorem dX7_share_12 : decode cX7_share 12 = .ok (.iconst 1, 1) := by decide +kernel
theorem dX7_share_13 : decode cX7_share 13 = .ok (.putfield 51, 3) := by decide +kernel
theorem dX7_share_16 : decode cX7_share 16 = .ok (.aload_n 0, 1) := by decide +kernel
theorem dX7_share_17 : decode cX7_share 17 = .ok (.getfield 51, 3) := by decide +kernel
theorem dX7_share_20 : decode cX7_share 20 = .ok (.ifCond .le 7, 3) := by decide +kernel
theorem dX7_share_23 : decode cX7_share 23 = .ok (.fconst 0, 1) := by decide +kernel
theorem dX7_share_24 : decode cX7_share 24 = .ok (.goto 15, 3) := by decide +kernel
theorem dX7_share_27 : decode cX7_share 27 = .ok (.aload_n 0, 1) := by decide +kernel
theorem dX7_share_28 : decode cX7_share 28 = .ok (.iload_n 1, 1) := by decide +kernel
theorem dX7_share_29 : decode cX7_share 29 = .ok (.invokevirtual 309, 3) := by decide +kernel
theorem dX7_share_32 : decode cX7_share 32 = .ok (.i2f, 1) := by decide +kernel
theorem dX7_share_33 : decode cX7_share 33 = .ok (.aload_n 0, 1) := by decide +kernel
theorem dX7_share_34 : decode cX7_share 34 = .ok (.invokevirtual 180, 3) := by decide +kernel
theorem dX7_share_37 : decode cX7_share 37 = .ok (.i2f, 1) := by decide +kernel
theorem dX7_share_38 : decode cX7_share 38 = .ok (.fdiv, 1) := by decide +kernel
theorem dX7_share_39 : decode cX7_share 39 = .ok (.freturn, 1) := by decide +kernel
theorem dX7_writeRing_0 : decode cX7_writeRing 0 = .ok (.aload_n 0, 1) := by decide +kernel
theorem dX7_writeRing_1 : decode cX7_writeRing 1 = .ok (.iload_n 1, 1) := by decide +kernel
theorem dX7_writeRing_2 : decode cX7_writeRing 2 = .ok (.i2l, 1) := by decide +kernel
theorem dX7_writeRing_3 : decode cX7_writeRing 3 = .ok (.lconst 0, 1) := by decide +kernel
theorem dX7_writeRing_4 : decode cX7_writeRing 4 = .ok (.aload_n 0, 1) := by decide +kernel
theorem dX7_writeRing_5 : decode cX7_writeRing 5 = .ok (.getfield 7, 3) := by decide +kernel
theorem dX7_writeRing_8 : decode cX7_writeRing 8 = .ok (.iconst 0, 1) := by decide +kernel
theorem dX7_writeRing_9 : decode cX7_writeRing 9 = .ok (.laload, 1) := by decide +kernel
theorem dX7_writeRing_10 : decode cX7_writeRing 10 = .ok (.lconst 1, 1) := by decide +kernel
theorem dX7_writeRing_11 : decode cX7_writeRing 11 = .ok (.lsub, 1) := by decide +kernel
theorem dX7_writeRing_12 : decode cX7_writeRing 12 = .ok (.invokestatic 61, 3) := by decide +kernel
theorem dX7_writeRing_15 : decode cX7_writeRing 15 = .ok (.ifCond .eq 7, 3) := by decide +kernel
theorem dX7_writeRing_18 : decode cX7_writeRing 18 = .ok (.iconst 0, 1) := by decide +kernel
theorem dX7_writeRing_19 : decode cX7_writeRing 19 = .ok (.goto 4, 3) := by decide +kernel
theorem dX7_writeRing_22 : decode cX7_writeRing 22 = .ok (.iconst 1, 1) := by decide +kernel
theorem dX7_writeRing_23 : decode cX7_writeRing 23 = .ok (.putfield 51, 3) := by decide +kernel
theorem dX7_writeRing_26 : decode cX7_writeRing 26 = .ok (.aload_n 0, 1) := by decide +kernel
theorem dX7_writeRing_27 : decode cX7_writeRing 27 = .ok (.getfield 51, 3) := by decide +kernel
theorem dX7_writeRing_30 : decode cX7_writeRing 30 = .ok (.ifCond .le 5, 3) := by decide +kernel
theorem dX7_writeRing_33 : decode cX7_writeRing 33 = .ok (.iconst 0, 1) := by decide +kernel
theorem dX7_writeRing_34 : decode cX7_writeRing 34 = .ok (.ireturn, 1) := by decide +kernel
theorem dX7_writeRing_35 : decode cX7_writeRing 35 = .ok (.aload_n 0, 1) := by decide +kernel
theorem dX7_writeRing_36 : decode cX7_writeRing 36 = .ok (.aload_n 0, 1) := by decide +kernel
theorem dX7_writeRing_37 : decode cX7_writeRing 37 = .ok (.getfield 7, 3) := by decide +kernel
theorem dX7_writeRing_40 : decode cX7_writeRing 40 = .ok (.iconst 1, 1) := by decide +kernel
theorem dX7_writeRing_41 : decode cX7_writeRing 41 = .ok (.laload, 1) := by decide +kernel
theorem dX7_writeRing_42 : decode cX7_writeRing 42 = .ok (.l2i, 1) := by decide +kernel
theorem dX7_writeRing_43 : decode cX7_writeRing 43 = .ok (.putfield 312, 3) := by decide +kernel
theorem dX7_writeRing_46 : decode cX7_writeRing 46 = .ok (.iconst 0, 1) := by decide +kernel
theorem dX7_writeRing_47 : decode cX7_writeRing 47 = .ok (.istore_n 2, 1) := by decide +kernel
theorem dX7_writeRing_48 : decode cX7_writeRing 48 = .ok (.iload_n 2, 1) := by decide +kernel
theorem dX7_writeRing_49 : decode cX7_writeRing 49 = .ok (.aload_n 0, 1) := by decide +kernel
theorem dX7_writeRing_50 : decode cX7_writeRing 50 = .ok (.getfield 312, 3) := by decide +kernel
theorem dX7_writeRing_53 : decode cX7_writeRing 53 = .ok (.if_icmp .ge 72, 3) := by decide +kernel
theorem dX7_writeRing_56 : decode cX7_writeRing 56 = .ok (.aload_n 0, 1) := by decide +kernel
theorem dX7_writeRing_57 : decode cX7_writeRing 57 = .ok (.getfield 312, 3) := by decide +kernel
theorem dX7_writeRing_60 : decode cX7_writeRing 60 = .ok (.iload_n 1, 1) := by decide +kernel
theorem dX7_writeRing_61 : decode cX7_writeRing 61 = .ok (.imul, 1) := by decide +kernel
theorem dX7_writeRing_62 : decode cX7_writeRing 62 = .ok (.iload_n 2, 1) := by decide +kernel
theorem dX7_writeRing_63 : decode cX7_writeRing 63 = .ok (.iadd, 1) := by decide +kernel
theorem dX7_writeRing_64 : decode cX7_writeRing 64 = .ok (.istore_n 3, 1) := by decide +kernel
theorem dX7_writeRing_65 : decode cX7_writeRing 65 = .ok (.aload_n 0, 1) := by decide +kernel
theorem dX7_writeRing_66 : decode cX7_writeRing 66 = .ok (.getfield 34, 3) := by decide +kernel
theorem dX7_writeRing_69 : decode cX7_writeRing 69 = .ok (.iload_n 2, 1) := by decide +kernel
theorem dX7_writeRing_70 : decode cX7_writeRing 70 = .ok (.aload_n 0, 1) := by decide +kernel
theorem dX7_writeRing_71 : decode cX7_writeRing 71 = .ok (.iload_n 3, 1) := by decide +kernel
theorem dX7_writeRing_72 : decode cX7_writeRing 72 = .ok (.invokevirtual 203, 3) := by decide +kernel
theorem dX7_writeRing_75 : decode cX7_writeRing 75 = .ok (.iconst 1, 1) := by decide +kernel
theorem dX7_writeRing_76 : decode cX7_writeRing 76 = .ok (.if_icmp .ne 8, 3) := by decide +kernel
theorem dX7_writeRing_79 : decode cX7_writeRing 79 = .ok (.bipush 98, 2) := by decide +kernel
theorem dX7_writeRing_81 : decode cX7_writeRing 81 = .ok (.goto 37, 3) := by decide +kernel
theorem dX7_writeRing_84 : decode cX7_writeRing 84 = .ok (.aload_n 0, 1) := by decide +kernel
theorem dX7_writeRing_85 : decode cX7_writeRing 85 = .ok (.iload_n 3, 1) := by decide +kernel
theorem dX7_writeRing_86 : decode cX7_writeRing 86 = .ok (.invokevirtual 203, 3) := by decide +kernel
theorem dX7_writeRing_89 : decode cX7_writeRing 89 = .ok (.iconst 2, 1) := by decide +kernel
theorem dX7_writeRing_90 : decode cX7_writeRing 90 = .ok (.if_icmp .ne 8, 3) := by decide +kernel
theorem dX7_writeRing_93 : decode cX7_writeRing 93 = .ok (.bipush 119, 2) := by decide +kernel
theorem dX7_writeRing_95 : decode cX7_writeRing 95 = .ok (.goto 23, 3) := by decide +kernel
theorem dX7_writeRing_98 : decode cX7_writeRing 98 = .ok (.aload_n 0, 1) := by decide +kernel
theorem dX7_writeRing_99 : decode cX7_writeRing 99 = .ok (.getfield 7, 3) := by decide +kernel
theorem dX7_writeRing_102 : decode cX7_writeRing 102 = .ok (.bipush 7, 2) := by decide +kernel
theorem dX7_writeRing_104 : decode cX7_writeRing 104 = .ok (.laload, 1) := by decide +kernel
theorem dX7_writeRing_105 : decode cX7_writeRing 105 = .ok (.iload_n 3, 1) := by decide +kernel
theorem dX7_writeRing_106 : decode cX7_writeRing 106 = .ok (.i2l, 1) := by decide +kernel
theorem dX7_writeRing_107 : decode cX7_writeRing 107 = .ok (.lcmp, 1) := by decide +kernel
theorem dX7_writeRing_108 : decode cX7_writeRing 108 = .ok (.ifCond .ne 8, 3) := by decide +kernel
theorem dX7_writeRing_111 : decode cX7_writeRing 111 = .ok (.bipush 120, 2) := by decide +kernel
theorem dX7_writeRing_113 : decode cX7_writeRing 113 = .ok (.goto 5, 3) := by decide +kernel
theorem dX7_writeRing_116 : decode cX7_writeRing 116 = .ok (.bipush 111, 2) := by decide +kernel
theorem dX7_writeRing_118 : decode cX7_writeRing 118 = .ok (.iastore, 1) := by decide +kernel
theorem dX7_writeRing_119 : decode cX7_writeRing 119 = .ok (.iinc 2 1, 3) := by decide +kernel
theorem dX7_writeRing_122 : decode cX7_writeRing 122 = .ok (.goto (-74), 3) := by decide +kernel
theorem dX7_writeRing_125 : decode cX7_writeRing 125 = .ok (.aload_n 0, 1) := by decide +kernel
theorem dX7_writeRing_126 : decode cX7_writeRing 126 = .ok (.getfield 312, 3) := by decide +kernel
theorem dX7_writeRing_129 : decode cX7_writeRing 129 = .ok (.ireturn, 1) := by decide +kernel
theorem dX7_writtenByte_0 : decode cX7_writtenByte 0 = .ok (.aload_n 0, 1) := by decide +kernel
theorem dX7_writtenByte_1 : decode cX7_writtenByte 1 = .ok (.iload_n 1, 1) := by decide +kernel
theorem dX7_writtenByte_2 : decode cX7_writtenByte 2 = .ok (.i2l, 1) := by decide +kernel
theorem dX7_writtenByte_3 : decode cX7_writtenByte 3 = .ok (.lconst 0, 1) := by decide +kernel
theorem dX7_writtenByte_4 : decode cX7_writtenByte 4 = .ok (.aload_n 0, 1) := by decide +kernel
theorem dX7_writtenByte_5 : decode cX7_writtenByte 5 = .ok (.getfield 312, 3) := by decide +kernel
theorem dX7_writtenByte_8 : decode cX7_writtenByte 8 = .ok (.iconst 1, 1) := by decide +kernel
theorem dX7_writtenByte_9 : decode cX7_writtenByte 9 = .ok (.isub, 1) := by decide +kernel
theorem dX7_writtenByte_10 : decode cX7_writtenByte 10 = .ok (.i2l, 1) := by decide +kernel
theorem dX7_writtenByte_11 : decode cX7_writtenByte 11 = .ok (.invokestatic 61, 3) := by decide +kernel
theorem dX7_writtenByte_14 : decode cX7_writtenByte 14 = .ok (.ifCond .eq 7, 3) := by decide +kernel
theorem dX7_writtenByte_17 : decode cX7_writtenByte 17 = .ok (.iconst 0, 1) := by decide +kernel
theorem dX7_writtenByte_18 : decode cX7_writtenByte 18 = .ok (.goto 4, 3) := by decide +kernel
theorem dX7_writtenByte_21 : decode cX7_writtenByte 21 = .ok (.iconst 1, 1) := by decide +kernel
theorem dX7_writtenByte_22 : decode cX7_writtenByte 22 = .ok (.putfield 51, 3) := by decide +kernel
theorem dX7_writtenByte_25 : decode cX7_writtenByte 25 = .ok (.aload_n 0, 1) := by decide +kernel
theorem dX7_writtenByte_26 : decode cX7_writtenByte 26 = .ok (.getfield 51, 3) := by decide +kernel
theorem dX7_writtenByte_29 : decode cX7_writtenByte 29 = .ok (.ifCond .le 7, 3) := by decide +kernel
theorem dX7_writtenByte_32 : decode cX7_writtenByte 32 = .ok (.iconst 0, 1) := by decide +kernel
theorem dX7_writtenByte_33 : decode cX7_writtenByte 33 = .ok (.goto 9, 3) := by decide +kernel
theorem dX7_writtenByte_36 : decode cX7_writtenByte 36 = .ok (.aload_n 0, 1) := by decide +kernel
theorem dX7_writtenByte_37 : decode cX7_writtenByte 37 = .ok (.getfield 34, 3) := by decide +kernel
theorem dX7_writtenByte_40 : decode cX7_writtenByte 40 = .ok (.iload_n 1, 1) := by decide +kernel
theorem dX7_writtenByte_41 : decode cX7_writtenByte 41 = .ok (.iaload, 1) := by decide +kernel
theorem dX7_writtenByte_42 : decode cX7_writtenByte 42 = .ok (.ireturn, 1) := by decide +kernel
theorem dJ13_bitCount_95d88_0 : decode cJ13_bitCount_95d88 0 = .ok (.lload_n 0, 1) := by decide +kernel
theorem dJ13_bitCount_95d88_1 : decode cJ13_bitCount_95d88 1 = .ok (.lload_n 0, 1) := by decide +kernel
theorem dJ13_bitCount_95d88_2 : decode cJ13_bitCount_95d88 2 = .ok (.iconst 1, 1) := by decide +kernel
theorem dJ13_bitCount_95d88_3 : decode cJ13_bitCount_95d88 3 = .ok (.lushr, 1) := by decide +kernel
theorem dJ13_bitCount_95d88_4 : decode cJ13_bitCount_95d88 4 = .ok (.ldc2_w 314, 3) := by decide +kernel
theorem dJ13_bitCount_95d88_7 : decode cJ13_bitCount_95d88 7 = .ok (.land, 1) := by decide +kernel
theorem dJ13_bitCount_95d88_8 : decode cJ13_bitCount_95d88 8 = .ok (.lsub, 1) := by decide +kernel
theorem dJ13_bitCount_95d88_9 : decode cJ13_bitCount_95d88 9 = .ok (.lstore_n 0, 1) := by decide +kernel
theorem dJ13_bitCount_95d88_10 : decode cJ13_bitCount_95d88 10 = .ok (.lload_n 0, 1) := by decide +kernel
theorem dJ13_bitCount_95d88_11 : decode cJ13_bitCount_95d88 11 = .ok (.ldc2_w 316, 3) := by decide +kernel
theorem dJ13_bitCount_95d88_14 : decode cJ13_bitCount_95d88 14 = .ok (.land, 1) := by decide +kernel
theorem dJ13_bitCount_95d88_15 : decode cJ13_bitCount_95d88 15 = .ok (.lload_n 0, 1) := by decide +kernel
theorem dJ13_bitCount_95d88_16 : decode cJ13_bitCount_95d88 16 = .ok (.iconst 2, 1) := by decide +kernel
theorem dJ13_bitCount_95d88_17 : decode cJ13_bitCount_95d88 17 = .ok (.lushr, 1) := by decide +kernel
theorem dJ13_bitCount_95d88_18 : decode cJ13_bitCount_95d88 18 = .ok (.ldc2_w 316, 3) := by decide +kernel
theorem dJ13_bitCount_95d88_21 : decode cJ13_bitCount_95d88 21 = .ok (.land, 1) := by decide +kernel
theorem dJ13_bitCount_95d88_22 : decode cJ13_bitCount_95d88 22 = .ok (.ladd, 1) := by decide +kernel
theorem dJ13_bitCount_95d88_23 : decode cJ13_bitCount_95d88 23 = .ok (.lstore_n 0, 1) := by decide +kernel
theorem dJ13_bitCount_95d88_24 : decode cJ13_bitCount_95d88 24 = .ok (.lload_n 0, 1) := by decide +kernel
theorem dJ13_bitCount_95d88_25 : decode cJ13_bitCount_95d88 25 = .ok (.lload_n 0, 1) := by decide +kernel
theorem dJ13_bitCount_95d88_26 : decode cJ13_bitCount_95d88 26 = .ok (.iconst 4, 1) := by decide +kernel
theorem dJ13_bitCount_95d88_27 : decode cJ13_bitCount_95d88 27 = .ok (.lushr, 1) := by decide +kernel
theorem dJ13_bitCount_95d88_28 : decode cJ13_bitCount_95d88 28 = .ok (.ladd, 1) := by decide +kernel
theorem dJ13_bitCount_95d88_29 : decode cJ13_bitCount_95d88 29 = .ok (.ldc2_w 318, 3) := by decide +kernel
theorem dJ13_bitCount_95d88_32 : decode cJ13_bitCount_95d88 32 = .ok (.land, 1) := by decide +kernel
theorem dJ13_bitCount_95d88_33 : decode cJ13_bitCount_95d88 33 = .ok (.lstore_n 0, 1) := by decide +kernel
theorem dJ13_bitCount_95d88_34 : decode cJ13_bitCount_95d88 34 = .ok (.lload_n 0, 1) := by decide +kernel
theorem dJ13_bitCount_95d88_35 : decode cJ13_bitCount_95d88 35 = .ok (.lload_n 0, 1) := by decide +kernel
theorem dJ13_bitCount_95d88_36 : decode cJ13_bitCount_95d88 36 = .ok (.bipush 8, 2) := by decide +kernel
theorem dJ13_bitCount_95d88_38 : decode cJ13_bitCount_95d88 38 = .ok (.lushr, 1) := by decide +kernel
theorem dJ13_bitCount_95d88_39 : decode cJ13_bitCount_95d88 39 = .ok (.ladd, 1) := by decide +kernel
theorem dJ13_bitCount_95d88_40 : decode cJ13_bitCount_95d88 40 = .ok (.lstore_n 0, 1) := by decide +kernel
theorem dJ13_bitCount_95d88_41 : decode cJ13_bitCount_95d88 41 = .ok (.lload_n 0, 1) := by decide +kernel
theorem dJ13_bitCount_95d88_42 : decode cJ13_bitCount_95d88 42 = .ok (.lload_n 0, 1) := by decide +kernel
theorem dJ13_bitCount_95d88_43 : decode cJ13_bitCount_95d88 43 = .ok (.bipush 16, 2) := by decide +kernel
theorem dJ13_bitCount_95d88_45 : decode cJ13_bitCount_95d88 45 = .ok (.lushr, 1) := by decide +kernel
theorem dJ13_bitCount_95d88_46 : decode cJ13_bitCount_95d88 46 = .ok (.ladd, 1) := by decide +kernel
theorem dJ13_bitCount_95d88_47 : decode cJ13_bitCount_95d88 47 = .ok (.lstore_n 0, 1) := by decide +kernel
theorem dJ13_bitCount_95d88_48 : decode cJ13_bitCount_95d88 48 = .ok (.lload_n 0, 1) := by decide +kernel
theorem dJ13_bitCount_95d88_49 : decode cJ13_bitCount_95d88 49 = .ok (.lload_n 0, 1) := by decide +kernel
theorem dJ13_bitCount_95d88_50 : decode cJ13_bitCount_95d88 50 = .ok (.bipush 32, 2) := by decide +kernel
theorem dJ13_bitCount_95d88_52 : decode cJ13_bitCount_95d88 52 = .ok (.lushr, 1) := by decide +kernel
theorem dJ13_bitCount_95d88_53 : decode cJ13_bitCount_95d88 53 = .ok (.ladd, 1) := by decide +kernel
theorem dJ13_bitCount_95d88_54 : decode cJ13_bitCount_95d88 54 = .ok (.lstore_n 0, 1) := by decide +kernel
theorem dJ13_bitCount_95d88_55 : decode cJ13_bitCount_95d88 55 = .ok (.lload_n 0, 1) := by decide +kernel
theorem dJ13_bitCount_95d88_56 : decode cJ13_bitCount_95d88 56 = .ok (.l2i, 1) := by decide +kernel
theorem dJ13_bitCount_95d88_57 : decode cJ13_bitCount_95d88 57 = .ok (.bipush 127, 2) := by decide +kernel
theorem dJ13_bitCount_95d88_59 : decode cJ13_bitCount_95d88 59 = .ok (.iand, 1) := by decide +kernel
theorem dJ13_bitCount_95d88_60 : decode cJ13_bitCount_95d88 60 = .ok (.ireturn, 1) := by decide +kernel
theorem dJ9_min_7cf53_0 : decode cJ9_min_7cf53 0 = .ok (.iload_n 0, 1) := by decide +kernel
theorem dJ9_min_7cf53_1 : decode cJ9_min_7cf53 1 = .ok (.iload_n 1, 1) := by decide +kernel
theorem dJ9_min_7cf53_2 : decode cJ9_min_7cf53 2 = .ok (.if_icmp .gt 7, 3) := by decide +kernel
theorem dJ9_min_7cf53_5 : decode cJ9_min_7cf53 5 = .ok (.iload_n 0, 1) := by decide +kernel
theorem dJ9_min_7cf53_6 : decode cJ9_min_7cf53 6 = .ok (.goto 4, 3) := by decide +kernel
theorem dJ9_min_7cf53_9 : decode cJ9_min_7cf53 9 = .ok (.iload_n 1, 1) := by decide +kernel
theorem dJ9_min_7cf53_10 : decode cJ9_min_7cf53 10 = .ok (.ireturn, 1) := by decide +kernel
theorem dJ0_length_8abf5_0 : decode cJ0_length_8abf5 0 = .ok (.aload_n 0, 1) := by decide +kernel
theorem dJ0_length_8abf5_1 : decode cJ0_length_8abf5 1 = .ok (.getfield 9, 3) := by decide +kernel
theorem dJ0_length_8abf5_4 : decode cJ0_length_8abf5 4 = .ok (.arraylength, 1) := by decide +kernel
theorem dJ0_length_8abf5_5 : decode cJ0_length_8abf5 5 = .ok (.aload_n 0, 1) := by decide +kernel
theorem dJ0_length_8abf5_6 : decode cJ0_length_8abf5 6 = .ok (.invokevirtual 335, 3) := by decide +kernel
theorem dJ0_length_8abf5_9 : decode cJ0_length_8abf5 9 = .ok (.ishr, 1) := by decide +kernel
theorem dJ0_length_8abf5_10 : decode cJ0_length_8abf5 10 = .ok (.ireturn, 1) := by decide +kernel
theorem dJ0_charAt_5068e_0 : decode cJ0_charAt_5068e 0 = .ok (.aload_n 0, 1) := by decide +kernel
theorem dJ0_charAt_5068e_1 : decode cJ0_charAt_5068e 1 = .ok (.invokevirtual 492, 3) := by decide +kernel
theorem dJ0_charAt_5068e_4 : decode cJ0_charAt_5068e 4 = .ok (.ifCond .eq 12, 3) := by decide +kernel
theorem dJ0_charAt_5068e_7 : decode cJ0_charAt_5068e 7 = .ok (.aload_n 0, 1) := by decide +kernel
theorem dJ0_charAt_5068e_8 : decode cJ0_charAt_5068e 8 = .ok (.getfield 9, 3) := by decide +kernel
theorem dJ0_charAt_5068e_11 : decode cJ0_charAt_5068e 11 = .ok (.iload_n 1, 1) := by decide +kernel
theorem dJ0_charAt_5068e_12 : decode cJ0_charAt_5068e 12 = .ok (.invokestatic 495, 3) := by decide +kernel
theorem dJ0_charAt_5068e_15 : decode cJ0_charAt_5068e 15 = .ok (.ireturn, 1) := by decide +kernel
theorem dJ0_charAt_5068e_16 : decode cJ0_charAt_5068e 16 = .ok (.aload_n 0, 1) := by decide +kernel
theorem dJ0_charAt_5068e_17 : decode cJ0_charAt_5068e 17 = .ok (.getfield 9, 3) := by decide +kernel
theorem dJ0_charAt_5068e_20 : decode cJ0_charAt_5068e 20 = .ok (.iload_n 1, 1) := by decide +kernel
theorem dJ0_charAt_5068e_21 : decode cJ0_charAt_5068e 21 = .ok (.invokestatic 498, 3) := by decide +kernel
theorem dJ0_charAt_5068e_24 : decode cJ0_charAt_5068e 24 = .ok (.ireturn, 1) := by decide +kernel
theorem dJ0_coder_7d493_0 : decode cJ0_coder_7d493 0 = .ok (.getstatic 38, 3) := by decide +kernel
theorem dJ0_coder_7d493_3 : decode cJ0_coder_7d493 3 = .ok (.ifCond .eq 10, 3) := by decide +kernel
theorem dJ0_coder_7d493_6 : decode cJ0_coder_7d493 6 = .ok (.aload_n 0, 1) := by decide +kernel
theorem dJ0_coder_7d493_7 : decode cJ0_coder_7d493 7 = .ok (.getfield 15, 3) := by decide +kernel
theorem dJ0_coder_7d493_10 : decode cJ0_coder_7d493 10 = .ok (.goto 4, 3) := by decide +kernel
theorem dJ0_coder_7d493_13 : decode cJ0_coder_7d493 13 = .ok (.iconst 1, 1) := by decide +kernel
theorem dJ0_coder_7d493_14 : decode cJ0_coder_7d493 14 = .ok (.ireturn, 1) := by decide +kernel
theorem dJ0_isLatin1_aae02_0 : decode cJ0_isLatin1_aae02 0 = .ok (.getstatic 38, 3) := by decide +kernel
theorem dJ0_isLatin1_aae02_3 : decode cJ0_isLatin1_aae02 3 = .ok (.ifCond .eq 14, 3) := by decide +kernel
theorem dJ0_isLatin1_aae02_6 : decode cJ0_isLatin1_aae02 6 = .ok (.aload_n 0, 1) := by decide +kernel
theorem dJ0_isLatin1_aae02_7 : decode cJ0_isLatin1_aae02 7 = .ok (.getfield 15, 3) := by decide +kernel
theorem dJ0_isLatin1_aae02_10 : decode cJ0_isLatin1_aae02 10 = .ok (.ifCond .ne 7, 3) := by decide +kernel
theorem dJ0_isLatin1_aae02_13 : decode cJ0_isLatin1_aae02 13 = .ok (.iconst 1, 1) := by decide +kernel
theorem dJ0_isLatin1_aae02_14 : decode cJ0_isLatin1_aae02 14 = .ok (.goto 4, 3) := by decide +kernel
theorem dJ0_isLatin1_aae02_17 : decode cJ0_isLatin1_aae02 17 = .ok (.iconst 0, 1) := by decide +kernel
theorem dJ0_isLatin1_aae02_18 : decode cJ0_isLatin1_aae02 18 = .ok (.ireturn, 1) := by decide +kernel
theorem dJ0_checkIndex_df160_0 : decode cJ0_checkIndex_df160 0 = .ok (.iload_n 0, 1) := by decide +kernel
theorem dJ0_checkIndex_df160_1 : decode cJ0_checkIndex_df160 1 = .ok (.iload_n 1, 1) := by decide +kernel
theorem dJ0_checkIndex_df160_2 : decode cJ0_checkIndex_df160 2 = .ok (.getstatic 1053, 3) := by decide +kernel
theorem dJ0_checkIndex_df160_5 : decode cJ0_checkIndex_df160 5 = .ok (.invokestatic 1059, 3) := by decide +kernel
theorem dJ0_checkIndex_df160_8 : decode cJ0_checkIndex_df160 8 = .ok (.pop, 1) := by decide +kernel
theorem dJ0_checkIndex_df160_9 : decode cJ0_checkIndex_df160 9 = .ok (.return_, 1) := by decide +kernel
theorem dJ1_charAt_3b067_0 : decode cJ1_charAt_3b067 0 = .ok (.iload_n 1, 1) := by decide +kernel
theorem dJ1_charAt_3b067_1 : decode cJ1_charAt_3b067 1 = .ok (.aload_n 0, 1) := by decide +kernel
theorem dJ1_charAt_3b067_2 : decode cJ1_charAt_3b067 2 = .ok (.arraylength, 1) := by decide +kernel
theorem dJ1_charAt_3b067_3 : decode cJ1_charAt_3b067 3 = .ok (.invokestatic 9, 3) := by decide +kernel
theorem dJ1_charAt_3b067_6 : decode cJ1_charAt_3b067 6 = .ok (.aload_n 0, 1) := by decide +kernel
theorem dJ1_charAt_3b067_7 : decode cJ1_charAt_3b067 7 = .ok (.iload_n 1, 1) := by decide +kernel
theorem dJ1_charAt_3b067_8 : decode cJ1_charAt_3b067 8 = .ok (.baload, 1) := by decide +kernel
theorem dJ1_charAt_3b067_9 : decode cJ1_charAt_3b067 9 = .ok (.sipush 255, 3) := by decide +kernel
theorem dJ1_charAt_3b067_12 : decode cJ1_charAt_3b067 12 = .ok (.iand, 1) := by decide +kernel
theorem dJ1_charAt_3b067_13 : decode cJ1_charAt_3b067 13 = .ok (.i2c, 1) := by decide +kernel
theorem dJ1_charAt_3b067_14 : decode cJ1_charAt_3b067 14 = .ok (.ireturn, 1) := by decide +kernel
theorem dJ2_getChar_3b067_0 : decode cJ2_getChar_3b067 0 = .ok (.getstatic 44, 3) := by decide +kernel
theorem dJ2_getChar_3b067_3 : decode cJ2_getChar_3b067 3 = .ok (.ifCond .ne 25, 3) := by decide +kernel
theorem dJ2_getChar_3b067_6 : decode cJ2_getChar_3b067 6 = .ok (.iload_n 1, 1) := by decide +kernel
theorem dJ2_getChar_3b067_7 : decode cJ2_getChar_3b067 7 = .ok (.ifCond .lt 11, 3) := by decide +kernel
theorem dJ2_getChar_3b067_10 : decode cJ2_getChar_3b067 10 = .ok (.iload_n 1, 1) := by decide +kernel
theorem dJ2_getChar_3b067_11 : decode cJ2_getChar_3b067 11 = .ok (.aload_n 0, 1) := by decide +kernel
theorem dJ2_getChar_3b067_12 : decode cJ2_getChar_3b067 12 = .ok (.invokestatic 48, 3) := by decide +kernel
theorem dJ2_getChar_3b067_15 : decode cJ2_getChar_3b067 15 = .ok (.if_icmp .lt 13, 3) := by decide +kernel
theorem dJ2_getChar_3b067_18 : decode cJ2_getChar_3b067 18 = .ok (.new 52, 3) := by decide +kernel
theorem dJ2_getChar_3b067_21 : decode cJ2_getChar_3b067 21 = .ok (.dup, 1) := by decide +kernel
theorem dJ2_getChar_3b067_22 : decode cJ2_getChar_3b067 22 = .ok (.ldc 54, 2) := by decide +kernel
theorem dJ2_getChar_3b067_24 : decode cJ2_getChar_3b067 24 = .ok (.invokespecial 56, 3) := by decide +kernel
theorem dJ2_getChar_3b067_27 : decode cJ2_getChar_3b067 27 = .ok (.athrow, 1) := by decide +kernel
theorem dJ2_getChar_3b067_28 : decode cJ2_getChar_3b067 28 = .ok (.iload_n 1, 1) := by decide +kernel
theorem dJ2_getChar_3b067_29 : decode cJ2_getChar_3b067 29 = .ok (.iconst 1, 1) := by decide +kernel
theorem dJ2_getChar_3b067_30 : decode cJ2_getChar_3b067 30 = .ok (.ishl, 1) := by decide +kernel
theorem dJ2_getChar_3b067_31 : decode cJ2_getChar_3b067 31 = .ok (.istore_n 1, 1) := by decide +kernel
theorem dJ2_getChar_3b067_32 : decode cJ2_getChar_3b067 32 = .ok (.aload_n 0, 1) := by decide +kernel
theorem dJ2_getChar_3b067_33 : decode cJ2_getChar_3b067 33 = .ok (.iload_n 1, 1) := by decide +kernel
theorem dJ2_getChar_3b067_34 : decode cJ2_getChar_3b067 34 = .ok (.iinc 1 1, 3) := by decide +kernel
theorem dJ2_getChar_3b067_37 : decode cJ2_getChar_3b067 37 = .ok (.baload, 1) := by decide +kernel
theorem dJ2_getChar_3b067_38 : decode cJ2_getChar_3b067 38 = .ok (.sipush 255, 3) := by decide +kernel
theorem dJ2_getChar_3b067_41 : decode cJ2_getChar_3b067 41 = .ok (.iand, 1) := by decide +kernel
theorem dJ2_getChar_3b067_42 : decode cJ2_getChar_3b067 42 = .ok (.getstatic 59, 3) := by decide +kernel
theorem dJ2_getChar_3b067_45 : decode cJ2_getChar_3b067 45 = .ok (.ishl, 1) := by decide +kernel
theorem dJ2_getChar_3b067_46 : decode cJ2_getChar_3b067 46 = .ok (.aload_n 0, 1) := by decide +kernel
theorem dJ2_getChar_3b067_47 : decode cJ2_getChar_3b067 47 = .ok (.iload_n 1, 1) := by decide +kernel
theorem dJ2_getChar_3b067_48 : decode cJ2_getChar_3b067 48 = .ok (.baload, 1) := by decide +kernel
theorem dJ2_getChar_3b067_49 : decode cJ2_getChar_3b067 49 = .ok (.sipush 255, 3) := by decide +kernel
theorem dJ2_getChar_3b067_52 : decode cJ2_getChar_3b067 52 = .ok (.iand, 1) := by decide +kernel
theorem dJ2_getChar_3b067_53 : decode cJ2_getChar_3b067 53 = .ok (.getstatic 63, 3) := by decide +kernel
theorem dJ2_getChar_3b067_56 : decode cJ2_getChar_3b067 56 = .ok (.ishl, 1) := by decide +kernel
theorem dJ2_getChar_3b067_57 : decode cJ2_getChar_3b067 57 = .ok (.ior, 1) := by decide +kernel
theorem dJ2_getChar_3b067_58 : decode cJ2_getChar_3b067 58 = .ok (.i2c, 1) := by decide +kernel
theorem dJ2_getChar_3b067_59 : decode cJ2_getChar_3b067 59 = .ok (.ireturn, 1) := by decide +kernel
theorem dJ2_length_9d52b_0 : decode cJ2_length_9d52b 0 = .ok (.aload_n 0, 1) := by decide +kernel
theorem dJ2_length_9d52b_1 : decode cJ2_length_9d52b 1 = .ok (.arraylength, 1) := by decide +kernel
theorem dJ2_length_9d52b_2 : decode cJ2_length_9d52b 2 = .ok (.iconst 1, 1) := by decide +kernel
theorem dJ2_length_9d52b_3 : decode cJ2_length_9d52b 3 = .ok (.ishr, 1) := by decide +kernel
theorem dJ2_length_9d52b_4 : decode cJ2_length_9d52b 4 = .ok (.ireturn, 1) := by decide +kernel
theorem dJ2_charAt_3b067_0 : decode cJ2_charAt_3b067 0 = .ok (.iload_n 1, 1) := by decide +kernel
theorem dJ2_charAt_3b067_1 : decode cJ2_charAt_3b067 1 = .ok (.aload_n 0, 1) := by decide +kernel
theorem dJ2_charAt_3b067_2 : decode cJ2_charAt_3b067 2 = .ok (.invokestatic 67, 3) := by decide +kernel
theorem dJ2_charAt_3b067_5 : decode cJ2_charAt_3b067 5 = .ok (.aload_n 0, 1) := by decide +kernel
theorem dJ2_charAt_3b067_6 : decode cJ2_charAt_3b067 6 = .ok (.iload_n 1, 1) := by decide +kernel
theorem dJ2_charAt_3b067_7 : decode cJ2_charAt_3b067 7 = .ok (.invokestatic 71, 3) := by decide +kernel
theorem dJ2_charAt_3b067_10 : decode cJ2_charAt_3b067 10 = .ok (.ireturn, 1) := by decide +kernel
theorem dJ2_checkIndex_2214a_0 : decode cJ2_checkIndex_2214a 0 = .ok (.iload_n 0, 1) := by decide +kernel
theorem dJ2_checkIndex_2214a_1 : decode cJ2_checkIndex_2214a 1 = .ok (.aload_n 1, 1) := by decide +kernel
theorem dJ2_checkIndex_2214a_2 : decode cJ2_checkIndex_2214a 2 = .ok (.invokestatic 48, 3) := by decide +kernel
theorem dJ2_checkIndex_2214a_5 : decode cJ2_checkIndex_2214a 5 = .ok (.invokestatic 414, 3) := by decide +kernel
theorem dJ2_checkIndex_2214a_8 : decode cJ2_checkIndex_2214a 8 = .ok (.return_, 1) := by decide +kernel
theorem dJ3_checkIndex_8e157_0 : decode cJ3_checkIndex_8e157 0 = .ok (.iload_n 0, 1) := by decide +kernel
theorem dJ3_checkIndex_8e157_1 : decode cJ3_checkIndex_8e157 1 = .ok (.ifCond .lt 8, 3) := by decide +kernel
theorem dJ3_checkIndex_8e157_4 : decode cJ3_checkIndex_8e157 4 = .ok (.iload_n 0, 1) := by decide +kernel
theorem dJ3_checkIndex_8e157_5 : decode cJ3_checkIndex_8e157 5 = .ok (.iload_n 1, 1) := by decide +kernel
theorem dJ3_checkIndex_8e157_6 : decode cJ3_checkIndex_8e157 6 = .ok (.if_icmp .lt 10, 3) := by decide +kernel
theorem dJ3_checkIndex_8e157_9 : decode cJ3_checkIndex_8e157 9 = .ok (.aload_n 2, 1) := by decide +kernel
theorem dJ3_checkIndex_8e157_10 : decode cJ3_checkIndex_8e157 10 = .ok (.iload_n 0, 1) := by decide +kernel
theorem dJ3_checkIndex_8e157_11 : decode cJ3_checkIndex_8e157 11 = .ok (.iload_n 1, 1) := by decide +kernel
theorem dJ3_checkIndex_8e157_12 : decode cJ3_checkIndex_8e157 12 = .ok (.invokestatic 95, 3) := by decide +kernel
theorem dJ3_checkIndex_8e157_15 : decode cJ3_checkIndex_8e157 15 = .ok (.athrow, 1) := by decide +kernel
theorem dJ3_checkIndex_8e157_16 : decode cJ3_checkIndex_8e157 16 = .ok (.iload_n 0, 1) := by decide +kernel
theorem dJ3_checkIndex_8e157_17 : decode cJ3_checkIndex_8e157 17 = .ok (.ireturn, 1) := by decide +kernel
theorem dL_append_0 : decode cL_append 0 = .ok (.aload 6, 2) := by decide +kernel
theorem dL_append_2 : decode cL_append 2 = .ok (.iconst 0, 1) := by decide +kernel
theorem dL_append_3 : decode cL_append 3 = .ok (.aload_n 0, 1) := by decide +kernel
theorem dL_append_4 : decode cL_append 4 = .ok (.iload_n 1, 1) := by decide +kernel
theorem dL_append_5 : decode cL_append 5 = .ok (.iload_n 2, 1) := by decide +kernel
theorem dL_append_6 : decode cL_append 6 = .ok (.iload_n 3, 1) := by decide +kernel
theorem dL_append_7 : decode cL_append 7 = .ok (.iload 4, 2) := by decide +kernel
theorem dL_append_9 : decode cL_append 9 = .ok (.iload 5, 2) := by decide +kernel
theorem dL_append_11 : decode cL_append 11 = .ok (.invokevirtual 7, 3) := by decide +kernel
theorem dL_append_14 : decode cL_append 14 = .ok (.i2l, 1) := by decide +kernel
theorem dL_append_15 : decode cL_append 15 = .ok (.lastore, 1) := by decide +kernel
theorem dL_append_16 : decode cL_append 16 = .ok (.goto 7, 3) := by decide +kernel
theorem dL_append_19 : decode cL_append 19 = .ok (.astore 7, 2) := by decide +kernel
theorem dL_append_21 : decode cL_append 21 = .ok (.iconst 1, 1) := by decide +kernel
theorem dL_append_22 : decode cL_append 22 = .ok (.ireturn, 1) := by decide +kernel
theorem dL_append_23 : decode cL_append 23 = .ok (.iconst 0, 1) := by decide +kernel
theorem dL_append_24 : decode cL_append 24 = .ok (.ireturn, 1) := by decide +kernel
theorem dL_load_0 : decode cL_load 0 = .ok (.aload_n 2, 1) := by decide +kernel
theorem dL_load_1 : decode cL_load 1 = .ok (.iconst 0, 1) := by decide +kernel
theorem dL_load_2 : decode cL_load 2 = .ok (.aload_n 0, 1) := by decide +kernel
theorem dL_load_3 : decode cL_load 3 = .ok (.iload_n 1, 1) := by decide +kernel
theorem dL_load_4 : decode cL_load 4 = .ok (.invokevirtual 15, 3) := by decide +kernel
theorem dL_load_7 : decode cL_load 7 = .ok (.i2l, 1) := by decide +kernel
theorem dL_load_8 : decode cL_load 8 = .ok (.lastore, 1) := by decide +kernel
theorem dL_load_9 : decode cL_load 9 = .ok (.goto 6, 3) := by decide +kernel
theorem dL_load_12 : decode cL_load 12 = .ok (.astore_n 3, 1) := by decide +kernel
theorem dL_load_13 : decode cL_load 13 = .ok (.iconst 1, 1) := by decide +kernel
theorem dL_load_14 : decode cL_load 14 = .ok (.ireturn, 1) := by decide +kernel
theorem dL_load_15 : decode cL_load 15 = .ok (.iconst 0, 1) := by decide +kernel
theorem dL_load_16 : decode cL_load 16 = .ok (.ireturn, 1) := by decide +kernel
theorem dL_count_0 : decode cL_count 0 = .ok (.aload_n 2, 1) := by decide +kernel
theorem dL_count_1 : decode cL_count 1 = .ok (.iconst 0, 1) := by decide +kernel
theorem dL_count_2 : decode cL_count 2 = .ok (.aload_n 0, 1) := by decide +kernel
theorem dL_count_3 : decode cL_count 3 = .ok (.iload_n 1, 1) := by decide +kernel
theorem dL_count_4 : decode cL_count 4 = .ok (.invokevirtual 21, 3) := by decide +kernel
theorem dL_count_7 : decode cL_count 7 = .ok (.i2l, 1) := by decide +kernel
theorem dL_count_8 : decode cL_count 8 = .ok (.lastore, 1) := by decide +kernel
theorem dL_count_9 : decode cL_count 9 = .ok (.goto 6, 3) := by decide +kernel
theorem dL_count_12 : decode cL_count 12 = .ok (.astore_n 3, 1) := by decide +kernel
theorem dL_count_13 : decode cL_count 13 = .ok (.iconst 1, 1) := by decide +kernel
theorem dL_count_14 : decode cL_count 14 = .ok (.ireturn, 1) := by decide +kernel
theorem dL_count_15 : decode cL_count 15 = .ok (.iconst 0, 1) := by decide +kernel
theorem dL_count_16 : decode cL_count 16 = .ok (.ireturn, 1) := by decide +kernel
theorem dL_place_0 : decode cL_place 0 = .ok (.aload_n 3, 1) := by decide +kernel
theorem dL_place_1 : decode cL_place 1 = .ok (.iconst 0, 1) := by decide +kernel
theorem dL_place_2 : decode cL_place 2 = .ok (.aload_n 0, 1) := by decide +kernel
theorem dL_place_3 : decode cL_place 3 = .ok (.iload_n 1, 1) := by decide +kernel
theorem dL_place_4 : decode cL_place 4 = .ok (.iload_n 2, 1) := by decide +kernel
theorem dL_place_5 : decode cL_place 5 = .ok (.invokevirtual 24, 3) := by decide +kernel
theorem dL_place_8 : decode cL_place 8 = .ok (.i2l, 1) := by decide +kernel
theorem dL_place_9 : decode cL_place 9 = .ok (.lastore, 1) := by decide +kernel
theorem dL_place_10 : decode cL_place 10 = .ok (.goto 7, 3) := by decide +kernel
theorem dL_place_13 : decode cL_place 13 = .ok (.astore 4, 2) := by decide +kernel
theorem dL_place_15 : decode cL_place 15 = .ok (.iconst 1, 1) := by decide +kernel
theorem dL_place_16 : decode cL_place 16 = .ok (.ireturn, 1) := by decide +kernel
theorem dL_place_17 : decode cL_place 17 = .ok (.iconst 0, 1) := by decide +kernel
theorem dL_place_18 : decode cL_place 18 = .ok (.ireturn, 1) := by decide +kernel
theorem dL_neighbour_0 : decode cL_neighbour 0 = .ok (.aload_n 3, 1) := by decide +kernel
theorem dL_neighbour_1 : decode cL_neighbour 1 = .ok (.iconst 0, 1) := by decide +kernel
theorem dL_neighbour_2 : decode cL_neighbour 2 = .ok (.aload_n 0, 1) := by decide +kernel
theorem dL_neighbour_3 : decode cL_neighbour 3 = .ok (.iload_n 1, 1) := by decide +kernel
theorem dL_neighbour_4 : decode cL_neighbour 4 = .ok (.iload_n 2, 1) := by decide +kernel
theorem dL_neighbour_5 : decode cL_neighbour 5 = .ok (.invokevirtual 30, 3) := by decide +kernel
theorem dL_neighbour_8 : decode cL_neighbour 8 = .ok (.i2l, 1) := by decide +kernel
theorem dL_neighbour_9 : decode cL_neighbour 9 = .ok (.lastore, 1) := by decide +kernel
theorem dL_neighbour_10 : decode cL_neighbour 10 = .ok (.goto 11, 3) := by decide +kernel
theorem dL_neighbour_13 : decode cL_neighbour 13 = .ok (.astore 4, 2) := by decide +kernel
theorem dL_neighbour_15 : decode cL_neighbour 15 = .ok (.iconst 1, 1) := by decide +kernel
theorem dL_neighbour_16 : decode cL_neighbour 16 = .ok (.ireturn, 1) := by decide +kernel
theorem dL_neighbour_17 : decode cL_neighbour 17 = .ok (.astore 4, 2) := by decide +kernel
theorem dL_neighbour_19 : decode cL_neighbour 19 = .ok (.iconst 2, 1) := by decide +kernel
theorem dL_neighbour_20 : decode cL_neighbour 20 = .ok (.ireturn, 1) := by decide +kernel
theorem dL_neighbour_21 : decode cL_neighbour 21 = .ok (.iconst 0, 1) := by decide +kernel
theorem dL_neighbour_22 : decode cL_neighbour 22 = .ok (.ireturn, 1) := by decide +kernel
theorem dL_stone_0 : decode cL_stone 0 = .ok (.aload_n 2, 1) := by decide +kernel
theorem dL_stone_1 : decode cL_stone 1 = .ok (.iconst 0, 1) := by decide +kernel
theorem dL_stone_2 : decode cL_stone 2 = .ok (.aload_n 0, 1) := by decide +kernel
theorem dL_stone_3 : decode cL_stone 3 = .ok (.iload_n 1, 1) := by decide +kernel
theorem dL_stone_4 : decode cL_stone 4 = .ok (.invokevirtual 33, 3) := by decide +kernel
theorem dL_stone_7 : decode cL_stone 7 = .ok (.i2l, 1) := by decide +kernel
theorem dL_stone_8 : decode cL_stone 8 = .ok (.lastore, 1) := by decide +kernel
theorem dL_stone_9 : decode cL_stone 9 = .ok (.goto 6, 3) := by decide +kernel
theorem dL_stone_12 : decode cL_stone 12 = .ok (.astore_n 3, 1) := by decide +kernel
theorem dL_stone_13 : decode cL_stone 13 = .ok (.iconst 1, 1) := by decide +kernel
theorem dL_stone_14 : decode cL_stone 14 = .ok (.ireturn, 1) := by decide +kernel
theorem dL_stone_15 : decode cL_stone 15 = .ok (.iconst 0, 1) := by decide +kernel
theorem dL_stone_16 : decode cL_stone 16 = .ok (.ireturn, 1) := by decide +kernel
theorem dL_chain_0 : decode cL_chain 0 = .ok (.aload_n 3, 1) := by decide +kernel
theorem dL_chain_1 : decode cL_chain 1 = .ok (.iconst 0, 1) := by decide +kernel
theorem dL_chain_2 : decode cL_chain 2 = .ok (.aload_n 0, 1) := by decide +kernel
theorem dL_chain_3 : decode cL_chain 3 = .ok (.iload_n 1, 1) := by decide +kernel
theorem dL_chain_4 : decode cL_chain 4 = .ok (.iload_n 2, 1) := by decide +kernel
theorem dL_chain_5 : decode cL_chain 5 = .ok (.invokevirtual 36, 3) := by decide +kernel
theorem dL_chain_8 : decode cL_chain 8 = .ok (.i2l, 1) := by decide +kernel
theorem dL_chain_9 : decode cL_chain 9 = .ok (.lastore, 1) := by decide +kernel
theorem dL_chain_10 : decode cL_chain 10 = .ok (.goto 15, 3) := by decide +kernel
theorem dL_chain_13 : decode cL_chain 13 = .ok (.astore 4, 2) := by decide +kernel
theorem dL_chain_15 : decode cL_chain 15 = .ok (.iconst 1, 1) := by decide +kernel
theorem dL_chain_16 : decode cL_chain 16 = .ok (.ireturn, 1) := by decide +kernel
theorem dL_chain_17 : decode cL_chain 17 = .ok (.astore 4, 2) := by decide +kernel
theorem dL_chain_19 : decode cL_chain 19 = .ok (.iconst 2, 1) := by decide +kernel
theorem dL_chain_20 : decode cL_chain 20 = .ok (.ireturn, 1) := by decide +kernel
theorem dL_chain_21 : decode cL_chain 21 = .ok (.astore 4, 2) := by decide +kernel
theorem dL_chain_23 : decode cL_chain 23 = .ok (.iconst 3, 1) := by decide +kernel
theorem dL_chain_24 : decode cL_chain 24 = .ok (.ireturn, 1) := by decide +kernel
theorem dL_chain_25 : decode cL_chain 25 = .ok (.iconst 0, 1) := by decide +kernel
theorem dL_chain_26 : decode cL_chain 26 = .ok (.ireturn, 1) := by decide +kernel
theorem dL_freedom_0 : decode cL_freedom 0 = .ok (.aload_n 3, 1) := by decide +kernel
theorem dL_freedom_1 : decode cL_freedom 1 = .ok (.iconst 0, 1) := by decide +kernel
theorem dL_freedom_2 : decode cL_freedom 2 = .ok (.aload_n 0, 1) := by decide +kernel
theorem dL_freedom_3 : decode cL_freedom 3 = .ok (.iload_n 1, 1) := by decide +kernel
theorem dL_freedom_4 : decode cL_freedom 4 = .ok (.iload_n 2, 1) := by decide +kernel
theorem dL_freedom_5 : decode cL_freedom 5 = .ok (.invokevirtual 41, 3) := by decide +kernel
theorem dL_freedom_8 : decode cL_freedom 8 = .ok (.i2l, 1) := by decide +kernel
theorem dL_freedom_9 : decode cL_freedom 9 = .ok (.lastore, 1) := by decide +kernel
theorem dL_freedom_10 : decode cL_freedom 10 = .ok (.goto 7, 3) := by decide +kernel
theorem dL_freedom_13 : decode cL_freedom 13 = .ok (.astore 4, 2) := by decide +kernel
theorem dL_freedom_15 : decode cL_freedom 15 = .ok (.iconst 1, 1) := by decide +kernel
theorem dL_freedom_16 : decode cL_freedom 16 = .ok (.ireturn, 1) := by decide +kernel
theorem dL_freedom_17 : decode cL_freedom 17 = .ok (.iconst 0, 1) := by decide +kernel
theorem dL_freedom_18 : decode cL_freedom 18 = .ok (.ireturn, 1) := by decide +kernel
theorem dL_chains_0 : decode cL_chains 0 = .ok (.aload_n 3, 1) := by decide +kernel
theorem dL_chains_1 : decode cL_chains 1 = .ok (.iconst 0, 1) := by decide +kernel
theorem dL_chains_2 : decode cL_chains 2 = .ok (.aload_n 0, 1) := by decide +kernel
theorem dL_chains_3 : decode cL_chains 3 = .ok (.iload_n 1, 1) := by decide +kernel
theorem dL_chains_4 : decode cL_chains 4 = .ok (.iload_n 2, 1) := by decide +kernel
theorem dL_chains_5 : decode cL_chains 5 = .ok (.invokevirtual 44, 3) := by decide +kernel
theorem dL_chains_8 : decode cL_chains 8 = .ok (.i2l, 1) := by decide +kernel
theorem dL_chains_9 : decode cL_chains 9 = .ok (.lastore, 1) := by decide +kernel
theorem dL_chains_10 : decode cL_chains 10 = .ok (.goto 7, 3) := by decide +kernel
theorem dL_chains_13 : decode cL_chains 13 = .ok (.astore 4, 2) := by decide +kernel
theorem dL_chains_15 : decode cL_chains 15 = .ok (.iconst 1, 1) := by decide +kernel
theorem dL_chains_16 : decode cL_chains 16 = .ok (.ireturn, 1) := by decide +kernel
theorem dL_chains_17 : decode cL_chains 17 = .ok (.iconst 0, 1) := by decide +kernel
theorem dL_chains_18 : decode cL_chains 18 = .ok (.ireturn, 1) := by decide +kernel
theorem dL_weakest_0 : decode cL_weakest 0 = .ok (.aload_n 2, 1) := by decide +kernel
theorem dL_weakest_1 : decode cL_weakest 1 = .ok (.iconst 0, 1) := by decide +kernel
theorem dL_weakest_2 : decode cL_weakest 2 = .ok (.aload_n 0, 1) := by decide +kernel
theorem dL_weakest_3 : decode cL_weakest 3 = .ok (.iload_n 1, 1) := by decide +kernel
theorem dL_weakest_4 : decode cL_weakest 4 = .ok (.invokevirtual 47, 3) := by decide +kernel
theorem dL_weakest_7 : decode cL_weakest 7 = .ok (.i2l, 1) := by decide +kernel
theorem dL_weakest_8 : decode cL_weakest 8 = .ok (.lastore, 1) := by decide +kernel
theorem dL_weakest_9 : decode cL_weakest 9 = .ok (.goto 9, 3) := by decide +kernel
theorem dL_weakest_12 : decode cL_weakest 12 = .ok (.astore_n 3, 1) := by decide +kernel
theorem dL_weakest_13 : decode cL_weakest 13 = .ok (.iconst 1, 1) := by decide +kernel
theorem dL_weakest_14 : decode cL_weakest 14 = .ok (.ireturn, 1) := by decide +kernel
theorem dL_weakest_15 : decode cL_weakest 15 = .ok (.astore_n 3, 1) := by decide +kernel
theorem dL_weakest_16 : decode cL_weakest 16 = .ok (.iconst 2, 1) := by decide +kernel
theorem dL_weakest_17 : decode cL_weakest 17 = .ok (.ireturn, 1) := by decide +kernel
theorem dL_weakest_18 : decode cL_weakest 18 = .ok (.iconst 0, 1) := by decide +kernel
theorem dL_weakest_19 : decode cL_weakest 19 = .ok (.ireturn, 1) := by decide +kernel
theorem dL_reason_0 : decode cL_reason 0 = .ok (.aload_n 3, 1) := by decide +kernel
theorem dL_reason_1 : decode cL_reason 1 = .ok (.iconst 0, 1) := by decide +kernel
theorem dL_reason_2 : decode cL_reason 2 = .ok (.aload_n 0, 1) := by decide +kernel
theorem dL_reason_3 : decode cL_reason 3 = .ok (.iload_n 1, 1) := by decide +kernel
theorem dL_reason_4 : decode cL_reason 4 = .ok (.iload_n 2, 1) := by decide +kernel
theorem dL_reason_5 : decode cL_reason 5 = .ok (.invokevirtual 50, 3) := by decide +kernel
theorem dL_reason_8 : decode cL_reason 8 = .ok (.i2l, 1) := by decide +kernel
theorem dL_reason_9 : decode cL_reason 9 = .ok (.lastore, 1) := by decide +kernel
theorem dL_reason_10 : decode cL_reason 10 = .ok (.goto 11, 3) := by decide +kernel
theorem dL_reason_13 : decode cL_reason 13 = .ok (.astore 4, 2) := by decide +kernel
theorem dL_reason_15 : decode cL_reason 15 = .ok (.iconst 1, 1) := by decide +kernel
theorem dL_reason_16 : decode cL_reason 16 = .ok (.ireturn, 1) := by decide +kernel
theorem dL_reason_17 : decode cL_reason 17 = .ok (.astore 4, 2) := by decide +kernel
theorem dL_reason_19 : decode cL_reason 19 = .ok (.iconst 2, 1) := by decide +kernel
theorem dL_reason_20 : decode cL_reason 20 = .ok (.ireturn, 1) := by decide +kernel
theorem dL_reason_21 : decode cL_reason 21 = .ok (.iconst 0, 1) := by decide +kernel
theorem dL_reason_22 : decode cL_reason 22 = .ok (.ireturn, 1) := by decide +kernel
theorem dL_play_0 : decode cL_play 0 = .ok (.aload_n 2, 1) := by decide +kernel
theorem dL_play_1 : decode cL_play 1 = .ok (.iconst 0, 1) := by decide +kernel
theorem dL_play_2 : decode cL_play 2 = .ok (.aload_n 0, 1) := by decide +kernel
theorem dL_play_3 : decode cL_play 3 = .ok (.iload_n 1, 1) := by decide +kernel
theorem dL_play_4 : decode cL_play 4 = .ok (.invokevirtual 53, 3) := by decide +kernel
theorem dL_play_7 : decode cL_play 7 = .ok (.i2l, 1) := by decide +kernel
theorem dL_play_8 : decode cL_play 8 = .ok (.lastore, 1) := by decide +kernel
theorem dL_play_9 : decode cL_play 9 = .ok (.goto 9, 3) := by decide +kernel
theorem dL_play_12 : decode cL_play 12 = .ok (.astore_n 3, 1) := by decide +kernel
theorem dL_play_13 : decode cL_play 13 = .ok (.iconst 1, 1) := by decide +kernel
theorem dL_play_14 : decode cL_play 14 = .ok (.ireturn, 1) := by decide +kernel
theorem dL_play_15 : decode cL_play 15 = .ok (.astore_n 3, 1) := by decide +kernel
theorem dL_play_16 : decode cL_play 16 = .ok (.iconst 2, 1) := by decide +kernel
theorem dL_play_17 : decode cL_play 17 = .ok (.ireturn, 1) := by decide +kernel
theorem dL_play_18 : decode cL_play 18 = .ok (.iconst 0, 1) := by decide +kernel
theorem dL_play_19 : decode cL_play 19 = .ok (.ireturn, 1) := by decide +kernel
theorem dL_pass_0 : decode cL_pass 0 = .ok (.aload_n 1, 1) := by decide +kernel
theorem dL_pass_1 : decode cL_pass 1 = .ok (.iconst 0, 1) := by decide +kernel
theorem dL_pass_2 : decode cL_pass 2 = .ok (.aload_n 0, 1) := by decide +kernel
theorem dL_pass_3 : decode cL_pass 3 = .ok (.invokevirtual 56, 3) := by decide +kernel
theorem dL_pass_6 : decode cL_pass 6 = .ok (.i2l, 1) := by decide +kernel
theorem dL_pass_7 : decode cL_pass 7 = .ok (.lastore, 1) := by decide +kernel
theorem dL_pass_8 : decode cL_pass 8 = .ok (.goto 6, 3) := by decide +kernel
theorem dL_pass_11 : decode cL_pass 11 = .ok (.astore_n 2, 1) := by decide +kernel
theorem dL_pass_12 : decode cL_pass 12 = .ok (.iconst 1, 1) := by decide +kernel
theorem dL_pass_13 : decode cL_pass 13 = .ok (.ireturn, 1) := by decide +kernel
theorem dL_pass_14 : decode cL_pass 14 = .ok (.iconst 0, 1) := by decide +kernel
theorem dL_pass_15 : decode cL_pass 15 = .ok (.ireturn, 1) := by decide +kernel
theorem dL_move_0 : decode cL_move 0 = .ok (.aload 4, 2) := by decide +kernel
theorem dL_move_2 : decode cL_move 2 = .ok (.iconst 0, 1) := by decide +kernel
theorem dL_move_3 : decode cL_move 3 = .ok (.aload_n 0, 1) := by decide +kernel
theorem dL_move_4 : decode cL_move 4 = .ok (.iload_n 1, 1) := by decide +kernel
theorem dL_move_5 : decode cL_move 5 = .ok (.iload_n 2, 1) := by decide +kernel
theorem dL_move_6 : decode cL_move 6 = .ok (.iload_n 3, 1) := by decide +kernel
theorem dL_move_7 : decode cL_move 7 = .ok (.invokevirtual 60, 3) := by decide +kernel
theorem dL_move_10 : decode cL_move 10 = .ok (.i2l, 1) := by decide +kernel
theorem dL_move_11 : decode cL_move 11 = .ok (.lastore, 1) := by decide +kernel
theorem dL_move_12 : decode cL_move 12 = .ok (.goto 15, 3) := by decide +kernel
theorem dL_move_15 : decode cL_move 15 = .ok (.astore 5, 2) := by decide +kernel
theorem dL_move_17 : decode cL_move 17 = .ok (.iconst 1, 1) := by decide +kernel
theorem dL_move_18 : decode cL_move 18 = .ok (.ireturn, 1) := by decide +kernel
theorem dL_move_19 : decode cL_move 19 = .ok (.astore 5, 2) := by decide +kernel
theorem dL_move_21 : decode cL_move 21 = .ok (.iconst 2, 1) := by decide +kernel
theorem dL_move_22 : decode cL_move 22 = .ok (.ireturn, 1) := by decide +kernel
theorem dL_move_23 : decode cL_move 23 = .ok (.astore 5, 2) := by decide +kernel
theorem dL_move_25 : decode cL_move 25 = .ok (.iconst 3, 1) := by decide +kernel
theorem dL_move_26 : decode cL_move 26 = .ok (.ireturn, 1) := by decide +kernel
theorem dL_move_27 : decode cL_move 27 = .ok (.iconst 0, 1) := by decide +kernel
theorem dL_move_28 : decode cL_move 28 = .ok (.ireturn, 1) := by decide +kernel
theorem dL_moves_0 : decode cL_moves 0 = .ok (.aload_n 2, 1) := by decide +kernel
theorem dL_moves_1 : decode cL_moves 1 = .ok (.iconst 0, 1) := by decide +kernel
theorem dL_moves_2 : decode cL_moves 2 = .ok (.aload_n 0, 1) := by decide +kernel
theorem dL_moves_3 : decode cL_moves 3 = .ok (.iload_n 1, 1) := by decide +kernel
theorem dL_moves_4 : decode cL_moves 4 = .ok (.invokevirtual 64, 3) := by decide +kernel
theorem dL_moves_7 : decode cL_moves 7 = .ok (.i2l, 1) := by decide +kernel
theorem dL_moves_8 : decode cL_moves 8 = .ok (.lastore, 1) := by decide +kernel
theorem dL_moves_9 : decode cL_moves 9 = .ok (.goto 6, 3) := by decide +kernel
theorem dL_moves_12 : decode cL_moves 12 = .ok (.astore_n 3, 1) := by decide +kernel
theorem dL_moves_13 : decode cL_moves 13 = .ok (.iconst 1, 1) := by decide +kernel
theorem dL_moves_14 : decode cL_moves 14 = .ok (.ireturn, 1) := by decide +kernel
theorem dL_moves_15 : decode cL_moves 15 = .ok (.iconst 0, 1) := by decide +kernel
theorem dL_moves_16 : decode cL_moves 16 = .ok (.ireturn, 1) := by decide +kernel
theorem dL_greediest_0 : decode cL_greediest 0 = .ok (.aload_n 2, 1) := by decide +kernel
theorem dL_greediest_1 : decode cL_greediest 1 = .ok (.iconst 0, 1) := by decide +kernel
theorem dL_greediest_2 : decode cL_greediest 2 = .ok (.aload_n 0, 1) := by decide +kernel
theorem dL_greediest_3 : decode cL_greediest 3 = .ok (.iload_n 1, 1) := by decide +kernel
theorem dL_greediest_4 : decode cL_greediest 4 = .ok (.invokevirtual 67, 3) := by decide +kernel
theorem dL_greediest_7 : decode cL_greediest 7 = .ok (.i2l, 1) := by decide +kernel
theorem dL_greediest_8 : decode cL_greediest 8 = .ok (.lastore, 1) := by decide +kernel
theorem dL_greediest_9 : decode cL_greediest 9 = .ok (.goto 9, 3) := by decide +kernel
theorem dL_greediest_12 : decode cL_greediest 12 = .ok (.astore_n 3, 1) := by decide +kernel
theorem dL_greediest_13 : decode cL_greediest 13 = .ok (.iconst 1, 1) := by decide +kernel
theorem dL_greediest_14 : decode cL_greediest 14 = .ok (.ireturn, 1) := by decide +kernel
theorem dL_greediest_15 : decode cL_greediest 15 = .ok (.astore_n 3, 1) := by decide +kernel
theorem dL_greediest_16 : decode cL_greediest 16 = .ok (.iconst 2, 1) := by decide +kernel
theorem dL_greediest_17 : decode cL_greediest 17 = .ok (.ireturn, 1) := by decide +kernel
theorem dL_greediest_18 : decode cL_greediest 18 = .ok (.iconst 0, 1) := by decide +kernel
theorem dL_greediest_19 : decode cL_greediest 19 = .ok (.ireturn, 1) := by decide +kernel
theorem dL_setStone_0 : decode cL_setStone 0 = .ok (.aload_n 3, 1) := by decide +kernel
theorem dL_setStone_1 : decode cL_setStone 1 = .ok (.iconst 0, 1) := by decide +kernel
theorem dL_setStone_2 : decode cL_setStone 2 = .ok (.aload_n 0, 1) := by decide +kernel
theorem dL_setStone_3 : decode cL_setStone 3 = .ok (.iload_n 1, 1) := by decide +kernel
theorem dL_setStone_4 : decode cL_setStone 4 = .ok (.iload_n 2, 1) := by decide +kernel
theorem dL_setStone_5 : decode cL_setStone 5 = .ok (.invokevirtual 70, 3) := by decide +kernel
theorem dL_setStone_8 : decode cL_setStone 8 = .ok (.i2l, 1) := by decide +kernel
theorem dL_setStone_9 : decode cL_setStone 9 = .ok (.lastore, 1) := by decide +kernel
theorem dL_setStone_10 : decode cL_setStone 10 = .ok (.goto 15, 3) := by decide +kernel
theorem dL_setStone_13 : decode cL_setStone 13 = .ok (.astore 4, 2) := by decide +kernel
theorem dL_setStone_15 : decode cL_setStone 15 = .ok (.iconst 1, 1) := by decide +kernel
theorem dL_setStone_16 : decode cL_setStone 16 = .ok (.ireturn, 1) := by decide +kernel
theorem dL_setStone_17 : decode cL_setStone 17 = .ok (.astore 4, 2) := by decide +kernel
theorem dL_setStone_19 : decode cL_setStone 19 = .ok (.iconst 2, 1) := by decide +kernel
theorem dL_setStone_20 : decode cL_setStone 20 = .ok (.ireturn, 1) := by decide +kernel
theorem dL_setStone_21 : decode cL_setStone 21 = .ok (.astore 4, 2) := by decide +kernel
theorem dL_setStone_23 : decode cL_setStone 23 = .ok (.iconst 3, 1) := by decide +kernel
theorem dL_setStone_24 : decode cL_setStone 24 = .ok (.ireturn, 1) := by decide +kernel
theorem dL_setStone_25 : decode cL_setStone 25 = .ok (.iconst 0, 1) := by decide +kernel
theorem dL_setStone_26 : decode cL_setStone 26 = .ok (.ireturn, 1) := by decide +kernel
theorem dL_setTurn_0 : decode cL_setTurn 0 = .ok (.aload_n 2, 1) := by decide +kernel
theorem dL_setTurn_1 : decode cL_setTurn 1 = .ok (.iconst 0, 1) := by decide +kernel
theorem dL_setTurn_2 : decode cL_setTurn 2 = .ok (.aload_n 0, 1) := by decide +kernel
theorem dL_setTurn_3 : decode cL_setTurn 3 = .ok (.iload_n 1, 1) := by decide +kernel
theorem dL_setTurn_4 : decode cL_setTurn 4 = .ok (.invokevirtual 73, 3) := by decide +kernel
theorem dL_setTurn_7 : decode cL_setTurn 7 = .ok (.i2l, 1) := by decide +kernel
theorem dL_setTurn_8 : decode cL_setTurn 8 = .ok (.lastore, 1) := by decide +kernel
theorem dL_setTurn_9 : decode cL_setTurn 9 = .ok (.goto 6, 3) := by decide +kernel
theorem dL_setTurn_12 : decode cL_setTurn 12 = .ok (.astore_n 3, 1) := by decide +kernel
theorem dL_setTurn_13 : decode cL_setTurn 13 = .ok (.iconst 1, 1) := by decide +kernel
theorem dL_setTurn_14 : decode cL_setTurn 14 = .ok (.ireturn, 1) := by decide +kernel
theorem dL_setTurn_15 : decode cL_setTurn 15 = .ok (.iconst 0, 1) := by decide +kernel
theorem dL_setTurn_16 : decode cL_setTurn 16 = .ok (.ireturn, 1) := by decide +kernel
theorem dL_setRule_0 : decode cL_setRule 0 = .ok (.aload_n 2, 1) := by decide +kernel
theorem dL_setRule_1 : decode cL_setRule 1 = .ok (.iconst 0, 1) := by decide +kernel
theorem dL_setRule_2 : decode cL_setRule 2 = .ok (.aload_n 0, 1) := by decide +kernel
theorem dL_setRule_3 : decode cL_setRule 3 = .ok (.iload_n 1, 1) := by decide +kernel
theorem dL_setRule_4 : decode cL_setRule 4 = .ok (.invokevirtual 76, 3) := by decide +kernel
theorem dL_setRule_7 : decode cL_setRule 7 = .ok (.i2l, 1) := by decide +kernel
theorem dL_setRule_8 : decode cL_setRule 8 = .ok (.lastore, 1) := by decide +kernel
theorem dL_setRule_9 : decode cL_setRule 9 = .ok (.goto 6, 3) := by decide +kernel
theorem dL_setRule_12 : decode cL_setRule 12 = .ok (.astore_n 3, 1) := by decide +kernel
theorem dL_setRule_13 : decode cL_setRule 13 = .ok (.iconst 1, 1) := by decide +kernel
theorem dL_setRule_14 : decode cL_setRule 14 = .ok (.ireturn, 1) := by decide +kernel
theorem dL_setRule_15 : decode cL_setRule 15 = .ok (.iconst 0, 1) := by decide +kernel
theorem dL_setRule_16 : decode cL_setRule 16 = .ok (.ireturn, 1) := by decide +kernel
theorem dL_setBonus_0 : decode cL_setBonus 0 = .ok (.aload_n 2, 1) := by decide +kernel
theorem dL_setBonus_1 : decode cL_setBonus 1 = .ok (.iconst 0, 1) := by decide +kernel
theorem dL_setBonus_2 : decode cL_setBonus 2 = .ok (.aload_n 0, 1) := by decide +kernel
theorem dL_setBonus_3 : decode cL_setBonus 3 = .ok (.iload_n 1, 1) := by decide +kernel
theorem dL_setBonus_4 : decode cL_setBonus 4 = .ok (.invokevirtual 79, 3) := by decide +kernel
theorem dL_setBonus_7 : decode cL_setBonus 7 = .ok (.i2l, 1) := by decide +kernel
theorem dL_setBonus_8 : decode cL_setBonus 8 = .ok (.lastore, 1) := by decide +kernel
theorem dL_setBonus_9 : decode cL_setBonus 9 = .ok (.goto 6, 3) := by decide +kernel
theorem dL_setBonus_12 : decode cL_setBonus 12 = .ok (.astore_n 3, 1) := by decide +kernel
theorem dL_setBonus_13 : decode cL_setBonus 13 = .ok (.iconst 1, 1) := by decide +kernel
theorem dL_setBonus_14 : decode cL_setBonus 14 = .ok (.ireturn, 1) := by decide +kernel
theorem dL_setBonus_15 : decode cL_setBonus 15 = .ok (.iconst 0, 1) := by decide +kernel
theorem dL_setBonus_16 : decode cL_setBonus 16 = .ok (.ireturn, 1) := by decide +kernel
theorem dL_pools_0 : decode cL_pools 0 = .ok (.aload_n 2, 1) := by decide +kernel
theorem dL_pools_1 : decode cL_pools 1 = .ok (.iconst 0, 1) := by decide +kernel
theorem dL_pools_2 : decode cL_pools 2 = .ok (.aload_n 0, 1) := by decide +kernel
theorem dL_pools_3 : decode cL_pools 3 = .ok (.iload_n 1, 1) := by decide +kernel
theorem dL_pools_4 : decode cL_pools 4 = .ok (.invokevirtual 82, 3) := by decide +kernel
theorem dL_pools_7 : decode cL_pools 7 = .ok (.i2l, 1) := by decide +kernel
theorem dL_pools_8 : decode cL_pools 8 = .ok (.lastore, 1) := by decide +kernel
theorem dL_pools_9 : decode cL_pools 9 = .ok (.goto 6, 3) := by decide +kernel
theorem dL_pools_12 : decode cL_pools 12 = .ok (.astore_n 3, 1) := by decide +kernel
theorem dL_pools_13 : decode cL_pools 13 = .ok (.iconst 1, 1) := by decide +kernel
theorem dL_pools_14 : decode cL_pools 14 = .ok (.ireturn, 1) := by decide +kernel
theorem dL_pools_15 : decode cL_pools 15 = .ok (.iconst 0, 1) := by decide +kernel
theorem dL_pools_16 : decode cL_pools 16 = .ok (.ireturn, 1) := by decide +kernel
theorem dL_pool_0 : decode cL_pool 0 = .ok (.aload_n 3, 1) := by decide +kernel
theorem dL_pool_1 : decode cL_pool 1 = .ok (.iconst 0, 1) := by decide +kernel
theorem dL_pool_2 : decode cL_pool 2 = .ok (.aload_n 0, 1) := by decide +kernel
theorem dL_pool_3 : decode cL_pool 3 = .ok (.iload_n 1, 1) := by decide +kernel
theorem dL_pool_4 : decode cL_pool 4 = .ok (.iload_n 2, 1) := by decide +kernel
theorem dL_pool_5 : decode cL_pool 5 = .ok (.invokevirtual 85, 3) := by decide +kernel
theorem dL_pool_8 : decode cL_pool 8 = .ok (.i2l, 1) := by decide +kernel
theorem dL_pool_9 : decode cL_pool 9 = .ok (.lastore, 1) := by decide +kernel
theorem dL_pool_10 : decode cL_pool 10 = .ok (.goto 15, 3) := by decide +kernel
theorem dL_pool_13 : decode cL_pool 13 = .ok (.astore 4, 2) := by decide +kernel
theorem dL_pool_15 : decode cL_pool 15 = .ok (.iconst 1, 1) := by decide +kernel
theorem dL_pool_16 : decode cL_pool 16 = .ok (.ireturn, 1) := by decide +kernel
theorem dL_pool_17 : decode cL_pool 17 = .ok (.astore 4, 2) := by decide +kernel
theorem dL_pool_19 : decode cL_pool 19 = .ok (.iconst 2, 1) := by decide +kernel
theorem dL_pool_20 : decode cL_pool 20 = .ok (.ireturn, 1) := by decide +kernel
theorem dL_pool_21 : decode cL_pool 21 = .ok (.astore 4, 2) := by decide +kernel
theorem dL_pool_23 : decode cL_pool 23 = .ok (.iconst 3, 1) := by decide +kernel
theorem dL_pool_24 : decode cL_pool 24 = .ok (.ireturn, 1) := by decide +kernel
theorem dL_pool_25 : decode cL_pool 25 = .ok (.iconst 0, 1) := by decide +kernel
theorem dL_pool_26 : decode cL_pool 26 = .ok (.ireturn, 1) := by decide +kernel
theorem dL_isSharedEye_0 : decode cL_isSharedEye 0 = .ok (.aload_n 2, 1) := by decide +kernel
theorem dL_isSharedEye_1 : decode cL_isSharedEye 1 = .ok (.iconst 0, 1) := by decide +kernel
theorem dL_isSharedEye_2 : decode cL_isSharedEye 2 = .ok (.aload_n 0, 1) := by decide +kernel
theorem dL_isSharedEye_3 : decode cL_isSharedEye 3 = .ok (.iload_n 1, 1) := by decide +kernel
theorem dL_isSharedEye_4 : decode cL_isSharedEye 4 = .ok (.invokevirtual 88, 3) := by decide +kernel
theorem dL_isSharedEye_7 : decode cL_isSharedEye 7 = .ok (.ifCond .eq 7, 3) := by decide +kernel
theorem dL_isSharedEye_10 : decode cL_isSharedEye 10 = .ok (.lconst 1, 1) := by decide +kernel
theorem dL_isSharedEye_11 : decode cL_isSharedEye 11 = .ok (.goto 4, 3) := by decide +kernel
theorem dL_isSharedEye_14 : decode cL_isSharedEye 14 = .ok (.lconst 0, 1) := by decide +kernel
theorem dL_isSharedEye_15 : decode cL_isSharedEye 15 = .ok (.lastore, 1) := by decide +kernel
theorem dL_isSharedEye_16 : decode cL_isSharedEye 16 = .ok (.goto 6, 3) := by decide +kernel
theorem dL_isSharedEye_19 : decode cL_isSharedEye 19 = .ok (.astore_n 3, 1) := by decide +kernel
theorem dL_isSharedEye_20 : decode cL_isSharedEye 20 = .ok (.iconst 1, 1) := by decide +kernel
theorem dL_isSharedEye_21 : decode cL_isSharedEye 21 = .ok (.ireturn, 1) := by decide +kernel
theorem dL_isSharedEye_22 : decode cL_isSharedEye 22 = .ok (.iconst 0, 1) := by decide +kernel
theorem dL_isSharedEye_23 : decode cL_isSharedEye 23 = .ok (.ireturn, 1) := by decide +kernel
theorem dL_isStandoff_0 : decode cL_isStandoff 0 = .ok (.aload_n 2, 1) := by decide +kernel
theorem dL_isStandoff_1 : decode cL_isStandoff 1 = .ok (.iconst 0, 1) := by decide +kernel
theorem dL_isStandoff_2 : decode cL_isStandoff 2 = .ok (.aload_n 0, 1) := by decide +kernel
theorem dL_isStandoff_3 : decode cL_isStandoff 3 = .ok (.iload_n 1, 1) := by decide +kernel
theorem dL_isStandoff_4 : decode cL_isStandoff 4 = .ok (.invokevirtual 92, 3) := by decide +kernel
theorem dL_isStandoff_7 : decode cL_isStandoff 7 = .ok (.ifCond .eq 7, 3) := by decide +kernel
theorem dL_isStandoff_10 : decode cL_isStandoff 10 = .ok (.lconst 1, 1) := by decide +kernel
theorem dL_isStandoff_11 : decode cL_isStandoff 11 = .ok (.goto 4, 3) := by decide +kernel
theorem dL_isStandoff_14 : decode cL_isStandoff 14 = .ok (.lconst 0, 1) := by decide +kernel
theorem dL_isStandoff_15 : decode cL_isStandoff 15 = .ok (.lastore, 1) := by decide +kernel
theorem dL_isStandoff_16 : decode cL_isStandoff 16 = .ok (.goto 6, 3) := by decide +kernel
theorem dL_isStandoff_19 : decode cL_isStandoff 19 = .ok (.astore_n 3, 1) := by decide +kernel
theorem dL_isStandoff_20 : decode cL_isStandoff 20 = .ok (.iconst 1, 1) := by decide +kernel
theorem dL_isStandoff_21 : decode cL_isStandoff 21 = .ok (.ireturn, 1) := by decide +kernel
theorem dL_isStandoff_22 : decode cL_isStandoff 22 = .ok (.iconst 0, 1) := by decide +kernel
theorem dL_isStandoff_23 : decode cL_isStandoff 23 = .ok (.ireturn, 1) := by decide +kernel
theorem dL_isAlive_0 : decode cL_isAlive 0 = .ok (.aload_n 2, 1) := by decide +kernel
theorem dL_isAlive_1 : decode cL_isAlive 1 = .ok (.iconst 0, 1) := by decide +kernel
theorem dL_isAlive_2 : decode cL_isAlive 2 = .ok (.aload_n 0, 1) := by decide +kernel
theorem dL_isAlive_3 : decode cL_isAlive 3 = .ok (.iload_n 1, 1) := by decide +kernel
theorem dL_isAlive_4 : decode cL_isAlive 4 = .ok (.invokevirtual 95, 3) := by decide +kernel
theorem dL_isAlive_7 : decode cL_isAlive 7 = .ok (.ifCond .eq 7, 3) := by decide +kernel
theorem dL_isAlive_10 : decode cL_isAlive 10 = .ok (.lconst 1, 1) := by decide +kernel
theorem dL_isAlive_11 : decode cL_isAlive 11 = .ok (.goto 4, 3) := by decide +kernel
theorem dL_isAlive_14 : decode cL_isAlive 14 = .ok (.lconst 0, 1) := by decide +kernel
theorem dL_isAlive_15 : decode cL_isAlive 15 = .ok (.lastore, 1) := by decide +kernel
theorem dL_isAlive_16 : decode cL_isAlive 16 = .ok (.goto 6, 3) := by decide +kernel
theorem dL_isAlive_19 : decode cL_isAlive 19 = .ok (.astore_n 3, 1) := by decide +kernel
theorem dL_isAlive_20 : decode cL_isAlive 20 = .ok (.iconst 1, 1) := by decide +kernel
theorem dL_isAlive_21 : decode cL_isAlive 21 = .ok (.ireturn, 1) := by decide +kernel
theorem dL_isAlive_22 : decode cL_isAlive 22 = .ok (.iconst 0, 1) := by decide +kernel
theorem dL_isAlive_23 : decode cL_isAlive 23 = .ok (.ireturn, 1) := by decide +kernel
theorem dL_alive_0 : decode cL_alive 0 = .ok (.aload_n 2, 1) := by decide +kernel
theorem dL_alive_1 : decode cL_alive 1 = .ok (.iconst 0, 1) := by decide +kernel
theorem dL_alive_2 : decode cL_alive 2 = .ok (.aload_n 0, 1) := by decide +kernel
theorem dL_alive_3 : decode cL_alive 3 = .ok (.iload_n 1, 1) := by decide +kernel
theorem dL_alive_4 : decode cL_alive 4 = .ok (.invokevirtual 98, 3) := by decide +kernel
theorem dL_alive_7 : decode cL_alive 7 = .ok (.i2l, 1) := by decide +kernel
theorem dL_alive_8 : decode cL_alive 8 = .ok (.lastore, 1) := by decide +kernel
theorem dL_alive_9 : decode cL_alive 9 = .ok (.goto 6, 3) := by decide +kernel
theorem dL_alive_12 : decode cL_alive 12 = .ok (.astore_n 3, 1) := by decide +kernel
theorem dL_alive_13 : decode cL_alive 13 = .ok (.iconst 1, 1) := by decide +kernel
theorem dL_alive_14 : decode cL_alive 14 = .ok (.ireturn, 1) := by decide +kernel
theorem dL_alive_15 : decode cL_alive 15 = .ok (.iconst 0, 1) := by decide +kernel
theorem dL_alive_16 : decode cL_alive 16 = .ok (.ireturn, 1) := by decide +kernel
theorem dL_caughtBy_0 : decode cL_caughtBy 0 = .ok (.aload_n 2, 1) := by decide +kernel
theorem dL_caughtBy_1 : decode cL_caughtBy 1 = .ok (.iconst 0, 1) := by decide +kernel
theorem dL_caughtBy_2 : decode cL_caughtBy 2 = .ok (.aload_n 0, 1) := by decide +kernel
theorem dL_caughtBy_3 : decode cL_caughtBy 3 = .ok (.iload_n 1, 1) := by decide +kernel
theorem dL_caughtBy_4 : decode cL_caughtBy 4 = .ok (.invokevirtual 101, 3) := by decide +kernel
theorem dL_caughtBy_7 : decode cL_caughtBy 7 = .ok (.i2l, 1) := by decide +kernel
theorem dL_caughtBy_8 : decode cL_caughtBy 8 = .ok (.lastore, 1) := by decide +kernel
theorem dL_caughtBy_9 : decode cL_caughtBy 9 = .ok (.goto 9, 3) := by decide +kernel
theorem dL_caughtBy_12 : decode cL_caughtBy 12 = .ok (.astore_n 3, 1) := by decide +kernel
theorem dL_caughtBy_13 : decode cL_caughtBy 13 = .ok (.iconst 1, 1) := by decide +kernel
theorem dL_caughtBy_14 : decode cL_caughtBy 14 = .ok (.ireturn, 1) := by decide +kernel
theorem dL_caughtBy_15 : decode cL_caughtBy 15 = .ok (.astore_n 3, 1) := by decide +kernel
theorem dL_caughtBy_16 : decode cL_caughtBy 16 = .ok (.iconst 2, 1) := by decide +kernel
theorem dL_caughtBy_17 : decode cL_caughtBy 17 = .ok (.ireturn, 1) := by decide +kernel
theorem dL_caughtBy_18 : decode cL_caughtBy 18 = .ok (.iconst 0, 1) := by decide +kernel
theorem dL_caughtBy_19 : decode cL_caughtBy 19 = .ok (.ireturn, 1) := by decide +kernel
theorem dL_area_0 : decode cL_area 0 = .ok (.aload_n 2, 1) := by decide +kernel
theorem dL_area_1 : decode cL_area 1 = .ok (.iconst 0, 1) := by decide +kernel
theorem dL_area_2 : decode cL_area 2 = .ok (.aload_n 0, 1) := by decide +kernel
theorem dL_area_3 : decode cL_area 3 = .ok (.iload_n 1, 1) := by decide +kernel
theorem dL_area_4 : decode cL_area 4 = .ok (.invokevirtual 104, 3) := by decide +kernel
theorem dL_area_7 : decode cL_area 7 = .ok (.i2l, 1) := by decide +kernel
theorem dL_area_8 : decode cL_area 8 = .ok (.lastore, 1) := by decide +kernel
theorem dL_area_9 : decode cL_area 9 = .ok (.goto 6, 3) := by decide +kernel
theorem dL_area_12 : decode cL_area 12 = .ok (.astore_n 3, 1) := by decide +kernel
theorem dL_area_13 : decode cL_area 13 = .ok (.iconst 1, 1) := by decide +kernel
theorem dL_area_14 : decode cL_area 14 = .ok (.ireturn, 1) := by decide +kernel
theorem dL_area_15 : decode cL_area 15 = .ok (.iconst 0, 1) := by decide +kernel
theorem dL_area_16 : decode cL_area 16 = .ok (.ireturn, 1) := by decide +kernel
theorem dL_share_0 : decode cL_share 0 = .ok (.aload_n 2, 1) := by decide +kernel
theorem dL_share_1 : decode cL_share 1 = .ok (.iconst 0, 1) := by decide +kernel
theorem dL_share_2 : decode cL_share 2 = .ok (.aload_n 0, 1) := by decide +kernel
theorem dL_share_3 : decode cL_share 3 = .ok (.iload_n 1, 1) := by decide +kernel
theorem dL_share_4 : decode cL_share 4 = .ok (.invokevirtual 107, 3) := by decide +kernel
theorem dL_share_7 : decode cL_share 7 = .ok (.f2d, 1) := by decide +kernel
theorem dL_share_8 : decode cL_share 8 = .ok (.dastore, 1) := by decide +kernel
theorem dL_share_9 : decode cL_share 9 = .ok (.goto 6, 3) := by decide +kernel
theorem dL_share_12 : decode cL_share 12 = .ok (.astore_n 3, 1) := by decide +kernel
theorem dL_share_13 : decode cL_share 13 = .ok (.iconst 1, 1) := by decide +kernel
theorem dL_share_14 : decode cL_share 14 = .ok (.ireturn, 1) := by decide +kernel
theorem dL_share_15 : decode cL_share 15 = .ok (.iconst 0, 1) := by decide +kernel
theorem dL_share_16 : decode cL_share 16 = .ok (.ireturn, 1) := by decide +kernel
theorem dL_writeRing_0 : decode cL_writeRing 0 = .ok (.aload_n 2, 1) := by decide +kernel
theorem dL_writeRing_1 : decode cL_writeRing 1 = .ok (.iconst 0, 1) := by decide +kernel
theorem dL_writeRing_2 : decode cL_writeRing 2 = .ok (.aload_n 0, 1) := by decide +kernel
theorem dL_writeRing_3 : decode cL_writeRing 3 = .ok (.iload_n 1, 1) := by decide +kernel
theorem dL_writeRing_4 : decode cL_writeRing 4 = .ok (.invokevirtual 111, 3) := by decide +kernel
theorem dL_writeRing_7 : decode cL_writeRing 7 = .ok (.i2l, 1) := by decide +kernel
theorem dL_writeRing_8 : decode cL_writeRing 8 = .ok (.lastore, 1) := by decide +kernel
theorem dL_writeRing_9 : decode cL_writeRing 9 = .ok (.goto 6, 3) := by decide +kernel
theorem dL_writeRing_12 : decode cL_writeRing 12 = .ok (.astore_n 3, 1) := by decide +kernel
theorem dL_writeRing_13 : decode cL_writeRing 13 = .ok (.iconst 1, 1) := by decide +kernel
theorem dL_writeRing_14 : decode cL_writeRing 14 = .ok (.ireturn, 1) := by decide +kernel
theorem dL_writeRing_15 : decode cL_writeRing 15 = .ok (.iconst 0, 1) := by decide +kernel
theorem dL_writeRing_16 : decode cL_writeRing 16 = .ok (.ireturn, 1) := by decide +kernel
theorem dL_writtenByte_0 : decode cL_writtenByte 0 = .ok (.aload_n 2, 1) := by decide +kernel
theorem dL_writtenByte_1 : decode cL_writtenByte 1 = .ok (.iconst 0, 1) := by decide +kernel
theorem dL_writtenByte_2 : decode cL_writtenByte 2 = .ok (.aload_n 0, 1) := by decide +kernel
theorem dL_writtenByte_3 : decode cL_writtenByte 3 = .ok (.iload_n 1, 1) := by decide +kernel
theorem dL_writtenByte_4 : decode cL_writtenByte 4 = .ok (.invokevirtual 114, 3) := by decide +kernel
theorem dL_writtenByte_7 : decode cL_writtenByte 7 = .ok (.i2l, 1) := by decide +kernel
theorem dL_writtenByte_8 : decode cL_writtenByte 8 = .ok (.lastore, 1) := by decide +kernel
theorem dL_writtenByte_9 : decode cL_writtenByte 9 = .ok (.goto 6, 3) := by decide +kernel
theorem dL_writtenByte_12 : decode cL_writtenByte 12 = .ok (.astore_n 3, 1) := by decide +kernel
theorem dL_writtenByte_13 : decode cL_writtenByte 13 = .ok (.iconst 1, 1) := by decide +kernel
theorem dL_writtenByte_14 : decode cL_writtenByte 14 = .ok (.ireturn, 1) := by decide +kernel
theorem dL_writtenByte_15 : decode cL_writtenByte 15 = .ok (.iconst 0, 1) := by decide +kernel
theorem dL_writtenByte_16 : decode cL_writtenByte 16 = .ok (.ireturn, 1) := by decide +kernel
theorem dL_undo_0 : decode cL_undo 0 = .ok (.aload_n 1, 1) := by decide +kernel
theorem dL_undo_1 : decode cL_undo 1 = .ok (.iconst 0, 1) := by decide +kernel
theorem dL_undo_2 : decode cL_undo 2 = .ok (.aload_n 0, 1) := by decide +kernel
theorem dL_undo_3 : decode cL_undo 3 = .ok (.invokevirtual 117, 3) := by decide +kernel
theorem dL_undo_6 : decode cL_undo 6 = .ok (.i2l, 1) := by decide +kernel
theorem dL_undo_7 : decode cL_undo 7 = .ok (.lastore, 1) := by decide +kernel
theorem dL_undo_8 : decode cL_undo 8 = .ok (.goto 6, 3) := by decide +kernel
theorem dL_undo_11 : decode cL_undo 11 = .ok (.astore_n 2, 1) := by decide +kernel
theorem dL_undo_12 : decode cL_undo 12 = .ok (.iconst 1, 1) := by decide +kernel
theorem dL_undo_13 : decode cL_undo 13 = .ok (.ireturn, 1) := by decide +kernel
theorem dL_undo_14 : decode cL_undo 14 = .ok (.iconst 0, 1) := by decide +kernel
theorem dL_undo_15 : decode cL_undo 15 = .ok (.ireturn, 1) := by decide +kernel
theorem dL_save_0 : decode cL_save 0 = .ok (.aload_n 2, 1) := by decide +kernel
theorem dL_save_1 : decode cL_save 1 = .ok (.iconst 0, 1) := by decide +kernel
theorem dL_save_2 : decode cL_save 2 = .ok (.aload_n 0, 1) := by decide +kernel
theorem dL_save_3 : decode cL_save 3 = .ok (.iload_n 1, 1) := by decide +kernel
theorem dL_save_4 : decode cL_save 4 = .ok (.invokevirtual 120, 3) := by decide +kernel
theorem dL_save_7 : decode cL_save 7 = .ok (.i2l, 1) := by decide +kernel
theorem dL_save_8 : decode cL_save 8 = .ok (.lastore, 1) := by decide +kernel
theorem dL_save_9 : decode cL_save 9 = .ok (.goto 6, 3) := by decide +kernel
theorem dL_save_12 : decode cL_save 12 = .ok (.astore_n 3, 1) := by decide +kernel
theorem dL_save_13 : decode cL_save 13 = .ok (.iconst 1, 1) := by decide +kernel
theorem dL_save_14 : decode cL_save 14 = .ok (.ireturn, 1) := by decide +kernel
theorem dL_save_15 : decode cL_save 15 = .ok (.iconst 0, 1) := by decide +kernel
theorem dL_save_16 : decode cL_save 16 = .ok (.ireturn, 1) := by decide +kernel
theorem dL_restore_0 : decode cL_restore 0 = .ok (.aload_n 2, 1) := by decide +kernel
theorem dL_restore_1 : decode cL_restore 1 = .ok (.iconst 0, 1) := by decide +kernel
theorem dL_restore_2 : decode cL_restore 2 = .ok (.aload_n 0, 1) := by decide +kernel
theorem dL_restore_3 : decode cL_restore 3 = .ok (.iload_n 1, 1) := by decide +kernel
theorem dL_restore_4 : decode cL_restore 4 = .ok (.invokevirtual 123, 3) := by decide +kernel
theorem dL_restore_7 : decode cL_restore 7 = .ok (.i2l, 1) := by decide +kernel
theorem dL_restore_8 : decode cL_restore 8 = .ok (.lastore, 1) := by decide +kernel
theorem dL_restore_9 : decode cL_restore 9 = .ok (.goto 9, 3) := by decide +kernel
theorem dL_restore_12 : decode cL_restore 12 = .ok (.astore_n 3, 1) := by decide +kernel
theorem dL_restore_13 : decode cL_restore 13 = .ok (.iconst 1, 1) := by decide +kernel
theorem dL_restore_14 : decode cL_restore 14 = .ok (.ireturn, 1) := by decide +kernel
theorem dL_restore_15 : decode cL_restore 15 = .ok (.astore_n 3, 1) := by decide +kernel
theorem dL_restore_16 : decode cL_restore 16 = .ok (.iconst 2, 1) := by decide +kernel
theorem dL_restore_17 : decode cL_restore 17 = .ok (.ireturn, 1) := by decide +kernel
theorem dL_restore_18 : decode cL_restore 18 = .ok (.iconst 0, 1) := by decide +kernel
theorem dL_restore_19 : decode cL_restore 19 = .ok (.ireturn, 1) := by decide +kernel
theorem dL_differing_0 : decode cL_differing 0 = .ok (.aload_n 2, 1) := by decide +kernel
theorem dL_differing_1 : decode cL_differing 1 = .ok (.iconst 0, 1) := by decide +kernel
theorem dL_differing_2 : decode cL_differing 2 = .ok (.aload_n 0, 1) := by decide +kernel
theorem dL_differing_3 : decode cL_differing 3 = .ok (.iload_n 1, 1) := by decide +kernel
theorem dL_differing_4 : decode cL_differing 4 = .ok (.invokevirtual 126, 3) := by decide +kernel
theorem dL_differing_7 : decode cL_differing 7 = .ok (.i2l, 1) := by decide +kernel
theorem dL_differing_8 : decode cL_differing 8 = .ok (.lastore, 1) := by decide +kernel
theorem dL_differing_9 : decode cL_differing 9 = .ok (.goto 6, 3) := by decide +kernel
theorem dL_differing_12 : decode cL_differing 12 = .ok (.astore_n 3, 1) := by decide +kernel
theorem dL_differing_13 : decode cL_differing 13 = .ok (.iconst 1, 1) := by decide +kernel
theorem dL_differing_14 : decode cL_differing 14 = .ok (.ireturn, 1) := by decide +kernel
theorem dL_differing_15 : decode cL_differing 15 = .ok (.iconst 0, 1) := by decide +kernel
theorem dL_differing_16 : decode cL_differing 16 = .ok (.ireturn, 1) := by decide +kernel
theorem dL_law_0 : decode cL_law 0 = .ok (.new 8, 3) := by decide +kernel
theorem dL_law_3 : decode cL_law 3 = .ok (.dup, 1) := by decide +kernel
theorem dL_law_4 : decode cL_law 4 = .ok (.invokespecial 129, 3) := by decide +kernel
theorem dL_law_7 : decode cL_law 7 = .ok (.astore_n 1, 1) := by decide +kernel
theorem dL_law_8 : decode cL_law 8 = .ok (.new 130, 3) := by decide +kernel
theorem dL_law_11 : decode cL_law 11 = .ok (.dup, 1) := by decide +kernel
theorem dL_law_12 : decode cL_law 12 = .ok (.invokespecial 132, 3) := by decide +kernel
theorem dL_law_15 : decode cL_law 15 = .ok (.astore_n 2, 1) := by decide +kernel
theorem dL_law_16 : decode cL_law 16 = .ok (.iconst 1, 1) := by decide +kernel
theorem dL_law_17 : decode cL_law 17 = .ok (.newarray .long, 2) := by decide +kernel
theorem dL_law_19 : decode cL_law 19 = .ok (.astore_n 3, 1) := by decide +kernel
theorem dL_law_20 : decode cL_law 20 = .ok (.iconst 1, 1) := by decide +kernel
theorem dL_law_21 : decode cL_law 21 = .ok (.newarray .double, 2) := by decide +kernel
theorem dL_law_23 : decode cL_law 23 = .ok (.astore 4, 2) := by decide +kernel
theorem dL_law_25 : decode cL_law 25 = .ok (.iconst 0, 1) := by decide +kernel
theorem dL_law_26 : decode cL_law 26 = .ok (.istore 5, 2) := by decide +kernel
theorem dL_law_28 : decode cL_law 28 = .ok (.iload 5, 2) := by decide +kernel
theorem dL_law_30 : decode cL_law 30 = .ok (.aload_n 0, 1) := by decide +kernel
theorem dL_law_31 : decode cL_law 31 = .ok (.arraylength, 1) := by decide +kernel
theorem dL_law_32 : decode cL_law 32 = .ok (.bipush 6, 2) := by decide +kernel
theorem dL_law_34 : decode cL_law 34 = .ok (.isub, 1) := by decide +kernel
theorem dL_law_35 : decode cL_law 35 = .ok (.if_icmp .gt 2352, 3) := by decide +kernel
theorem dL_law_38 : decode cL_law 38 = .ok (.aload_n 0, 1) := by decide +kernel
theorem dL_law_39 : decode cL_law 39 = .ok (.iload 5, 2) := by decide +kernel
theorem dL_law_41 : decode cL_law 41 = .ok (.iaload, 1) := by decide +kernel
theorem dL_law_42 : decode cL_law 42 = .ok (.bipush 63, 2) := by decide +kernel
theorem dL_law_44 : decode cL_law 44 = .ok (.iand, 1) := by decide +kernel
theorem dL_law_45 : decode cL_law 45 = .ok (.tableswitch 2336 0 36 #[163, 267, 323, 336, 392, 460, 528, 584, 652, 720, 788, 844, 912, 968, 1012, 1092, 1148, 1204, 1272, 1328, 1384, 1440, 1496, 1564, 1627, 1690, 1753, 1809, 1865, 1921, 1934, 2012, 2068, 2124, 2168, 2224, 2280], 163) := by decide +kernel
theorem dL_law_208 : decode cL_law 208 = .ok (.aload_n 1, 1) := by decide +kernel
theorem dL_law_209 : decode cL_law 209 = .ok (.aload_n 0, 1) := by decide +kernel
theorem dL_law_210 : decode cL_law 210 = .ok (.iload 5, 2) := by decide +kernel
theorem dL_law_212 : decode cL_law 212 = .ok (.iconst 1, 1) := by decide +kernel
theorem dL_law_213 : decode cL_law 213 = .ok (.iadd, 1) := by decide +kernel
theorem dL_law_214 : decode cL_law 214 = .ok (.iaload, 1) := by decide +kernel
theorem dL_law_215 : decode cL_law 215 = .ok (.aload_n 0, 1) := by decide +kernel
theorem dL_law_216 : decode cL_law 216 = .ok (.iload 5, 2) := by decide +kernel
theorem dL_law_218 : decode cL_law 218 = .ok (.iconst 2, 1) := by decide +kernel
theorem dL_law_219 : decode cL_law 219 = .ok (.iadd, 1) := by decide +kernel
theorem dL_law_220 : decode cL_law 220 = .ok (.iaload, 1) := by decide +kernel
theorem dL_law_221 : decode cL_law 221 = .ok (.aload_n 0, 1) := by decide +kernel
theorem dL_law_222 : decode cL_law 222 = .ok (.iload 5, 2) := by decide +kernel
theorem dL_law_224 : decode cL_law 224 = .ok (.iconst 3, 1) := by decide +kernel
theorem dL_law_225 : decode cL_law 225 = .ok (.iadd, 1) := by decide +kernel
theorem dL_law_226 : decode cL_law 226 = .ok (.iaload, 1) := by decide +kernel
theorem dL_law_227 : decode cL_law 227 = .ok (.aload_n 0, 1) := by decide +kernel
theorem dL_law_228 : decode cL_law 228 = .ok (.iload 5, 2) := by decide +kernel
theorem dL_law_230 : decode cL_law 230 = .ok (.iconst 4, 1) := by decide +kernel
theorem dL_law_231 : decode cL_law 231 = .ok (.iadd, 1) := by decide +kernel
theorem dL_law_232 : decode cL_law 232 = .ok (.iaload, 1) := by decide +kernel
theorem dL_law_233 : decode cL_law 233 = .ok (.aload_n 0, 1) := by decide +kernel
theorem dL_law_234 : decode cL_law 234 = .ok (.iload 5, 2) := by decide +kernel
theorem dL_law_236 : decode cL_law 236 = .ok (.iconst 5, 1) := by decide +kernel
theorem dL_law_237 : decode cL_law 237 = .ok (.iadd, 1) := by decide +kernel
theorem dL_law_238 : decode cL_law 238 = .ok (.iaload, 1) := by decide +kernel
theorem dL_law_239 : decode cL_law 239 = .ok (.aload_n 3, 1) := by decide +kernel
theorem dL_law_240 : decode cL_law 240 = .ok (.invokestatic 133, 3) := by decide +kernel
theorem dL_law_243 : decode cL_law 243 = .ok (.istore 6, 2) := by decide +kernel
theorem dL_law_245 : decode cL_law 245 = .ok (.aload_n 2, 1) := by decide +kernel
theorem dL_law_246 : decode cL_law 246 = .ok (.aload_n 0, 1) := by decide +kernel
theorem dL_law_247 : decode cL_law 247 = .ok (.iload 5, 2) := by decide +kernel
theorem dL_law_249 : decode cL_law 249 = .ok (.iconst 1, 1) := by decide +kernel
theorem dL_law_250 : decode cL_law 250 = .ok (.iadd, 1) := by decide +kernel
theorem dL_law_251 : decode cL_law 251 = .ok (.iaload, 1) := by decide +kernel
theorem dL_law_252 : decode cL_law 252 = .ok (.aload_n 0, 1) := by decide +kernel
theorem dL_law_253 : decode cL_law 253 = .ok (.iload 5, 2) := by decide +kernel
theorem dL_law_255 : decode cL_law 255 = .ok (.iconst 2, 1) := by decide +kernel
theorem dL_law_256 : decode cL_law 256 = .ok (.iadd, 1) := by decide +kernel
theorem dL_law_257 : decode cL_law 257 = .ok (.iaload, 1) := by decide +kernel
theorem dL_law_258 : decode cL_law 258 = .ok (.aload_n 0, 1) := by decide +kernel
theorem dL_law_259 : decode cL_law 259 = .ok (.iload 5, 2) := by decide +kernel
theorem dL_law_261 : decode cL_law 261 = .ok (.iconst 3, 1) := by decide +kernel
theorem dL_law_262 : decode cL_law 262 = .ok (.iadd, 1) := by decide +kernel
theorem dL_law_263 : decode cL_law 263 = .ok (.iaload, 1) := by decide +kernel
theorem dL_law_264 : decode cL_law 264 = .ok (.aload_n 0, 1) := by decide +kernel
theorem dL_law_265 : decode cL_law 265 = .ok (.iload 5, 2) := by decide +kernel
theorem dL_law_267 : decode cL_law 267 = .ok (.iconst 4, 1) := by decide +kernel
theorem dL_law_268 : decode cL_law 268 = .ok (.iadd, 1) := by decide +kernel
theorem dL_law_269 : decode cL_law 269 = .ok (.iaload, 1) := by decide +kernel
theorem dL_law_270 : decode cL_law 270 = .ok (.aload_n 0, 1) := by decide +kernel
theorem dL_law_271 : decode cL_law 271 = .ok (.iload 5, 2) := by decide +kernel
theorem dL_law_273 : decode cL_law 273 = .ok (.iconst 5, 1) := by decide +kernel
theorem dL_law_274 : decode cL_law 274 = .ok (.iadd, 1) := by decide +kernel
theorem dL_law_275 : decode cL_law 275 = .ok (.iaload, 1) := by decide +kernel
theorem dL_law_276 : decode cL_law 276 = .ok (.invokevirtual 138, 3) := by decide +kernel
theorem dL_law_279 : decode cL_law 279 = .ok (.istore 7, 2) := by decide +kernel
theorem dL_law_281 : decode cL_law 281 = .ok (.aload_n 2, 1) := by decide +kernel
theorem dL_law_282 : decode cL_law 282 = .ok (.invokevirtual 139, 3) := by decide +kernel
theorem dL_law_285 : decode cL_law 285 = .ok (.iload 6, 2) := by decide +kernel
theorem dL_law_287 : decode cL_law 287 = .ok (.if_icmp .eq 5, 3) := by decide +kernel
theorem dL_law_290 : decode cL_law 290 = .ok (.iconst 0, 1) := by decide +kernel
theorem dL_law_291 : decode cL_law 291 = .ok (.ireturn, 1) := by decide +kernel
theorem dL_law_292 : decode cL_law 292 = .ok (.iload 6, 2) := by decide +kernel
theorem dL_law_294 : decode cL_law 294 = .ok (.ifCond .ne 15, 3) := by decide +kernel
theorem dL_law_297 : decode cL_law 297 = .ok (.aload_n 3, 1) := by decide +kernel
theorem dL_law_298 : decode cL_law 298 = .ok (.iconst 0, 1) := by decide +kernel
theorem dL_law_299 : decode cL_law 299 = .ok (.laload, 1) := by decide +kernel
theorem dL_law_300 : decode cL_law 300 = .ok (.iload 7, 2) := by decide +kernel
theorem dL_law_302 : decode cL_law 302 = .ok (.i2l, 1) := by decide +kernel
theorem dL_law_303 : decode cL_law 303 = .ok (.lcmp, 1) := by decide +kernel
theorem dL_law_304 : decode cL_law 304 = .ok (.ifCond .eq 5, 3) := by decide +kernel
theorem dL_law_307 : decode cL_law 307 = .ok (.iconst 0, 1) := by decide +kernel
theorem dL_law_308 : decode cL_law 308 = .ok (.ireturn, 1) := by decide +kernel
theorem dL_law_309 : decode cL_law 309 = .ok (.goto 2072, 3) := by decide +kernel
theorem dL_law_312 : decode cL_law 312 = .ok (.aload_n 1, 1) := by decide +kernel
theorem dL_law_313 : decode cL_law 313 = .ok (.aload_n 0, 1) := by decide +kernel
theorem dL_law_314 : decode cL_law 314 = .ok (.iload 5, 2) := by decide +kernel
theorem dL_law_316 : decode cL_law 316 = .ok (.iconst 1, 1) := by decide +kernel
theorem dL_law_317 : decode cL_law 317 = .ok (.iadd, 1) := by decide +kernel
theorem dL_law_318 : decode cL_law 318 = .ok (.iaload, 1) := by decide +kernel
theorem dL_law_319 : decode cL_law 319 = .ok (.aload_n 3, 1) := by decide +kernel
theorem dL_law_320 : decode cL_law 320 = .ok (.invokestatic 142, 3) := by decide +kernel
theorem dL_law_323 : decode cL_law 323 = .ok (.istore 6, 2) := by decide +kernel
theorem dL_law_325 : decode cL_law 325 = .ok (.aload_n 2, 1) := by decide +kernel
theorem dL_law_326 : decode cL_law 326 = .ok (.aload_n 0, 1) := by decide +kernel
theorem dL_law_327 : decode cL_law 327 = .ok (.iload 5, 2) := by decide +kernel
theorem dL_law_329 : decode cL_law 329 = .ok (.iconst 1, 1) := by decide +kernel
theorem dL_law_330 : decode cL_law 330 = .ok (.iadd, 1) := by decide +kernel
theorem dL_law_331 : decode cL_law 331 = .ok (.iaload, 1) := by decide +kernel
theorem dL_law_332 : decode cL_law 332 = .ok (.invokevirtual 145, 3) := by decide +kernel
theorem dL_law_335 : decode cL_law 335 = .ok (.istore 7, 2) := by decide +kernel
theorem dL_law_337 : decode cL_law 337 = .ok (.aload_n 2, 1) := by decide +kernel
theorem dL_law_338 : decode cL_law 338 = .ok (.invokevirtual 139, 3) := by decide +kernel
theorem dL_law_341 : decode cL_law 341 = .ok (.iload 6, 2) := by decide +kernel
theorem dL_law_343 : decode cL_law 343 = .ok (.if_icmp .eq 5, 3) := by decide +kernel
theorem dL_law_346 : decode cL_law 346 = .ok (.iconst 0, 1) := by decide +kernel
theorem dL_law_347 : decode cL_law 347 = .ok (.ireturn, 1) := by decide +kernel
theorem dL_law_348 : decode cL_law 348 = .ok (.iload 6, 2) := by decide +kernel
theorem dL_law_350 : decode cL_law 350 = .ok (.ifCond .ne 15, 3) := by decide +kernel
theorem dL_law_353 : decode cL_law 353 = .ok (.aload_n 3, 1) := by decide +kernel
theorem dL_law_354 : decode cL_law 354 = .ok (.iconst 0, 1) := by decide +kernel
theorem dL_law_355 : decode cL_law 355 = .ok (.laload, 1) := by decide +kernel
theorem dL_law_356 : decode cL_law 356 = .ok (.iload 7, 2) := by decide +kernel
theorem dL_law_358 : decode cL_law 358 = .ok (.i2l, 1) := by decide +kernel
theorem dL_law_359 : decode cL_law 359 = .ok (.lcmp, 1) := by decide +kernel
theorem dL_law_360 : decode cL_law 360 = .ok (.ifCond .eq 5, 3) := by decide +kernel
theorem dL_law_363 : decode cL_law 363 = .ok (.iconst 0, 1) := by decide +kernel
theorem dL_law_364 : decode cL_law 364 = .ok (.ireturn, 1) := by decide +kernel
theorem dL_law_365 : decode cL_law 365 = .ok (.goto 2016, 3) := by decide +kernel
theorem dL_law_368 : decode cL_law 368 = .ok (.aload_n 1, 1) := by decide +kernel
theorem dL_law_369 : decode cL_law 369 = .ok (.invokevirtual 146, 3) := by decide +kernel
theorem dL_law_372 : decode cL_law 372 = .ok (.aload_n 2, 1) := by decide +kernel
theorem dL_law_373 : decode cL_law 373 = .ok (.invokevirtual 149, 3) := by decide +kernel
theorem dL_law_376 : decode cL_law 376 = .ok (.if_icmp .eq 2005, 3) := by decide +kernel
theorem dL_law_379 : decode cL_law 379 = .ok (.iconst 0, 1) := by decide +kernel
theorem dL_law_380 : decode cL_law 380 = .ok (.ireturn, 1) := by decide +kernel
theorem dL_law_381 : decode cL_law 381 = .ok (.aload_n 1, 1) := by decide +kernel
theorem dL_law_382 : decode cL_law 382 = .ok (.aload_n 0, 1) := by decide +kernel
theorem dL_law_383 : decode cL_law 383 = .ok (.iload 5, 2) := by decide +kernel
theorem dL_law_385 : decode cL_law 385 = .ok (.iconst 1, 1) := by decide +kernel
theorem dL_law_386 : decode cL_law 386 = .ok (.iadd, 1) := by decide +kernel
theorem dL_law_387 : decode cL_law 387 = .ok (.iaload, 1) := by decide +kernel
theorem dL_law_388 : decode cL_law 388 = .ok (.aload_n 3, 1) := by decide +kernel
theorem dL_law_389 : decode cL_law 389 = .ok (.invokestatic 150, 3) := by decide +kernel
theorem dL_law_392 : decode cL_law 392 = .ok (.istore 6, 2) := by decide +kernel
theorem dL_law_394 : decode cL_law 394 = .ok (.aload_n 2, 1) := by decide +kernel
theorem dL_law_395 : decode cL_law 395 = .ok (.aload_n 0, 1) := by decide +kernel
theorem dL_law_396 : decode cL_law 396 = .ok (.iload 5, 2) := by decide +kernel
theorem dL_law_398 : decode cL_law 398 = .ok (.iconst 1, 1) := by decide +kernel
theorem dL_law_399 : decode cL_law 399 = .ok (.iadd, 1) := by decide +kernel
theorem dL_law_400 : decode cL_law 400 = .ok (.iaload, 1) := by decide +kernel
theorem dL_law_401 : decode cL_law 401 = .ok (.invokevirtual 152, 3) := by decide +kernel
theorem dL_law_404 : decode cL_law 404 = .ok (.istore 7, 2) := by decide +kernel
theorem dL_law_406 : decode cL_law 406 = .ok (.aload_n 2, 1) := by decide +kernel
theorem dL_law_407 : decode cL_law 407 = .ok (.invokevirtual 139, 3) := by decide +kernel
theorem dL_law_410 : decode cL_law 410 = .ok (.iload 6, 2) := by decide +kernel
theorem dL_law_412 : decode cL_law 412 = .ok (.if_icmp .eq 5, 3) := by decide +kernel
theorem dL_law_415 : decode cL_law 415 = .ok (.iconst 0, 1) := by decide +kernel
theorem dL_law_416 : decode cL_law 416 = .ok (.ireturn, 1) := by decide +kernel
theorem dL_law_417 : decode cL_law 417 = .ok (.iload 6, 2) := by decide +kernel
theorem dL_law_419 : decode cL_law 419 = .ok (.ifCond .ne 15, 3) := by decide +kernel
theorem dL_law_422 : decode cL_law 422 = .ok (.aload_n 3, 1) := by decide +kernel
theorem dL_law_423 : decode cL_law 423 = .ok (.iconst 0, 1) := by decide +kernel
theorem dL_law_424 : decode cL_law 424 = .ok (.laload, 1) := by decide +kernel
theorem dL_law_425 : decode cL_law 425 = .ok (.iload 7, 2) := by decide +kernel
theorem dL_law_427 : decode cL_law 427 = .ok (.i2l, 1) := by decide +kernel
theorem dL_law_428 : decode cL_law 428 = .ok (.lcmp, 1) := by decide +kernel
theorem dL_law_429 : decode cL_law 429 = .ok (.ifCond .eq 5, 3) := by decide +kernel
theorem dL_law_432 : decode cL_law 432 = .ok (.iconst 0, 1) := by decide +kernel
theorem dL_law_433 : decode cL_law 433 = .ok (.ireturn, 1) := by decide +kernel
theorem dL_law_434 : decode cL_law 434 = .ok (.goto 1947, 3) := by decide +kernel
theorem dL_law_437 : decode cL_law 437 = .ok (.aload_n 1, 1) := by decide +kernel
theorem dL_law_438 : decode cL_law 438 = .ok (.aload_n 0, 1) := by decide +kernel
theorem dL_law_439 : decode cL_law 439 = .ok (.iload 5, 2) := by decide +kernel
theorem dL_law_441 : decode cL_law 441 = .ok (.iconst 1, 1) := by decide +kernel
theorem dL_law_442 : decode cL_law 442 = .ok (.iadd, 1) := by decide +kernel
theorem dL_law_443 : decode cL_law 443 = .ok (.iaload, 1) := by decide +kernel
theorem dL_law_444 : decode cL_law 444 = .ok (.aload_n 0, 1) := by decide +kernel
theorem dL_law_445 : decode cL_law 445 = .ok (.iload 5, 2) := by decide +kernel
theorem dL_law_447 : decode cL_law 447 = .ok (.iconst 2, 1) := by decide +kernel
theorem dL_law_448 : decode cL_law 448 = .ok (.iadd, 1) := by decide +kernel
theorem dL_law_449 : decode cL_law 449 = .ok (.iaload, 1) := by decide +kernel
theorem dL_law_450 : decode cL_law 450 = .ok (.aload_n 3, 1) := by decide +kernel
theorem dL_law_451 : decode cL_law 451 = .ok (.invokestatic 153, 3) := by decide +kernel
theorem dL_law_454 : decode cL_law 454 = .ok (.istore 6, 2) := by decide +kernel
theorem dL_law_456 : decode cL_law 456 = .ok (.aload_n 2, 1) := by decide +kernel
theorem dL_law_457 : decode cL_law 457 = .ok (.aload_n 0, 1) := by decide +kernel
theorem dL_law_458 : decode cL_law 458 = .ok (.iload 5, 2) := by decide +kernel
theorem dL_law_460 : decode cL_law 460 = .ok (.iconst 1, 1) := by decide +kernel
theorem dL_law_461 : decode cL_law 461 = .ok (.iadd, 1) := by decide +kernel
theorem dL_law_462 : decode cL_law 462 = .ok (.iaload, 1) := by decide +kernel
theorem dL_law_463 : decode cL_law 463 = .ok (.aload_n 0, 1) := by decide +kernel
theorem dL_law_464 : decode cL_law 464 = .ok (.iload 5, 2) := by decide +kernel
theorem dL_law_466 : decode cL_law 466 = .ok (.iconst 2, 1) := by decide +kernel
theorem dL_law_467 : decode cL_law 467 = .ok (.iadd, 1) := by decide +kernel
theorem dL_law_468 : decode cL_law 468 = .ok (.iaload, 1) := by decide +kernel
theorem dL_law_469 : decode cL_law 469 = .ok (.invokevirtual 156, 3) := by decide +kernel
theorem dL_law_472 : decode cL_law 472 = .ok (.istore 7, 2) := by decide +kernel
theorem dL_law_474 : decode cL_law 474 = .ok (.aload_n 2, 1) := by decide +kernel
theorem dL_law_475 : decode cL_law 475 = .ok (.invokevirtual 139, 3) := by decide +kernel
theorem dL_law_478 : decode cL_law 478 = .ok (.iload 6, 2) := by decide +kernel
theorem dL_law_480 : decode cL_law 480 = .ok (.if_icmp .eq 5, 3) := by decide +kernel
theorem dL_law_483 : decode cL_law 483 = .ok (.iconst 0, 1) := by decide +kernel
theorem dL_law_484 : decode cL_law 484 = .ok (.ireturn, 1) := by decide +kernel
theorem dL_law_485 : decode cL_law 485 = .ok (.iload 6, 2) := by decide +kernel
theorem dL_law_487 : decode cL_law 487 = .ok (.ifCond .ne 15, 3) := by decide +kernel
theorem dL_law_490 : decode cL_law 490 = .ok (.aload_n 3, 1) := by decide +kernel
theorem dL_law_491 : decode cL_law 491 = .ok (.iconst 0, 1) := by decide +kernel
theorem dL_law_492 : decode cL_law 492 = .ok (.laload, 1) := by decide +kernel
theorem dL_law_493 : decode cL_law 493 = .ok (.iload 7, 2) := by decide +kernel
theorem dL_law_495 : decode cL_law 495 = .ok (.i2l, 1) := by decide +kernel
theorem dL_law_496 : decode cL_law 496 = .ok (.lcmp, 1) := by decide +kernel
theorem dL_law_497 : decode cL_law 497 = .ok (.ifCond .eq 5, 3) := by decide +kernel
theorem dL_law_500 : decode cL_law 500 = .ok (.iconst 0, 1) := by decide +kernel
theorem dL_law_501 : decode cL_law 501 = .ok (.ireturn, 1) := by decide +kernel
theorem dL_law_502 : decode cL_law 502 = .ok (.goto 1879, 3) := by decide +kernel
theorem dL_law_505 : decode cL_law 505 = .ok (.aload_n 1, 1) := by decide +kernel
theorem dL_law_506 : decode cL_law 506 = .ok (.aload_n 0, 1) := by decide +kernel
theorem dL_law_507 : decode cL_law 507 = .ok (.iload 5, 2) := by decide +kernel
theorem dL_law_509 : decode cL_law 509 = .ok (.iconst 1, 1) := by decide +kernel
theorem dL_law_510 : decode cL_law 510 = .ok (.iadd, 1) := by decide +kernel
theorem dL_law_511 : decode cL_law 511 = .ok (.iaload, 1) := by decide +kernel
theorem dL_law_512 : decode cL_law 512 = .ok (.aload_n 0, 1) := by decide +kernel
theorem dL_law_513 : decode cL_law 513 = .ok (.iload 5, 2) := by decide +kernel
theorem dL_law_515 : decode cL_law 515 = .ok (.iconst 2, 1) := by decide +kernel
theorem dL_law_516 : decode cL_law 516 = .ok (.iadd, 1) := by decide +kernel
theorem dL_law_517 : decode cL_law 517 = .ok (.iaload, 1) := by decide +kernel
theorem dL_law_518 : decode cL_law 518 = .ok (.aload_n 3, 1) := by decide +kernel
theorem dL_law_519 : decode cL_law 519 = .ok (.invokestatic 157, 3) := by decide +kernel
theorem dL_law_522 : decode cL_law 522 = .ok (.istore 6, 2) := by decide +kernel
theorem dL_law_524 : decode cL_law 524 = .ok (.aload_n 2, 1) := by decide +kernel
theorem dL_law_525 : decode cL_law 525 = .ok (.aload_n 0, 1) := by decide +kernel
theorem dL_law_526 : decode cL_law 526 = .ok (.iload 5, 2) := by decide +kernel
theorem dL_law_528 : decode cL_law 528 = .ok (.iconst 1, 1) := by decide +kernel
theorem dL_law_529 : decode cL_law 529 = .ok (.iadd, 1) := by decide +kernel
theorem dL_law_530 : decode cL_law 530 = .ok (.iaload, 1) := by decide +kernel
theorem dL_law_531 : decode cL_law 531 = .ok (.aload_n 0, 1) := by decide +kernel
theorem dL_law_532 : decode cL_law 532 = .ok (.iload 5, 2) := by decide +kernel
theorem dL_law_534 : decode cL_law 534 = .ok (.iconst 2, 1) := by decide +kernel
theorem dL_law_535 : decode cL_law 535 = .ok (.iadd, 1) := by decide +kernel
theorem dL_law_536 : decode cL_law 536 = .ok (.iaload, 1) := by decide +kernel
theorem dL_law_537 : decode cL_law 537 = .ok (.invokevirtual 159, 3) := by decide +kernel
theorem dL_law_540 : decode cL_law 540 = .ok (.istore 7, 2) := by decide +kernel
theorem dL_law_542 : decode cL_law 542 = .ok (.aload_n 2, 1) := by decide +kernel
theorem dL_law_543 : decode cL_law 543 = .ok (.invokevirtual 139, 3) := by decide +kernel
theorem dL_law_546 : decode cL_law 546 = .ok (.iload 6, 2) := by decide +kernel
theorem dL_law_548 : decode cL_law 548 = .ok (.if_icmp .eq 5, 3) := by decide +kernel
theorem dL_law_551 : decode cL_law 551 = .ok (.iconst 0, 1) := by decide +kernel
theorem dL_law_552 : decode cL_law 552 = .ok (.ireturn, 1) := by decide +kernel
theorem dL_law_553 : decode cL_law 553 = .ok (.iload 6, 2) := by decide +kernel
theorem dL_law_555 : decode cL_law 555 = .ok (.ifCond .ne 15, 3) := by decide +kernel
theorem dL_law_558 : decode cL_law 558 = .ok (.aload_n 3, 1) := by decide +kernel
theorem dL_law_559 : decode cL_law 559 = .ok (.iconst 0, 1) := by decide +kernel
theorem dL_law_560 : decode cL_law 560 = .ok (.laload, 1) := by decide +kernel
theorem dL_law_561 : decode cL_law 561 = .ok (.iload 7, 2) := by decide +kernel
theorem dL_law_563 : decode cL_law 563 = .ok (.i2l, 1) := by decide +kernel
theorem dL_law_564 : decode cL_law 564 = .ok (.lcmp, 1) := by decide +kernel
theorem dL_law_565 : decode cL_law 565 = .ok (.ifCond .eq 5, 3) := by decide +kernel
theorem dL_law_568 : decode cL_law 568 = .ok (.iconst 0, 1) := by decide +kernel
theorem dL_law_569 : decode cL_law 569 = .ok (.ireturn, 1) := by decide +kernel
theorem dL_law_570 : decode cL_law 570 = .ok (.goto 1811, 3) := by decide +kernel
theorem dL_law_573 : decode cL_law 573 = .ok (.aload_n 1, 1) := by decide +kernel
theorem dL_law_574 : decode cL_law 574 = .ok (.aload_n 0, 1) := by decide +kernel
theorem dL_law_575 : decode cL_law 575 = .ok (.iload 5, 2) := by decide +kernel
theorem dL_law_577 : decode cL_law 577 = .ok (.iconst 1, 1) := by decide +kernel
theorem dL_law_578 : decode cL_law 578 = .ok (.iadd, 1) := by decide +kernel
theorem dL_law_579 : decode cL_law 579 = .ok (.iaload, 1) := by decide +kernel
theorem dL_law_580 : decode cL_law 580 = .ok (.aload_n 3, 1) := by decide +kernel
theorem dL_law_581 : decode cL_law 581 = .ok (.invokestatic 160, 3) := by decide +kernel
theorem dL_law_584 : decode cL_law 584 = .ok (.istore 6, 2) := by decide +kernel
theorem dL_law_586 : decode cL_law 586 = .ok (.aload_n 2, 1) := by decide +kernel
theorem dL_law_587 : decode cL_law 587 = .ok (.aload_n 0, 1) := by decide +kernel
theorem dL_law_588 : decode cL_law 588 = .ok (.iload 5, 2) := by decide +kernel
theorem dL_law_590 : decode cL_law 590 = .ok (.iconst 1, 1) := by decide +kernel
theorem dL_law_591 : decode cL_law 591 = .ok (.iadd, 1) := by decide +kernel
theorem dL_law_592 : decode cL_law 592 = .ok (.iaload, 1) := by decide +kernel
theorem dL_law_593 : decode cL_law 593 = .ok (.invokevirtual 162, 3) := by decide +kernel
theorem dL_law_596 : decode cL_law 596 = .ok (.istore 7, 2) := by decide +kernel
theorem dL_law_598 : decode cL_law 598 = .ok (.aload_n 2, 1) := by decide +kernel
theorem dL_law_599 : decode cL_law 599 = .ok (.invokevirtual 139, 3) := by decide +kernel
theorem dL_law_602 : decode cL_law 602 = .ok (.iload 6, 2) := by decide +kernel
theorem dL_law_604 : decode cL_law 604 = .ok (.if_icmp .eq 5, 3) := by decide +kernel
theorem dL_law_607 : decode cL_law 607 = .ok (.iconst 0, 1) := by decide +kernel
theorem dL_law_608 : decode cL_law 608 = .ok (.ireturn, 1) := by decide +kernel
theorem dL_law_609 : decode cL_law 609 = .ok (.iload 6, 2) := by decide +kernel
theorem dL_law_611 : decode cL_law 611 = .ok (.ifCond .ne 15, 3) := by decide +kernel
theorem dL_law_614 : decode cL_law 614 = .ok (.aload_n 3, 1) := by decide +kernel
theorem dL_law_615 : decode cL_law 615 = .ok (.iconst 0, 1) := by decide +kernel
theorem dL_law_616 : decode cL_law 616 = .ok (.laload, 1) := by decide +kernel
theorem dL_law_617 : decode cL_law 617 = .ok (.iload 7, 2) := by decide +kernel
theorem dL_law_619 : decode cL_law 619 = .ok (.i2l, 1) := by decide +kernel
theorem dL_law_620 : decode cL_law 620 = .ok (.lcmp, 1) := by decide +kernel
theorem dL_law_621 : decode cL_law 621 = .ok (.ifCond .eq 5, 3) := by decide +kernel
theorem dL_law_624 : decode cL_law 624 = .ok (.iconst 0, 1) := by decide +kernel
theorem dL_law_625 : decode cL_law 625 = .ok (.ireturn, 1) := by decide +kernel
theorem dL_law_626 : decode cL_law 626 = .ok (.goto 1755, 3) := by decide +kernel
theorem dL_law_629 : decode cL_law 629 = .ok (.aload_n 1, 1) := by decide +kernel
theorem dL_law_630 : decode cL_law 630 = .ok (.aload_n 0, 1) := by decide +kernel
theorem dL_law_631 : decode cL_law 631 = .ok (.iload 5, 2) := by decide +kernel
theorem dL_law_633 : decode cL_law 633 = .ok (.iconst 1, 1) := by decide +kernel
theorem dL_law_634 : decode cL_law 634 = .ok (.iadd, 1) := by decide +kernel
theorem dL_law_635 : decode cL_law 635 = .ok (.iaload, 1) := by decide +kernel
theorem dL_law_636 : decode cL_law 636 = .ok (.aload_n 0, 1) := by decide +kernel
theorem dL_law_637 : decode cL_law 637 = .ok (.iload 5, 2) := by decide +kernel
theorem dL_law_639 : decode cL_law 639 = .ok (.iconst 2, 1) := by decide +kernel
theorem dL_law_640 : decode cL_law 640 = .ok (.iadd, 1) := by decide +kernel
theorem dL_law_641 : decode cL_law 641 = .ok (.iaload, 1) := by decide +kernel
theorem dL_law_642 : decode cL_law 642 = .ok (.aload_n 3, 1) := by decide +kernel
theorem dL_law_643 : decode cL_law 643 = .ok (.invokestatic 163, 3) := by decide +kernel
theorem dL_law_646 : decode cL_law 646 = .ok (.istore 6, 2) := by decide +kernel
theorem dL_law_648 : decode cL_law 648 = .ok (.aload_n 2, 1) := by decide +kernel
theorem dL_law_649 : decode cL_law 649 = .ok (.aload_n 0, 1) := by decide +kernel
theorem dL_law_650 : decode cL_law 650 = .ok (.iload 5, 2) := by decide +kernel
theorem dL_law_652 : decode cL_law 652 = .ok (.iconst 1, 1) := by decide +kernel
theorem dL_law_653 : decode cL_law 653 = .ok (.iadd, 1) := by decide +kernel
theorem dL_law_654 : decode cL_law 654 = .ok (.iaload, 1) := by decide +kernel
theorem dL_law_655 : decode cL_law 655 = .ok (.aload_n 0, 1) := by decide +kernel
theorem dL_law_656 : decode cL_law 656 = .ok (.iload 5, 2) := by decide +kernel
theorem dL_law_658 : decode cL_law 658 = .ok (.iconst 2, 1) := by decide +kernel
theorem dL_law_659 : decode cL_law 659 = .ok (.iadd, 1) := by decide +kernel
theorem dL_law_660 : decode cL_law 660 = .ok (.iaload, 1) := by decide +kernel
theorem dL_law_661 : decode cL_law 661 = .ok (.invokevirtual 165, 3) := by decide +kernel
theorem dL_law_664 : decode cL_law 664 = .ok (.istore 7, 2) := by decide +kernel
theorem dL_law_666 : decode cL_law 666 = .ok (.aload_n 2, 1) := by decide +kernel
theorem dL_law_667 : decode cL_law 667 = .ok (.invokevirtual 139, 3) := by decide +kernel
theorem dL_law_670 : decode cL_law 670 = .ok (.iload 6, 2) := by decide +kernel
theorem dL_law_672 : decode cL_law 672 = .ok (.if_icmp .eq 5, 3) := by decide +kernel
theorem dL_law_675 : decode cL_law 675 = .ok (.iconst 0, 1) := by decide +kernel
theorem dL_law_676 : decode cL_law 676 = .ok (.ireturn, 1) := by decide +kernel
theorem dL_law_677 : decode cL_law 677 = .ok (.iload 6, 2) := by decide +kernel
theorem dL_law_679 : decode cL_law 679 = .ok (.ifCond .ne 15, 3) := by decide +kernel
theorem dL_law_682 : decode cL_law 682 = .ok (.aload_n 3, 1) := by decide +kernel
theorem dL_law_683 : decode cL_law 683 = .ok (.iconst 0, 1) := by decide +kernel
theorem dL_law_684 : decode cL_law 684 = .ok (.laload, 1) := by decide +kernel
theorem dL_law_685 : decode cL_law 685 = .ok (.iload 7, 2) := by decide +kernel
theorem dL_law_687 : decode cL_law 687 = .ok (.i2l, 1) := by decide +kernel
theorem dL_law_688 : decode cL_law 688 = .ok (.lcmp, 1) := by decide +kernel
theorem dL_law_689 : decode cL_law 689 = .ok (.ifCond .eq 5, 3) := by decide +kernel
theorem dL_law_692 : decode cL_law 692 = .ok (.iconst 0, 1) := by decide +kernel
theorem dL_law_693 : decode cL_law 693 = .ok (.ireturn, 1) := by decide +kernel
theorem dL_law_694 : decode cL_law 694 = .ok (.goto 1687, 3) := by decide +kernel
theorem dL_law_697 : decode cL_law 697 = .ok (.aload_n 1, 1) := by decide +kernel
theorem dL_law_698 : decode cL_law 698 = .ok (.aload_n 0, 1) := by decide +kernel
theorem dL_law_699 : decode cL_law 699 = .ok (.iload 5, 2) := by decide +kernel
theorem dL_law_701 : decode cL_law 701 = .ok (.iconst 1, 1) := by decide +kernel
theorem dL_law_702 : decode cL_law 702 = .ok (.iadd, 1) := by decide +kernel
theorem dL_law_703 : decode cL_law 703 = .ok (.iaload, 1) := by decide +kernel
theorem dL_law_704 : decode cL_law 704 = .ok (.aload_n 0, 1) := by decide +kernel
theorem dL_law_705 : decode cL_law 705 = .ok (.iload 5, 2) := by decide +kernel
theorem dL_law_707 : decode cL_law 707 = .ok (.iconst 2, 1) := by decide +kernel
theorem dL_law_708 : decode cL_law 708 = .ok (.iadd, 1) := by decide +kernel
theorem dL_law_709 : decode cL_law 709 = .ok (.iaload, 1) := by decide +kernel
theorem dL_law_710 : decode cL_law 710 = .ok (.aload_n 3, 1) := by decide +kernel
theorem dL_law_711 : decode cL_law 711 = .ok (.invokestatic 166, 3) := by decide +kernel
theorem dL_law_714 : decode cL_law 714 = .ok (.istore 6, 2) := by decide +kernel
theorem dL_law_716 : decode cL_law 716 = .ok (.aload_n 2, 1) := by decide +kernel
theorem dL_law_717 : decode cL_law 717 = .ok (.aload_n 0, 1) := by decide +kernel
theorem dL_law_718 : decode cL_law 718 = .ok (.iload 5, 2) := by decide +kernel
theorem dL_law_720 : decode cL_law 720 = .ok (.iconst 1, 1) := by decide +kernel
theorem dL_law_721 : decode cL_law 721 = .ok (.iadd, 1) := by decide +kernel
theorem dL_law_722 : decode cL_law 722 = .ok (.iaload, 1) := by decide +kernel
theorem dL_law_723 : decode cL_law 723 = .ok (.aload_n 0, 1) := by decide +kernel
theorem dL_law_724 : decode cL_law 724 = .ok (.iload 5, 2) := by decide +kernel
theorem dL_law_726 : decode cL_law 726 = .ok (.iconst 2, 1) := by decide +kernel
theorem dL_law_727 : decode cL_law 727 = .ok (.iadd, 1) := by decide +kernel
theorem dL_law_728 : decode cL_law 728 = .ok (.iaload, 1) := by decide +kernel
theorem dL_law_729 : decode cL_law 729 = .ok (.invokevirtual 168, 3) := by decide +kernel
theorem dL_law_732 : decode cL_law 732 = .ok (.istore 7, 2) := by decide +kernel
theorem dL_law_734 : decode cL_law 734 = .ok (.aload_n 2, 1) := by decide +kernel
theorem dL_law_735 : decode cL_law 735 = .ok (.invokevirtual 139, 3) := by decide +kernel
theorem dL_law_738 : decode cL_law 738 = .ok (.iload 6, 2) := by decide +kernel
theorem dL_law_740 : decode cL_law 740 = .ok (.if_icmp .eq 5, 3) := by decide +kernel
theorem dL_law_743 : decode cL_law 743 = .ok (.iconst 0, 1) := by decide +kernel
theorem dL_law_744 : decode cL_law 744 = .ok (.ireturn, 1) := by decide +kernel
theorem dL_law_745 : decode cL_law 745 = .ok (.iload 6, 2) := by decide +kernel
theorem dL_law_747 : decode cL_law 747 = .ok (.ifCond .ne 15, 3) := by decide +kernel
theorem dL_law_750 : decode cL_law 750 = .ok (.aload_n 3, 1) := by decide +kernel
theorem dL_law_751 : decode cL_law 751 = .ok (.iconst 0, 1) := by decide +kernel
theorem dL_law_752 : decode cL_law 752 = .ok (.laload, 1) := by decide +kernel
theorem dL_law_753 : decode cL_law 753 = .ok (.iload 7, 2) := by decide +kernel
theorem dL_law_755 : decode cL_law 755 = .ok (.i2l, 1) := by decide +kernel
theorem dL_law_756 : decode cL_law 756 = .ok (.lcmp, 1) := by decide +kernel
theorem dL_law_757 : decode cL_law 757 = .ok (.ifCond .eq 5, 3) := by decide +kernel
theorem dL_law_760 : decode cL_law 760 = .ok (.iconst 0, 1) := by decide +kernel
theorem dL_law_761 : decode cL_law 761 = .ok (.ireturn, 1) := by decide +kernel
theorem dL_law_762 : decode cL_law 762 = .ok (.goto 1619, 3) := by decide +kernel
theorem dL_law_765 : decode cL_law 765 = .ok (.aload_n 1, 1) := by decide +kernel
theorem dL_law_766 : decode cL_law 766 = .ok (.aload_n 0, 1) := by decide +kernel
theorem dL_law_767 : decode cL_law 767 = .ok (.iload 5, 2) := by decide +kernel
theorem dL_law_769 : decode cL_law 769 = .ok (.iconst 1, 1) := by decide +kernel
theorem dL_law_770 : decode cL_law 770 = .ok (.iadd, 1) := by decide +kernel
theorem dL_law_771 : decode cL_law 771 = .ok (.iaload, 1) := by decide +kernel
theorem dL_law_772 : decode cL_law 772 = .ok (.aload_n 0, 1) := by decide +kernel
theorem dL_law_773 : decode cL_law 773 = .ok (.iload 5, 2) := by decide +kernel
theorem dL_law_775 : decode cL_law 775 = .ok (.iconst 2, 1) := by decide +kernel
theorem dL_law_776 : decode cL_law 776 = .ok (.iadd, 1) := by decide +kernel
theorem dL_law_777 : decode cL_law 777 = .ok (.iaload, 1) := by decide +kernel
theorem dL_law_778 : decode cL_law 778 = .ok (.aload_n 3, 1) := by decide +kernel
theorem dL_law_779 : decode cL_law 779 = .ok (.invokestatic 169, 3) := by decide +kernel
theorem dL_law_782 : decode cL_law 782 = .ok (.istore 6, 2) := by decide +kernel
theorem dL_law_784 : decode cL_law 784 = .ok (.aload_n 2, 1) := by decide +kernel
theorem dL_law_785 : decode cL_law 785 = .ok (.aload_n 0, 1) := by decide +kernel
theorem dL_law_786 : decode cL_law 786 = .ok (.iload 5, 2) := by decide +kernel
theorem dL_law_788 : decode cL_law 788 = .ok (.iconst 1, 1) := by decide +kernel
theorem dL_law_789 : decode cL_law 789 = .ok (.iadd, 1) := by decide +kernel
theorem dL_law_790 : decode cL_law 790 = .ok (.iaload, 1) := by decide +kernel
theorem dL_law_791 : decode cL_law 791 = .ok (.aload_n 0, 1) := by decide +kernel
theorem dL_law_792 : decode cL_law 792 = .ok (.iload 5, 2) := by decide +kernel
theorem dL_law_794 : decode cL_law 794 = .ok (.iconst 2, 1) := by decide +kernel
theorem dL_law_795 : decode cL_law 795 = .ok (.iadd, 1) := by decide +kernel
theorem dL_law_796 : decode cL_law 796 = .ok (.iaload, 1) := by decide +kernel
theorem dL_law_797 : decode cL_law 797 = .ok (.invokevirtual 171, 3) := by decide +kernel
theorem dL_law_800 : decode cL_law 800 = .ok (.istore 7, 2) := by decide +kernel
theorem dL_law_802 : decode cL_law 802 = .ok (.aload_n 2, 1) := by decide +kernel
theorem dL_law_803 : decode cL_law 803 = .ok (.invokevirtual 139, 3) := by decide +kernel
theorem dL_law_806 : decode cL_law 806 = .ok (.iload 6, 2) := by decide +kernel
theorem dL_law_808 : decode cL_law 808 = .ok (.if_icmp .eq 5, 3) := by decide +kernel
theorem dL_law_811 : decode cL_law 811 = .ok (.iconst 0, 1) := by decide +kernel
theorem dL_law_812 : decode cL_law 812 = .ok (.ireturn, 1) := by decide +kernel
theorem dL_law_813 : decode cL_law 813 = .ok (.iload 6, 2) := by decide +kernel
theorem dL_law_815 : decode cL_law 815 = .ok (.ifCond .ne 15, 3) := by decide +kernel
theorem dL_law_818 : decode cL_law 818 = .ok (.aload_n 3, 1) := by decide +kernel
theorem dL_law_819 : decode cL_law 819 = .ok (.iconst 0, 1) := by decide +kernel
theorem dL_law_820 : decode cL_law 820 = .ok (.laload, 1) := by decide +kernel
theorem dL_law_821 : decode cL_law 821 = .ok (.iload 7, 2) := by decide +kernel
theorem dL_law_823 : decode cL_law 823 = .ok (.i2l, 1) := by decide +kernel
theorem dL_law_824 : decode cL_law 824 = .ok (.lcmp, 1) := by decide +kernel
theorem dL_law_825 : decode cL_law 825 = .ok (.ifCond .eq 5, 3) := by decide +kernel
theorem dL_law_828 : decode cL_law 828 = .ok (.iconst 0, 1) := by decide +kernel
theorem dL_law_829 : decode cL_law 829 = .ok (.ireturn, 1) := by decide +kernel
theorem dL_law_830 : decode cL_law 830 = .ok (.goto 1551, 3) := by decide +kernel
theorem dL_law_833 : decode cL_law 833 = .ok (.aload_n 1, 1) := by decide +kernel
theorem dL_law_834 : decode cL_law 834 = .ok (.aload_n 0, 1) := by decide +kernel
theorem dL_law_835 : decode cL_law 835 = .ok (.iload 5, 2) := by decide +kernel
theorem dL_law_837 : decode cL_law 837 = .ok (.iconst 1, 1) := by decide +kernel
theorem dL_law_838 : decode cL_law 838 = .ok (.iadd, 1) := by decide +kernel
theorem dL_law_839 : decode cL_law 839 = .ok (.iaload, 1) := by decide +kernel
theorem dL_law_840 : decode cL_law 840 = .ok (.aload_n 3, 1) := by decide +kernel
theorem dL_law_841 : decode cL_law 841 = .ok (.invokestatic 172, 3) := by decide +kernel
theorem dL_law_844 : decode cL_law 844 = .ok (.istore 6, 2) := by decide +kernel
theorem dL_law_846 : decode cL_law 846 = .ok (.aload_n 2, 1) := by decide +kernel
theorem dL_law_847 : decode cL_law 847 = .ok (.aload_n 0, 1) := by decide +kernel
theorem dL_law_848 : decode cL_law 848 = .ok (.iload 5, 2) := by decide +kernel
theorem dL_law_850 : decode cL_law 850 = .ok (.iconst 1, 1) := by decide +kernel
theorem dL_law_851 : decode cL_law 851 = .ok (.iadd, 1) := by decide +kernel
theorem dL_law_852 : decode cL_law 852 = .ok (.iaload, 1) := by decide +kernel
theorem dL_law_853 : decode cL_law 853 = .ok (.invokevirtual 174, 3) := by decide +kernel
theorem dL_law_856 : decode cL_law 856 = .ok (.istore 7, 2) := by decide +kernel
theorem dL_law_858 : decode cL_law 858 = .ok (.aload_n 2, 1) := by decide +kernel
theorem dL_law_859 : decode cL_law 859 = .ok (.invokevirtual 139, 3) := by decide +kernel
theorem dL_law_862 : decode cL_law 862 = .ok (.iload 6, 2) := by decide +kernel
theorem dL_law_864 : decode cL_law 864 = .ok (.if_icmp .eq 5, 3) := by decide +kernel
theorem dL_law_867 : decode cL_law 867 = .ok (.iconst 0, 1) := by decide +kernel
theorem dL_law_868 : decode cL_law 868 = .ok (.ireturn, 1) := by decide +kernel
theorem dL_law_869 : decode cL_law 869 = .ok (.iload 6, 2) := by decide +kernel
theorem dL_law_871 : decode cL_law 871 = .ok (.ifCond .ne 15, 3) := by decide +kernel
theorem dL_law_874 : decode cL_law 874 = .ok (.aload_n 3, 1) := by decide +kernel
theorem dL_law_875 : decode cL_law 875 = .ok (.iconst 0, 1) := by decide +kernel
theorem dL_law_876 : decode cL_law 876 = .ok (.laload, 1) := by decide +kernel
theorem dL_law_877 : decode cL_law 877 = .ok (.iload 7, 2) := by decide +kernel
theorem dL_law_879 : decode cL_law 879 = .ok (.i2l, 1) := by decide +kernel
theorem dL_law_880 : decode cL_law 880 = .ok (.lcmp, 1) := by decide +kernel
theorem dL_law_881 : decode cL_law 881 = .ok (.ifCond .eq 5, 3) := by decide +kernel
theorem dL_law_884 : decode cL_law 884 = .ok (.iconst 0, 1) := by decide +kernel
theorem dL_law_885 : decode cL_law 885 = .ok (.ireturn, 1) := by decide +kernel
theorem dL_law_886 : decode cL_law 886 = .ok (.goto 1495, 3) := by decide +kernel
theorem dL_law_889 : decode cL_law 889 = .ok (.aload_n 1, 1) := by decide +kernel
theorem dL_law_890 : decode cL_law 890 = .ok (.aload_n 0, 1) := by decide +kernel
theorem dL_law_891 : decode cL_law 891 = .ok (.iload 5, 2) := by decide +kernel
theorem dL_law_893 : decode cL_law 893 = .ok (.iconst 1, 1) := by decide +kernel
theorem dL_law_894 : decode cL_law 894 = .ok (.iadd, 1) := by decide +kernel
theorem dL_law_895 : decode cL_law 895 = .ok (.iaload, 1) := by decide +kernel
theorem dL_law_896 : decode cL_law 896 = .ok (.aload_n 0, 1) := by decide +kernel
theorem dL_law_897 : decode cL_law 897 = .ok (.iload 5, 2) := by decide +kernel
theorem dL_law_899 : decode cL_law 899 = .ok (.iconst 2, 1) := by decide +kernel
theorem dL_law_900 : decode cL_law 900 = .ok (.iadd, 1) := by decide +kernel
theorem dL_law_901 : decode cL_law 901 = .ok (.iaload, 1) := by decide +kernel
theorem dL_law_902 : decode cL_law 902 = .ok (.aload_n 3, 1) := by decide +kernel
theorem dL_law_903 : decode cL_law 903 = .ok (.invokestatic 175, 3) := by decide +kernel
theorem dL_law_906 : decode cL_law 906 = .ok (.istore 6, 2) := by decide +kernel
theorem dL_law_908 : decode cL_law 908 = .ok (.aload_n 2, 1) := by decide +kernel
theorem dL_law_909 : decode cL_law 909 = .ok (.aload_n 0, 1) := by decide +kernel
theorem dL_law_910 : decode cL_law 910 = .ok (.iload 5, 2) := by decide +kernel
theorem dL_law_912 : decode cL_law 912 = .ok (.iconst 1, 1) := by decide +kernel
theorem dL_law_913 : decode cL_law 913 = .ok (.iadd, 1) := by decide +kernel
theorem dL_law_914 : decode cL_law 914 = .ok (.iaload, 1) := by decide +kernel
theorem dL_law_915 : decode cL_law 915 = .ok (.aload_n 0, 1) := by decide +kernel
theorem dL_law_916 : decode cL_law 916 = .ok (.iload 5, 2) := by decide +kernel
theorem dL_law_918 : decode cL_law 918 = .ok (.iconst 2, 1) := by decide +kernel
theorem dL_law_919 : decode cL_law 919 = .ok (.iadd, 1) := by decide +kernel
theorem dL_law_920 : decode cL_law 920 = .ok (.iaload, 1) := by decide +kernel
theorem dL_law_921 : decode cL_law 921 = .ok (.invokevirtual 177, 3) := by decide +kernel
theorem dL_law_924 : decode cL_law 924 = .ok (.istore 7, 2) := by decide +kernel
theorem dL_law_926 : decode cL_law 926 = .ok (.aload_n 2, 1) := by decide +kernel
theorem dL_law_927 : decode cL_law 927 = .ok (.invokevirtual 139, 3) := by decide +kernel
theorem dL_law_930 : decode cL_law 930 = .ok (.iload 6, 2) := by decide +kernel
theorem dL_law_932 : decode cL_law 932 = .ok (.if_icmp .eq 5, 3) := by decide +kernel
theorem dL_law_935 : decode cL_law 935 = .ok (.iconst 0, 1) := by decide +kernel
theorem dL_law_936 : decode cL_law 936 = .ok (.ireturn, 1) := by decide +kernel
theorem dL_law_937 : decode cL_law 937 = .ok (.iload 6, 2) := by decide +kernel
theorem dL_law_939 : decode cL_law 939 = .ok (.ifCond .ne 15, 3) := by decide +kernel
theorem dL_law_942 : decode cL_law 942 = .ok (.aload_n 3, 1) := by decide +kernel
theorem dL_law_943 : decode cL_law 943 = .ok (.iconst 0, 1) := by decide +kernel
theorem dL_law_944 : decode cL_law 944 = .ok (.laload, 1) := by decide +kernel
theorem dL_law_945 : decode cL_law 945 = .ok (.iload 7, 2) := by decide +kernel
theorem dL_law_947 : decode cL_law 947 = .ok (.i2l, 1) := by decide +kernel
theorem dL_law_948 : decode cL_law 948 = .ok (.lcmp, 1) := by decide +kernel
theorem dL_law_949 : decode cL_law 949 = .ok (.ifCond .eq 5, 3) := by decide +kernel
theorem dL_law_952 : decode cL_law 952 = .ok (.iconst 0, 1) := by decide +kernel
theorem dL_law_953 : decode cL_law 953 = .ok (.ireturn, 1) := by decide +kernel
theorem dL_law_954 : decode cL_law 954 = .ok (.goto 1427, 3) := by decide +kernel
theorem dL_law_957 : decode cL_law 957 = .ok (.aload_n 1, 1) := by decide +kernel
theorem dL_law_958 : decode cL_law 958 = .ok (.aload_n 0, 1) := by decide +kernel
theorem dL_law_959 : decode cL_law 959 = .ok (.iload 5, 2) := by decide +kernel
theorem dL_law_961 : decode cL_law 961 = .ok (.iconst 1, 1) := by decide +kernel
theorem dL_law_962 : decode cL_law 962 = .ok (.iadd, 1) := by decide +kernel
theorem dL_law_963 : decode cL_law 963 = .ok (.iaload, 1) := by decide +kernel
theorem dL_law_964 : decode cL_law 964 = .ok (.aload_n 3, 1) := by decide +kernel
theorem dL_law_965 : decode cL_law 965 = .ok (.invokestatic 178, 3) := by decide +kernel
theorem dL_law_968 : decode cL_law 968 = .ok (.istore 6, 2) := by decide +kernel
theorem dL_law_970 : decode cL_law 970 = .ok (.aload_n 2, 1) := by decide +kernel
theorem dL_law_971 : decode cL_law 971 = .ok (.aload_n 0, 1) := by decide +kernel
theorem dL_law_972 : decode cL_law 972 = .ok (.iload 5, 2) := by decide +kernel
theorem dL_law_974 : decode cL_law 974 = .ok (.iconst 1, 1) := by decide +kernel
theorem dL_law_975 : decode cL_law 975 = .ok (.iadd, 1) := by decide +kernel
theorem dL_law_976 : decode cL_law 976 = .ok (.iaload, 1) := by decide +kernel
theorem dL_law_977 : decode cL_law 977 = .ok (.invokevirtual 180, 3) := by decide +kernel
theorem dL_law_980 : decode cL_law 980 = .ok (.istore 7, 2) := by decide +kernel
theorem dL_law_982 : decode cL_law 982 = .ok (.aload_n 2, 1) := by decide +kernel
theorem dL_law_983 : decode cL_law 983 = .ok (.invokevirtual 139, 3) := by decide +kernel
theorem dL_law_986 : decode cL_law 986 = .ok (.iload 6, 2) := by decide +kernel
theorem dL_law_988 : decode cL_law 988 = .ok (.if_icmp .eq 5, 3) := by decide +kernel
theorem dL_law_991 : decode cL_law 991 = .ok (.iconst 0, 1) := by decide +kernel
theorem dL_law_992 : decode cL_law 992 = .ok (.ireturn, 1) := by decide +kernel
theorem dL_law_993 : decode cL_law 993 = .ok (.iload 6, 2) := by decide +kernel
theorem dL_law_995 : decode cL_law 995 = .ok (.ifCond .ne 15, 3) := by decide +kernel
theorem dL_law_998 : decode cL_law 998 = .ok (.aload_n 3, 1) := by decide +kernel
theorem dL_law_999 : decode cL_law 999 = .ok (.iconst 0, 1) := by decide +kernel
theorem dL_law_1000 : decode cL_law 1000 = .ok (.laload, 1) := by decide +kernel
theorem dL_law_1001 : decode cL_law 1001 = .ok (.iload 7, 2) := by decide +kernel
theorem dL_law_1003 : decode cL_law 1003 = .ok (.i2l, 1) := by decide +kernel
theorem dL_law_1004 : decode cL_law 1004 = .ok (.lcmp, 1) := by decide +kernel
theorem dL_law_1005 : decode cL_law 1005 = .ok (.ifCond .eq 5, 3) := by decide +kernel
theorem dL_law_1008 : decode cL_law 1008 = .ok (.iconst 0, 1) := by decide +kernel
theorem dL_law_1009 : decode cL_law 1009 = .ok (.ireturn, 1) := by decide +kernel
theorem dL_law_1010 : decode cL_law 1010 = .ok (.goto 1371, 3) := by decide +kernel
theorem dL_law_1013 : decode cL_law 1013 = .ok (.aload_n 1, 1) := by decide +kernel
theorem dL_law_1014 : decode cL_law 1014 = .ok (.aload_n 3, 1) := by decide +kernel
theorem dL_law_1015 : decode cL_law 1015 = .ok (.invokestatic 181, 3) := by decide +kernel
theorem dL_law_1018 : decode cL_law 1018 = .ok (.istore 6, 2) := by decide +kernel
theorem dL_law_1020 : decode cL_law 1020 = .ok (.aload_n 2, 1) := by decide +kernel
theorem dL_law_1021 : decode cL_law 1021 = .ok (.invokevirtual 184, 3) := by decide +kernel
theorem dL_law_1024 : decode cL_law 1024 = .ok (.istore 7, 2) := by decide +kernel
theorem dL_law_1026 : decode cL_law 1026 = .ok (.aload_n 2, 1) := by decide +kernel
theorem dL_law_1027 : decode cL_law 1027 = .ok (.invokevirtual 139, 3) := by decide +kernel
theorem dL_law_1030 : decode cL_law 1030 = .ok (.iload 6, 2) := by decide +kernel
theorem dL_law_1032 : decode cL_law 1032 = .ok (.if_icmp .eq 5, 3) := by decide +kernel
theorem dL_law_1035 : decode cL_law 1035 = .ok (.iconst 0, 1) := by decide +kernel
theorem dL_law_1036 : decode cL_law 1036 = .ok (.ireturn, 1) := by decide +kernel
theorem dL_law_1037 : decode cL_law 1037 = .ok (.iload 6, 2) := by decide +kernel
theorem dL_law_1039 : decode cL_law 1039 = .ok (.ifCond .ne 15, 3) := by decide +kernel
theorem dL_law_1042 : decode cL_law 1042 = .ok (.aload_n 3, 1) := by decide +kernel
theorem dL_law_1043 : decode cL_law 1043 = .ok (.iconst 0, 1) := by decide +kernel
theorem dL_law_1044 : decode cL_law 1044 = .ok (.laload, 1) := by decide +kernel
theorem dL_law_1045 : decode cL_law 1045 = .ok (.iload 7, 2) := by decide +kernel
theorem dL_law_1047 : decode cL_law 1047 = .ok (.i2l, 1) := by decide +kernel
theorem dL_law_1048 : decode cL_law 1048 = .ok (.lcmp, 1) := by decide +kernel
theorem dL_law_1049 : decode cL_law 1049 = .ok (.ifCond .eq 5, 3) := by decide +kernel
theorem dL_law_1052 : decode cL_law 1052 = .ok (.iconst 0, 1) := by decide +kernel
theorem dL_law_1053 : decode cL_law 1053 = .ok (.ireturn, 1) := by decide +kernel
theorem dL_law_1054 : decode cL_law 1054 = .ok (.goto 1327, 3) := by decide +kernel
theorem dL_law_1057 : decode cL_law 1057 = .ok (.aload_n 1, 1) := by decide +kernel
theorem dL_law_1058 : decode cL_law 1058 = .ok (.aload_n 0, 1) := by decide +kernel
theorem dL_law_1059 : decode cL_law 1059 = .ok (.iload 5, 2) := by decide +kernel
theorem dL_law_1061 : decode cL_law 1061 = .ok (.iconst 1, 1) := by decide +kernel
theorem dL_law_1062 : decode cL_law 1062 = .ok (.iadd, 1) := by decide +kernel
theorem dL_law_1063 : decode cL_law 1063 = .ok (.iaload, 1) := by decide +kernel
theorem dL_law_1064 : decode cL_law 1064 = .ok (.aload_n 0, 1) := by decide +kernel
theorem dL_law_1065 : decode cL_law 1065 = .ok (.iload 5, 2) := by decide +kernel
theorem dL_law_1067 : decode cL_law 1067 = .ok (.iconst 2, 1) := by decide +kernel
theorem dL_law_1068 : decode cL_law 1068 = .ok (.iadd, 1) := by decide +kernel
theorem dL_law_1069 : decode cL_law 1069 = .ok (.iaload, 1) := by decide +kernel
theorem dL_law_1070 : decode cL_law 1070 = .ok (.aload_n 0, 1) := by decide +kernel
theorem dL_law_1071 : decode cL_law 1071 = .ok (.iload 5, 2) := by decide +kernel
theorem dL_law_1073 : decode cL_law 1073 = .ok (.iconst 3, 1) := by decide +kernel
theorem dL_law_1074 : decode cL_law 1074 = .ok (.iadd, 1) := by decide +kernel
theorem dL_law_1075 : decode cL_law 1075 = .ok (.iaload, 1) := by decide +kernel
theorem dL_law_1076 : decode cL_law 1076 = .ok (.aload_n 3, 1) := by decide +kernel
theorem dL_law_1077 : decode cL_law 1077 = .ok (.invokestatic 185, 3) := by decide +kernel
theorem dL_law_1080 : decode cL_law 1080 = .ok (.istore 6, 2) := by decide +kernel
theorem dL_law_1082 : decode cL_law 1082 = .ok (.aload_n 2, 1) := by decide +kernel
theorem dL_law_1083 : decode cL_law 1083 = .ok (.aload_n 0, 1) := by decide +kernel
theorem dL_law_1084 : decode cL_law 1084 = .ok (.iload 5, 2) := by decide +kernel
theorem dL_law_1086 : decode cL_law 1086 = .ok (.iconst 1, 1) := by decide +kernel
theorem dL_law_1087 : decode cL_law 1087 = .ok (.iadd, 1) := by decide +kernel
theorem dL_law_1088 : decode cL_law 1088 = .ok (.iaload, 1) := by decide +kernel
theorem dL_law_1089 : decode cL_law 1089 = .ok (.aload_n 0, 1) := by decide +kernel
theorem dL_law_1090 : decode cL_law 1090 = .ok (.iload 5, 2) := by decide +kernel
theorem dL_law_1092 : decode cL_law 1092 = .ok (.iconst 2, 1) := by decide +kernel
theorem dL_law_1093 : decode cL_law 1093 = .ok (.iadd, 1) := by decide +kernel
theorem dL_law_1094 : decode cL_law 1094 = .ok (.iaload, 1) := by decide +kernel
theorem dL_law_1095 : decode cL_law 1095 = .ok (.aload_n 0, 1) := by decide +kernel
theorem dL_law_1096 : decode cL_law 1096 = .ok (.iload 5, 2) := by decide +kernel
theorem dL_law_1098 : decode cL_law 1098 = .ok (.iconst 3, 1) := by decide +kernel
theorem dL_law_1099 : decode cL_law 1099 = .ok (.iadd, 1) := by decide +kernel
theorem dL_law_1100 : decode cL_law 1100 = .ok (.iaload, 1) := by decide +kernel
theorem dL_law_1101 : decode cL_law 1101 = .ok (.invokevirtual 188, 3) := by decide +kernel
theorem dL_law_1104 : decode cL_law 1104 = .ok (.istore 7, 2) := by decide +kernel
theorem dL_law_1106 : decode cL_law 1106 = .ok (.aload_n 2, 1) := by decide +kernel
theorem dL_law_1107 : decode cL_law 1107 = .ok (.invokevirtual 139, 3) := by decide +kernel
theorem dL_law_1110 : decode cL_law 1110 = .ok (.iload 6, 2) := by decide +kernel
theorem dL_law_1112 : decode cL_law 1112 = .ok (.if_icmp .eq 5, 3) := by decide +kernel
theorem dL_law_1115 : decode cL_law 1115 = .ok (.iconst 0, 1) := by decide +kernel
theorem dL_law_1116 : decode cL_law 1116 = .ok (.ireturn, 1) := by decide +kernel
theorem dL_law_1117 : decode cL_law 1117 = .ok (.iload 6, 2) := by decide +kernel
theorem dL_law_1119 : decode cL_law 1119 = .ok (.ifCond .ne 15, 3) := by decide +kernel
theorem dL_law_1122 : decode cL_law 1122 = .ok (.aload_n 3, 1) := by decide +kernel
theorem dL_law_1123 : decode cL_law 1123 = .ok (.iconst 0, 1) := by decide +kernel
theorem dL_law_1124 : decode cL_law 1124 = .ok (.laload, 1) := by decide +kernel
theorem dL_law_1125 : decode cL_law 1125 = .ok (.iload 7, 2) := by decide +kernel
theorem dL_law_1127 : decode cL_law 1127 = .ok (.i2l, 1) := by decide +kernel
theorem dL_law_1128 : decode cL_law 1128 = .ok (.lcmp, 1) := by decide +kernel
theorem dL_law_1129 : decode cL_law 1129 = .ok (.ifCond .eq 5, 3) := by decide +kernel
theorem dL_law_1132 : decode cL_law 1132 = .ok (.iconst 0, 1) := by decide +kernel
theorem dL_law_1133 : decode cL_law 1133 = .ok (.ireturn, 1) := by decide +kernel
theorem dL_law_1134 : decode cL_law 1134 = .ok (.goto 1247, 3) := by decide +kernel
theorem dL_law_1137 : decode cL_law 1137 = .ok (.aload_n 1, 1) := by decide +kernel
theorem dL_law_1138 : decode cL_law 1138 = .ok (.aload_n 0, 1) := by decide +kernel
theorem dL_law_1139 : decode cL_law 1139 = .ok (.iload 5, 2) := by decide +kernel
theorem dL_law_1141 : decode cL_law 1141 = .ok (.iconst 1, 1) := by decide +kernel
theorem dL_law_1142 : decode cL_law 1142 = .ok (.iadd, 1) := by decide +kernel
theorem dL_law_1143 : decode cL_law 1143 = .ok (.iaload, 1) := by decide +kernel
theorem dL_law_1144 : decode cL_law 1144 = .ok (.aload_n 3, 1) := by decide +kernel
theorem dL_law_1145 : decode cL_law 1145 = .ok (.invokestatic 189, 3) := by decide +kernel
theorem dL_law_1148 : decode cL_law 1148 = .ok (.istore 6, 2) := by decide +kernel
theorem dL_law_1150 : decode cL_law 1150 = .ok (.aload_n 2, 1) := by decide +kernel
theorem dL_law_1151 : decode cL_law 1151 = .ok (.aload_n 0, 1) := by decide +kernel
theorem dL_law_1152 : decode cL_law 1152 = .ok (.iload 5, 2) := by decide +kernel
theorem dL_law_1154 : decode cL_law 1154 = .ok (.iconst 1, 1) := by decide +kernel
theorem dL_law_1155 : decode cL_law 1155 = .ok (.iadd, 1) := by decide +kernel
theorem dL_law_1156 : decode cL_law 1156 = .ok (.iaload, 1) := by decide +kernel
theorem dL_law_1157 : decode cL_law 1157 = .ok (.invokevirtual 191, 3) := by decide +kernel
theorem dL_law_1160 : decode cL_law 1160 = .ok (.istore 7, 2) := by decide +kernel
theorem dL_law_1162 : decode cL_law 1162 = .ok (.aload_n 2, 1) := by decide +kernel
theorem dL_law_1163 : decode cL_law 1163 = .ok (.invokevirtual 139, 3) := by decide +kernel
theorem dL_law_1166 : decode cL_law 1166 = .ok (.iload 6, 2) := by decide +kernel
theorem dL_law_1168 : decode cL_law 1168 = .ok (.if_icmp .eq 5, 3) := by decide +kernel
theorem dL_law_1171 : decode cL_law 1171 = .ok (.iconst 0, 1) := by decide +kernel
theorem dL_law_1172 : decode cL_law 1172 = .ok (.ireturn, 1) := by decide +kernel
theorem dL_law_1173 : decode cL_law 1173 = .ok (.iload 6, 2) := by decide +kernel
theorem dL_law_1175 : decode cL_law 1175 = .ok (.ifCond .ne 15, 3) := by decide +kernel
theorem dL_law_1178 : decode cL_law 1178 = .ok (.aload_n 3, 1) := by decide +kernel
theorem dL_law_1179 : decode cL_law 1179 = .ok (.iconst 0, 1) := by decide +kernel
theorem dL_law_1180 : decode cL_law 1180 = .ok (.laload, 1) := by decide +kernel
theorem dL_law_1181 : decode cL_law 1181 = .ok (.iload 7, 2) := by decide +kernel
theorem dL_law_1183 : decode cL_law 1183 = .ok (.i2l, 1) := by decide +kernel
theorem dL_law_1184 : decode cL_law 1184 = .ok (.lcmp, 1) := by decide +kernel
theorem dL_law_1185 : decode cL_law 1185 = .ok (.ifCond .eq 5, 3) := by decide +kernel
theorem dL_law_1188 : decode cL_law 1188 = .ok (.iconst 0, 1) := by decide +kernel
theorem dL_law_1189 : decode cL_law 1189 = .ok (.ireturn, 1) := by decide +kernel
theorem dL_law_1190 : decode cL_law 1190 = .ok (.goto 1191, 3) := by decide +kernel
theorem dL_law_1193 : decode cL_law 1193 = .ok (.aload_n 1, 1) := by decide +kernel
theorem dL_law_1194 : decode cL_law 1194 = .ok (.aload_n 0, 1) := by decide +kernel
theorem dL_law_1195 : decode cL_law 1195 = .ok (.iload 5, 2) := by decide +kernel
theorem dL_law_1197 : decode cL_law 1197 = .ok (.iconst 1, 1) := by decide +kernel
theorem dL_law_1198 : decode cL_law 1198 = .ok (.iadd, 1) := by decide +kernel
theorem dL_law_1199 : decode cL_law 1199 = .ok (.iaload, 1) := by decide +kernel
theorem dL_law_1200 : decode cL_law 1200 = .ok (.aload_n 3, 1) := by decide +kernel
theorem dL_law_1201 : decode cL_law 1201 = .ok (.invokestatic 192, 3) := by decide +kernel
theorem dL_law_1204 : decode cL_law 1204 = .ok (.istore 6, 2) := by decide +kernel
theorem dL_law_1206 : decode cL_law 1206 = .ok (.aload_n 2, 1) := by decide +kernel
theorem dL_law_1207 : decode cL_law 1207 = .ok (.aload_n 0, 1) := by decide +kernel
theorem dL_law_1208 : decode cL_law 1208 = .ok (.iload 5, 2) := by decide +kernel
theorem dL_law_1210 : decode cL_law 1210 = .ok (.iconst 1, 1) := by decide +kernel
theorem dL_law_1211 : decode cL_law 1211 = .ok (.iadd, 1) := by decide +kernel
theorem dL_law_1212 : decode cL_law 1212 = .ok (.iaload, 1) := by decide +kernel
theorem dL_law_1213 : decode cL_law 1213 = .ok (.invokevirtual 194, 3) := by decide +kernel
theorem dL_law_1216 : decode cL_law 1216 = .ok (.istore 7, 2) := by decide +kernel
theorem dL_law_1218 : decode cL_law 1218 = .ok (.aload_n 2, 1) := by decide +kernel
theorem dL_law_1219 : decode cL_law 1219 = .ok (.invokevirtual 139, 3) := by decide +kernel
theorem dL_law_1222 : decode cL_law 1222 = .ok (.iload 6, 2) := by decide +kernel
theorem dL_law_1224 : decode cL_law 1224 = .ok (.if_icmp .eq 5, 3) := by decide +kernel
theorem dL_law_1227 : decode cL_law 1227 = .ok (.iconst 0, 1) := by decide +kernel
theorem dL_law_1228 : decode cL_law 1228 = .ok (.ireturn, 1) := by decide +kernel
theorem dL_law_1229 : decode cL_law 1229 = .ok (.iload 6, 2) := by decide +kernel
theorem dL_law_1231 : decode cL_law 1231 = .ok (.ifCond .ne 15, 3) := by decide +kernel
theorem dL_law_1234 : decode cL_law 1234 = .ok (.aload_n 3, 1) := by decide +kernel
theorem dL_law_1235 : decode cL_law 1235 = .ok (.iconst 0, 1) := by decide +kernel
theorem dL_law_1236 : decode cL_law 1236 = .ok (.laload, 1) := by decide +kernel
theorem dL_law_1237 : decode cL_law 1237 = .ok (.iload 7, 2) := by decide +kernel
theorem dL_law_1239 : decode cL_law 1239 = .ok (.i2l, 1) := by decide +kernel
theorem dL_law_1240 : decode cL_law 1240 = .ok (.lcmp, 1) := by decide +kernel
theorem dL_law_1241 : decode cL_law 1241 = .ok (.ifCond .eq 5, 3) := by decide +kernel
theorem dL_law_1244 : decode cL_law 1244 = .ok (.iconst 0, 1) := by decide +kernel
theorem dL_law_1245 : decode cL_law 1245 = .ok (.ireturn, 1) := by decide +kernel
theorem dL_law_1246 : decode cL_law 1246 = .ok (.goto 1135, 3) := by decide +kernel
theorem dL_law_1249 : decode cL_law 1249 = .ok (.aload_n 1, 1) := by decide +kernel
theorem dL_law_1250 : decode cL_law 1250 = .ok (.aload_n 0, 1) := by decide +kernel
theorem dL_law_1251 : decode cL_law 1251 = .ok (.iload 5, 2) := by decide +kernel
theorem dL_law_1253 : decode cL_law 1253 = .ok (.iconst 1, 1) := by decide +kernel
theorem dL_law_1254 : decode cL_law 1254 = .ok (.iadd, 1) := by decide +kernel
theorem dL_law_1255 : decode cL_law 1255 = .ok (.iaload, 1) := by decide +kernel
theorem dL_law_1256 : decode cL_law 1256 = .ok (.aload_n 0, 1) := by decide +kernel
theorem dL_law_1257 : decode cL_law 1257 = .ok (.iload 5, 2) := by decide +kernel
theorem dL_law_1259 : decode cL_law 1259 = .ok (.iconst 2, 1) := by decide +kernel
theorem dL_law_1260 : decode cL_law 1260 = .ok (.iadd, 1) := by decide +kernel
theorem dL_law_1261 : decode cL_law 1261 = .ok (.iaload, 1) := by decide +kernel
theorem dL_law_1262 : decode cL_law 1262 = .ok (.aload_n 3, 1) := by decide +kernel
theorem dL_law_1263 : decode cL_law 1263 = .ok (.invokestatic 195, 3) := by decide +kernel
theorem dL_law_1266 : decode cL_law 1266 = .ok (.istore 6, 2) := by decide +kernel
theorem dL_law_1268 : decode cL_law 1268 = .ok (.aload_n 2, 1) := by decide +kernel
theorem dL_law_1269 : decode cL_law 1269 = .ok (.aload_n 0, 1) := by decide +kernel
theorem dL_law_1270 : decode cL_law 1270 = .ok (.iload 5, 2) := by decide +kernel
theorem dL_law_1272 : decode cL_law 1272 = .ok (.iconst 1, 1) := by decide +kernel
theorem dL_law_1273 : decode cL_law 1273 = .ok (.iadd, 1) := by decide +kernel
theorem dL_law_1274 : decode cL_law 1274 = .ok (.iaload, 1) := by decide +kernel
theorem dL_law_1275 : decode cL_law 1275 = .ok (.aload_n 0, 1) := by decide +kernel
theorem dL_law_1276 : decode cL_law 1276 = .ok (.iload 5, 2) := by decide +kernel
theorem dL_law_1278 : decode cL_law 1278 = .ok (.iconst 2, 1) := by decide +kernel
theorem dL_law_1279 : decode cL_law 1279 = .ok (.iadd, 1) := by decide +kernel
theorem dL_law_1280 : decode cL_law 1280 = .ok (.iaload, 1) := by decide +kernel
theorem dL_law_1281 : decode cL_law 1281 = .ok (.invokevirtual 197, 3) := by decide +kernel
theorem dL_law_1284 : decode cL_law 1284 = .ok (.istore 7, 2) := by decide +kernel
theorem dL_law_1286 : decode cL_law 1286 = .ok (.aload_n 2, 1) := by decide +kernel
theorem dL_law_1287 : decode cL_law 1287 = .ok (.invokevirtual 139, 3) := by decide +kernel
theorem dL_law_1290 : decode cL_law 1290 = .ok (.iload 6, 2) := by decide +kernel
theorem dL_law_1292 : decode cL_law 1292 = .ok (.if_icmp .eq 5, 3) := by decide +kernel
theorem dL_law_1295 : decode cL_law 1295 = .ok (.iconst 0, 1) := by decide +kernel
theorem dL_law_1296 : decode cL_law 1296 = .ok (.ireturn, 1) := by decide +kernel
theorem dL_law_1297 : decode cL_law 1297 = .ok (.iload 6, 2) := by decide +kernel
theorem dL_law_1299 : decode cL_law 1299 = .ok (.ifCond .ne 15, 3) := by decide +kernel
theorem dL_law_1302 : decode cL_law 1302 = .ok (.aload_n 3, 1) := by decide +kernel
theorem dL_law_1303 : decode cL_law 1303 = .ok (.iconst 0, 1) := by decide +kernel
theorem dL_law_1304 : decode cL_law 1304 = .ok (.laload, 1) := by decide +kernel
theorem dL_law_1305 : decode cL_law 1305 = .ok (.iload 7, 2) := by decide +kernel
theorem dL_law_1307 : decode cL_law 1307 = .ok (.i2l, 1) := by decide +kernel
theorem dL_law_1308 : decode cL_law 1308 = .ok (.lcmp, 1) := by decide +kernel
theorem dL_law_1309 : decode cL_law 1309 = .ok (.ifCond .eq 5, 3) := by decide +kernel
theorem dL_law_1312 : decode cL_law 1312 = .ok (.iconst 0, 1) := by decide +kernel
theorem dL_law_1313 : decode cL_law 1313 = .ok (.ireturn, 1) := by decide +kernel
theorem dL_law_1314 : decode cL_law 1314 = .ok (.goto 1067, 3) := by decide +kernel
theorem dL_law_1317 : decode cL_law 1317 = .ok (.aload_n 1, 1) := by decide +kernel
theorem dL_law_1318 : decode cL_law 1318 = .ok (.aload_n 0, 1) := by decide +kernel
theorem dL_law_1319 : decode cL_law 1319 = .ok (.iload 5, 2) := by decide +kernel
theorem dL_law_1321 : decode cL_law 1321 = .ok (.iconst 1, 1) := by decide +kernel
theorem dL_law_1322 : decode cL_law 1322 = .ok (.iadd, 1) := by decide +kernel
theorem dL_law_1323 : decode cL_law 1323 = .ok (.iaload, 1) := by decide +kernel
theorem dL_law_1324 : decode cL_law 1324 = .ok (.aload_n 3, 1) := by decide +kernel
theorem dL_law_1325 : decode cL_law 1325 = .ok (.invokestatic 198, 3) := by decide +kernel
theorem dL_law_1328 : decode cL_law 1328 = .ok (.istore 6, 2) := by decide +kernel
theorem dL_law_1330 : decode cL_law 1330 = .ok (.aload_n 2, 1) := by decide +kernel
theorem dL_law_1331 : decode cL_law 1331 = .ok (.aload_n 0, 1) := by decide +kernel
theorem dL_law_1332 : decode cL_law 1332 = .ok (.iload 5, 2) := by decide +kernel
theorem dL_law_1334 : decode cL_law 1334 = .ok (.iconst 1, 1) := by decide +kernel
theorem dL_law_1335 : decode cL_law 1335 = .ok (.iadd, 1) := by decide +kernel
theorem dL_law_1336 : decode cL_law 1336 = .ok (.iaload, 1) := by decide +kernel
theorem dL_law_1337 : decode cL_law 1337 = .ok (.invokevirtual 200, 3) := by decide +kernel
theorem dL_law_1340 : decode cL_law 1340 = .ok (.istore 7, 2) := by decide +kernel
theorem dL_law_1342 : decode cL_law 1342 = .ok (.aload_n 2, 1) := by decide +kernel
theorem dL_law_1343 : decode cL_law 1343 = .ok (.invokevirtual 139, 3) := by decide +kernel
theorem dL_law_1346 : decode cL_law 1346 = .ok (.iload 6, 2) := by decide +kernel
theorem dL_law_1348 : decode cL_law 1348 = .ok (.if_icmp .eq 5, 3) := by decide +kernel
theorem dL_law_1351 : decode cL_law 1351 = .ok (.iconst 0, 1) := by decide +kernel
theorem dL_law_1352 : decode cL_law 1352 = .ok (.ireturn, 1) := by decide +kernel
theorem dL_law_1353 : decode cL_law 1353 = .ok (.iload 6, 2) := by decide +kernel
theorem dL_law_1355 : decode cL_law 1355 = .ok (.ifCond .ne 15, 3) := by decide +kernel
theorem dL_law_1358 : decode cL_law 1358 = .ok (.aload_n 3, 1) := by decide +kernel
theorem dL_law_1359 : decode cL_law 1359 = .ok (.iconst 0, 1) := by decide +kernel
theorem dL_law_1360 : decode cL_law 1360 = .ok (.laload, 1) := by decide +kernel
theorem dL_law_1361 : decode cL_law 1361 = .ok (.iload 7, 2) := by decide +kernel
theorem dL_law_1363 : decode cL_law 1363 = .ok (.i2l, 1) := by decide +kernel
theorem dL_law_1364 : decode cL_law 1364 = .ok (.lcmp, 1) := by decide +kernel
theorem dL_law_1365 : decode cL_law 1365 = .ok (.ifCond .eq 5, 3) := by decide +kernel
theorem dL_law_1368 : decode cL_law 1368 = .ok (.iconst 0, 1) := by decide +kernel
theorem dL_law_1369 : decode cL_law 1369 = .ok (.ireturn, 1) := by decide +kernel
theorem dL_law_1370 : decode cL_law 1370 = .ok (.goto 1011, 3) := by decide +kernel
theorem dL_law_1373 : decode cL_law 1373 = .ok (.aload_n 1, 1) := by decide +kernel
theorem dL_law_1374 : decode cL_law 1374 = .ok (.aload_n 0, 1) := by decide +kernel
theorem dL_law_1375 : decode cL_law 1375 = .ok (.iload 5, 2) := by decide +kernel
theorem dL_law_1377 : decode cL_law 1377 = .ok (.iconst 1, 1) := by decide +kernel
theorem dL_law_1378 : decode cL_law 1378 = .ok (.iadd, 1) := by decide +kernel
theorem dL_law_1379 : decode cL_law 1379 = .ok (.iaload, 1) := by decide +kernel
theorem dL_law_1380 : decode cL_law 1380 = .ok (.aload_n 3, 1) := by decide +kernel
theorem dL_law_1381 : decode cL_law 1381 = .ok (.invokestatic 201, 3) := by decide +kernel
theorem dL_law_1384 : decode cL_law 1384 = .ok (.istore 6, 2) := by decide +kernel
theorem dL_law_1386 : decode cL_law 1386 = .ok (.aload_n 2, 1) := by decide +kernel
theorem dL_law_1387 : decode cL_law 1387 = .ok (.aload_n 0, 1) := by decide +kernel
theorem dL_law_1388 : decode cL_law 1388 = .ok (.iload 5, 2) := by decide +kernel
theorem dL_law_1390 : decode cL_law 1390 = .ok (.iconst 1, 1) := by decide +kernel
theorem dL_law_1391 : decode cL_law 1391 = .ok (.iadd, 1) := by decide +kernel
theorem dL_law_1392 : decode cL_law 1392 = .ok (.iaload, 1) := by decide +kernel
theorem dL_law_1393 : decode cL_law 1393 = .ok (.invokevirtual 203, 3) := by decide +kernel
theorem dL_law_1396 : decode cL_law 1396 = .ok (.istore 7, 2) := by decide +kernel
theorem dL_law_1398 : decode cL_law 1398 = .ok (.aload_n 2, 1) := by decide +kernel
theorem dL_law_1399 : decode cL_law 1399 = .ok (.invokevirtual 139, 3) := by decide +kernel
theorem dL_law_1402 : decode cL_law 1402 = .ok (.iload 6, 2) := by decide +kernel
theorem dL_law_1404 : decode cL_law 1404 = .ok (.if_icmp .eq 5, 3) := by decide +kernel
theorem dL_law_1407 : decode cL_law 1407 = .ok (.iconst 0, 1) := by decide +kernel
theorem dL_law_1408 : decode cL_law 1408 = .ok (.ireturn, 1) := by decide +kernel
theorem dL_law_1409 : decode cL_law 1409 = .ok (.iload 6, 2) := by decide +kernel
theorem dL_law_1411 : decode cL_law 1411 = .ok (.ifCond .ne 15, 3) := by decide +kernel
theorem dL_law_1414 : decode cL_law 1414 = .ok (.aload_n 3, 1) := by decide +kernel
theorem dL_law_1415 : decode cL_law 1415 = .ok (.iconst 0, 1) := by decide +kernel
theorem dL_law_1416 : decode cL_law 1416 = .ok (.laload, 1) := by decide +kernel
theorem dL_law_1417 : decode cL_law 1417 = .ok (.iload 7, 2) := by decide +kernel
theorem dL_law_1419 : decode cL_law 1419 = .ok (.i2l, 1) := by decide +kernel
theorem dL_law_1420 : decode cL_law 1420 = .ok (.lcmp, 1) := by decide +kernel
theorem dL_law_1421 : decode cL_law 1421 = .ok (.ifCond .eq 5, 3) := by decide +kernel
theorem dL_law_1424 : decode cL_law 1424 = .ok (.iconst 0, 1) := by decide +kernel
theorem dL_law_1425 : decode cL_law 1425 = .ok (.ireturn, 1) := by decide +kernel
theorem dL_law_1426 : decode cL_law 1426 = .ok (.goto 955, 3) := by decide +kernel
theorem dL_law_1429 : decode cL_law 1429 = .ok (.aload_n 1, 1) := by decide +kernel
theorem dL_law_1430 : decode cL_law 1430 = .ok (.aload_n 0, 1) := by decide +kernel
theorem dL_law_1431 : decode cL_law 1431 = .ok (.iload 5, 2) := by decide +kernel
theorem dL_law_1433 : decode cL_law 1433 = .ok (.iconst 1, 1) := by decide +kernel
theorem dL_law_1434 : decode cL_law 1434 = .ok (.iadd, 1) := by decide +kernel
theorem dL_law_1435 : decode cL_law 1435 = .ok (.iaload, 1) := by decide +kernel
theorem dL_law_1436 : decode cL_law 1436 = .ok (.aload_n 3, 1) := by decide +kernel
theorem dL_law_1437 : decode cL_law 1437 = .ok (.invokestatic 204, 3) := by decide +kernel
theorem dL_law_1440 : decode cL_law 1440 = .ok (.istore 6, 2) := by decide +kernel
theorem dL_law_1442 : decode cL_law 1442 = .ok (.aload_n 2, 1) := by decide +kernel
theorem dL_law_1443 : decode cL_law 1443 = .ok (.aload_n 0, 1) := by decide +kernel
theorem dL_law_1444 : decode cL_law 1444 = .ok (.iload 5, 2) := by decide +kernel
theorem dL_law_1446 : decode cL_law 1446 = .ok (.iconst 1, 1) := by decide +kernel
theorem dL_law_1447 : decode cL_law 1447 = .ok (.iadd, 1) := by decide +kernel
theorem dL_law_1448 : decode cL_law 1448 = .ok (.iaload, 1) := by decide +kernel
theorem dL_law_1449 : decode cL_law 1449 = .ok (.invokevirtual 206, 3) := by decide +kernel
theorem dL_law_1452 : decode cL_law 1452 = .ok (.istore 7, 2) := by decide +kernel
theorem dL_law_1454 : decode cL_law 1454 = .ok (.aload_n 2, 1) := by decide +kernel
theorem dL_law_1455 : decode cL_law 1455 = .ok (.invokevirtual 139, 3) := by decide +kernel
theorem dL_law_1458 : decode cL_law 1458 = .ok (.iload 6, 2) := by decide +kernel
theorem dL_law_1460 : decode cL_law 1460 = .ok (.if_icmp .eq 5, 3) := by decide +kernel
theorem dL_law_1463 : decode cL_law 1463 = .ok (.iconst 0, 1) := by decide +kernel
theorem dL_law_1464 : decode cL_law 1464 = .ok (.ireturn, 1) := by decide +kernel
theorem dL_law_1465 : decode cL_law 1465 = .ok (.iload 6, 2) := by decide +kernel
theorem dL_law_1467 : decode cL_law 1467 = .ok (.ifCond .ne 15, 3) := by decide +kernel
theorem dL_law_1470 : decode cL_law 1470 = .ok (.aload_n 3, 1) := by decide +kernel
theorem dL_law_1471 : decode cL_law 1471 = .ok (.iconst 0, 1) := by decide +kernel
theorem dL_law_1472 : decode cL_law 1472 = .ok (.laload, 1) := by decide +kernel
theorem dL_law_1473 : decode cL_law 1473 = .ok (.iload 7, 2) := by decide +kernel
theorem dL_law_1475 : decode cL_law 1475 = .ok (.i2l, 1) := by decide +kernel
theorem dL_law_1476 : decode cL_law 1476 = .ok (.lcmp, 1) := by decide +kernel
theorem dL_law_1477 : decode cL_law 1477 = .ok (.ifCond .eq 5, 3) := by decide +kernel
theorem dL_law_1480 : decode cL_law 1480 = .ok (.iconst 0, 1) := by decide +kernel
theorem dL_law_1481 : decode cL_law 1481 = .ok (.ireturn, 1) := by decide +kernel
theorem dL_law_1482 : decode cL_law 1482 = .ok (.goto 899, 3) := by decide +kernel
theorem dL_law_1485 : decode cL_law 1485 = .ok (.aload_n 1, 1) := by decide +kernel
theorem dL_law_1486 : decode cL_law 1486 = .ok (.aload_n 0, 1) := by decide +kernel
theorem dL_law_1487 : decode cL_law 1487 = .ok (.iload 5, 2) := by decide +kernel
theorem dL_law_1489 : decode cL_law 1489 = .ok (.iconst 1, 1) := by decide +kernel
theorem dL_law_1490 : decode cL_law 1490 = .ok (.iadd, 1) := by decide +kernel
theorem dL_law_1491 : decode cL_law 1491 = .ok (.iaload, 1) := by decide +kernel
theorem dL_law_1492 : decode cL_law 1492 = .ok (.aload_n 3, 1) := by decide +kernel
theorem dL_law_1493 : decode cL_law 1493 = .ok (.invokestatic 207, 3) := by decide +kernel
theorem dL_law_1496 : decode cL_law 1496 = .ok (.istore 6, 2) := by decide +kernel
theorem dL_law_1498 : decode cL_law 1498 = .ok (.aload_n 2, 1) := by decide +kernel
theorem dL_law_1499 : decode cL_law 1499 = .ok (.aload_n 0, 1) := by decide +kernel
theorem dL_law_1500 : decode cL_law 1500 = .ok (.iload 5, 2) := by decide +kernel
theorem dL_law_1502 : decode cL_law 1502 = .ok (.iconst 1, 1) := by decide +kernel
theorem dL_law_1503 : decode cL_law 1503 = .ok (.iadd, 1) := by decide +kernel
theorem dL_law_1504 : decode cL_law 1504 = .ok (.iaload, 1) := by decide +kernel
theorem dL_law_1505 : decode cL_law 1505 = .ok (.invokevirtual 209, 3) := by decide +kernel
theorem dL_law_1508 : decode cL_law 1508 = .ok (.istore 7, 2) := by decide +kernel
theorem dL_law_1510 : decode cL_law 1510 = .ok (.aload_n 2, 1) := by decide +kernel
theorem dL_law_1511 : decode cL_law 1511 = .ok (.invokevirtual 139, 3) := by decide +kernel
theorem dL_law_1514 : decode cL_law 1514 = .ok (.iload 6, 2) := by decide +kernel
theorem dL_law_1516 : decode cL_law 1516 = .ok (.if_icmp .eq 5, 3) := by decide +kernel
theorem dL_law_1519 : decode cL_law 1519 = .ok (.iconst 0, 1) := by decide +kernel
theorem dL_law_1520 : decode cL_law 1520 = .ok (.ireturn, 1) := by decide +kernel
theorem dL_law_1521 : decode cL_law 1521 = .ok (.iload 6, 2) := by decide +kernel
theorem dL_law_1523 : decode cL_law 1523 = .ok (.ifCond .ne 15, 3) := by decide +kernel
theorem dL_law_1526 : decode cL_law 1526 = .ok (.aload_n 3, 1) := by decide +kernel
theorem dL_law_1527 : decode cL_law 1527 = .ok (.iconst 0, 1) := by decide +kernel
theorem dL_law_1528 : decode cL_law 1528 = .ok (.laload, 1) := by decide +kernel
theorem dL_law_1529 : decode cL_law 1529 = .ok (.iload 7, 2) := by decide +kernel
theorem dL_law_1531 : decode cL_law 1531 = .ok (.i2l, 1) := by decide +kernel
theorem dL_law_1532 : decode cL_law 1532 = .ok (.lcmp, 1) := by decide +kernel
theorem dL_law_1533 : decode cL_law 1533 = .ok (.ifCond .eq 5, 3) := by decide +kernel
theorem dL_law_1536 : decode cL_law 1536 = .ok (.iconst 0, 1) := by decide +kernel
theorem dL_law_1537 : decode cL_law 1537 = .ok (.ireturn, 1) := by decide +kernel
theorem dL_law_1538 : decode cL_law 1538 = .ok (.goto 843, 3) := by decide +kernel
theorem dL_law_1541 : decode cL_law 1541 = .ok (.aload_n 1, 1) := by decide +kernel
theorem dL_law_1542 : decode cL_law 1542 = .ok (.aload_n 0, 1) := by decide +kernel
theorem dL_law_1543 : decode cL_law 1543 = .ok (.iload 5, 2) := by decide +kernel
theorem dL_law_1545 : decode cL_law 1545 = .ok (.iconst 1, 1) := by decide +kernel
theorem dL_law_1546 : decode cL_law 1546 = .ok (.iadd, 1) := by decide +kernel
theorem dL_law_1547 : decode cL_law 1547 = .ok (.iaload, 1) := by decide +kernel
theorem dL_law_1548 : decode cL_law 1548 = .ok (.aload_n 0, 1) := by decide +kernel
theorem dL_law_1549 : decode cL_law 1549 = .ok (.iload 5, 2) := by decide +kernel
theorem dL_law_1551 : decode cL_law 1551 = .ok (.iconst 2, 1) := by decide +kernel
theorem dL_law_1552 : decode cL_law 1552 = .ok (.iadd, 1) := by decide +kernel
theorem dL_law_1553 : decode cL_law 1553 = .ok (.iaload, 1) := by decide +kernel
theorem dL_law_1554 : decode cL_law 1554 = .ok (.aload_n 3, 1) := by decide +kernel
theorem dL_law_1555 : decode cL_law 1555 = .ok (.invokestatic 210, 3) := by decide +kernel
theorem dL_law_1558 : decode cL_law 1558 = .ok (.istore 6, 2) := by decide +kernel
theorem dL_law_1560 : decode cL_law 1560 = .ok (.aload_n 2, 1) := by decide +kernel
theorem dL_law_1561 : decode cL_law 1561 = .ok (.aload_n 0, 1) := by decide +kernel
theorem dL_law_1562 : decode cL_law 1562 = .ok (.iload 5, 2) := by decide +kernel
theorem dL_law_1564 : decode cL_law 1564 = .ok (.iconst 1, 1) := by decide +kernel
theorem dL_law_1565 : decode cL_law 1565 = .ok (.iadd, 1) := by decide +kernel
theorem dL_law_1566 : decode cL_law 1566 = .ok (.iaload, 1) := by decide +kernel
theorem dL_law_1567 : decode cL_law 1567 = .ok (.aload_n 0, 1) := by decide +kernel
theorem dL_law_1568 : decode cL_law 1568 = .ok (.iload 5, 2) := by decide +kernel
theorem dL_law_1570 : decode cL_law 1570 = .ok (.iconst 2, 1) := by decide +kernel
theorem dL_law_1571 : decode cL_law 1571 = .ok (.iadd, 1) := by decide +kernel
theorem dL_law_1572 : decode cL_law 1572 = .ok (.iaload, 1) := by decide +kernel
theorem dL_law_1573 : decode cL_law 1573 = .ok (.invokevirtual 212, 3) := by decide +kernel
theorem dL_law_1576 : decode cL_law 1576 = .ok (.istore 7, 2) := by decide +kernel
theorem dL_law_1578 : decode cL_law 1578 = .ok (.aload_n 2, 1) := by decide +kernel
theorem dL_law_1579 : decode cL_law 1579 = .ok (.invokevirtual 139, 3) := by decide +kernel
theorem dL_law_1582 : decode cL_law 1582 = .ok (.iload 6, 2) := by decide +kernel
theorem dL_law_1584 : decode cL_law 1584 = .ok (.if_icmp .eq 5, 3) := by decide +kernel
theorem dL_law_1587 : decode cL_law 1587 = .ok (.iconst 0, 1) := by decide +kernel
theorem dL_law_1588 : decode cL_law 1588 = .ok (.ireturn, 1) := by decide +kernel
theorem dL_law_1589 : decode cL_law 1589 = .ok (.iload 6, 2) := by decide +kernel
theorem dL_law_1591 : decode cL_law 1591 = .ok (.ifCond .ne 15, 3) := by decide +kernel
theorem dL_law_1594 : decode cL_law 1594 = .ok (.aload_n 3, 1) := by decide +kernel
theorem dL_law_1595 : decode cL_law 1595 = .ok (.iconst 0, 1) := by decide +kernel
theorem dL_law_1596 : decode cL_law 1596 = .ok (.laload, 1) := by decide +kernel
theorem dL_law_1597 : decode cL_law 1597 = .ok (.iload 7, 2) := by decide +kernel
theorem dL_law_1599 : decode cL_law 1599 = .ok (.i2l, 1) := by decide +kernel
theorem dL_law_1600 : decode cL_law 1600 = .ok (.lcmp, 1) := by decide +kernel
theorem dL_law_1601 : decode cL_law 1601 = .ok (.ifCond .eq 5, 3) := by decide +kernel
theorem dL_law_1604 : decode cL_law 1604 = .ok (.iconst 0, 1) := by decide +kernel
theorem dL_law_1605 : decode cL_law 1605 = .ok (.ireturn, 1) := by decide +kernel
theorem dL_law_1606 : decode cL_law 1606 = .ok (.goto 775, 3) := by decide +kernel
theorem dL_law_1609 : decode cL_law 1609 = .ok (.aload_n 1, 1) := by decide +kernel
theorem dL_law_1610 : decode cL_law 1610 = .ok (.aload_n 0, 1) := by decide +kernel
theorem dL_law_1611 : decode cL_law 1611 = .ok (.iload 5, 2) := by decide +kernel
theorem dL_law_1613 : decode cL_law 1613 = .ok (.iconst 1, 1) := by decide +kernel
theorem dL_law_1614 : decode cL_law 1614 = .ok (.iadd, 1) := by decide +kernel
theorem dL_law_1615 : decode cL_law 1615 = .ok (.iaload, 1) := by decide +kernel
theorem dL_law_1616 : decode cL_law 1616 = .ok (.aload_n 3, 1) := by decide +kernel
theorem dL_law_1617 : decode cL_law 1617 = .ok (.invokestatic 213, 3) := by decide +kernel
theorem dL_law_1620 : decode cL_law 1620 = .ok (.istore 6, 2) := by decide +kernel
theorem dL_law_1622 : decode cL_law 1622 = .ok (.aload_n 2, 1) := by decide +kernel
theorem dL_law_1623 : decode cL_law 1623 = .ok (.aload_n 0, 1) := by decide +kernel
theorem dL_law_1624 : decode cL_law 1624 = .ok (.iload 5, 2) := by decide +kernel
theorem dL_law_1626 : decode cL_law 1626 = .ok (.iconst 1, 1) := by decide +kernel
theorem dL_law_1627 : decode cL_law 1627 = .ok (.iadd, 1) := by decide +kernel
theorem dL_law_1628 : decode cL_law 1628 = .ok (.iaload, 1) := by decide +kernel
theorem dL_law_1629 : decode cL_law 1629 = .ok (.invokevirtual 215, 3) := by decide +kernel
theorem dL_law_1632 : decode cL_law 1632 = .ok (.istore 7, 2) := by decide +kernel
theorem dL_law_1634 : decode cL_law 1634 = .ok (.aload_n 2, 1) := by decide +kernel
theorem dL_law_1635 : decode cL_law 1635 = .ok (.invokevirtual 139, 3) := by decide +kernel
theorem dL_law_1638 : decode cL_law 1638 = .ok (.iload 6, 2) := by decide +kernel
theorem dL_law_1640 : decode cL_law 1640 = .ok (.if_icmp .eq 5, 3) := by decide +kernel
theorem dL_law_1643 : decode cL_law 1643 = .ok (.iconst 0, 1) := by decide +kernel
theorem dL_law_1644 : decode cL_law 1644 = .ok (.ireturn, 1) := by decide +kernel
theorem dL_law_1645 : decode cL_law 1645 = .ok (.iload 6, 2) := by decide +kernel
theorem dL_law_1647 : decode cL_law 1647 = .ok (.ifCond .ne 22, 3) := by decide +kernel
theorem dL_law_1650 : decode cL_law 1650 = .ok (.aload_n 3, 1) := by decide +kernel
theorem dL_law_1651 : decode cL_law 1651 = .ok (.iconst 0, 1) := by decide +kernel
theorem dL_law_1652 : decode cL_law 1652 = .ok (.laload, 1) := by decide +kernel
theorem dL_law_1653 : decode cL_law 1653 = .ok (.iload 7, 2) := by decide +kernel
theorem dL_law_1655 : decode cL_law 1655 = .ok (.ifCond .eq 7, 3) := by decide +kernel
theorem dL_law_1658 : decode cL_law 1658 = .ok (.lconst 1, 1) := by decide +kernel
theorem dL_law_1659 : decode cL_law 1659 = .ok (.goto 4, 3) := by decide +kernel
theorem dL_law_1662 : decode cL_law 1662 = .ok (.lconst 0, 1) := by decide +kernel
theorem dL_law_1663 : decode cL_law 1663 = .ok (.lcmp, 1) := by decide +kernel
theorem dL_law_1664 : decode cL_law 1664 = .ok (.ifCond .eq 5, 3) := by decide +kernel
theorem dL_law_1667 : decode cL_law 1667 = .ok (.iconst 0, 1) := by decide +kernel
theorem dL_law_1668 : decode cL_law 1668 = .ok (.ireturn, 1) := by decide +kernel
theorem dL_law_1669 : decode cL_law 1669 = .ok (.goto 712, 3) := by decide +kernel
theorem dL_law_1672 : decode cL_law 1672 = .ok (.aload_n 1, 1) := by decide +kernel
theorem dL_law_1673 : decode cL_law 1673 = .ok (.aload_n 0, 1) := by decide +kernel
theorem dL_law_1674 : decode cL_law 1674 = .ok (.iload 5, 2) := by decide +kernel
theorem dL_law_1676 : decode cL_law 1676 = .ok (.iconst 1, 1) := by decide +kernel
theorem dL_law_1677 : decode cL_law 1677 = .ok (.iadd, 1) := by decide +kernel
theorem dL_law_1678 : decode cL_law 1678 = .ok (.iaload, 1) := by decide +kernel
theorem dL_law_1679 : decode cL_law 1679 = .ok (.aload_n 3, 1) := by decide +kernel
theorem dL_law_1680 : decode cL_law 1680 = .ok (.invokestatic 216, 3) := by decide +kernel
theorem dL_law_1683 : decode cL_law 1683 = .ok (.istore 6, 2) := by decide +kernel
theorem dL_law_1685 : decode cL_law 1685 = .ok (.aload_n 2, 1) := by decide +kernel
theorem dL_law_1686 : decode cL_law 1686 = .ok (.aload_n 0, 1) := by decide +kernel
theorem dL_law_1687 : decode cL_law 1687 = .ok (.iload 5, 2) := by decide +kernel
theorem dL_law_1689 : decode cL_law 1689 = .ok (.iconst 1, 1) := by decide +kernel
theorem dL_law_1690 : decode cL_law 1690 = .ok (.iadd, 1) := by decide +kernel
theorem dL_law_1691 : decode cL_law 1691 = .ok (.iaload, 1) := by decide +kernel
theorem dL_law_1692 : decode cL_law 1692 = .ok (.invokevirtual 218, 3) := by decide +kernel
theorem dL_law_1695 : decode cL_law 1695 = .ok (.istore 7, 2) := by decide +kernel
theorem dL_law_1697 : decode cL_law 1697 = .ok (.aload_n 2, 1) := by decide +kernel
theorem dL_law_1698 : decode cL_law 1698 = .ok (.invokevirtual 139, 3) := by decide +kernel
theorem dL_law_1701 : decode cL_law 1701 = .ok (.iload 6, 2) := by decide +kernel
theorem dL_law_1703 : decode cL_law 1703 = .ok (.if_icmp .eq 5, 3) := by decide +kernel
theorem dL_law_1706 : decode cL_law 1706 = .ok (.iconst 0, 1) := by decide +kernel
theorem dL_law_1707 : decode cL_law 1707 = .ok (.ireturn, 1) := by decide +kernel
theorem dL_law_1708 : decode cL_law 1708 = .ok (.iload 6, 2) := by decide +kernel
theorem dL_law_1710 : decode cL_law 1710 = .ok (.ifCond .ne 22, 3) := by decide +kernel
theorem dL_law_1713 : decode cL_law 1713 = .ok (.aload_n 3, 1) := by decide +kernel
theorem dL_law_1714 : decode cL_law 1714 = .ok (.iconst 0, 1) := by decide +kernel
theorem dL_law_1715 : decode cL_law 1715 = .ok (.laload, 1) := by decide +kernel
theorem dL_law_1716 : decode cL_law 1716 = .ok (.iload 7, 2) := by decide +kernel
theorem dL_law_1718 : decode cL_law 1718 = .ok (.ifCond .eq 7, 3) := by decide +kernel
theorem dL_law_1721 : decode cL_law 1721 = .ok (.lconst 1, 1) := by decide +kernel
theorem dL_law_1722 : decode cL_law 1722 = .ok (.goto 4, 3) := by decide +kernel
theorem dL_law_1725 : decode cL_law 1725 = .ok (.lconst 0, 1) := by decide +kernel
theorem dL_law_1726 : decode cL_law 1726 = .ok (.lcmp, 1) := by decide +kernel
theorem dL_law_1727 : decode cL_law 1727 = .ok (.ifCond .eq 5, 3) := by decide +kernel
theorem dL_law_1730 : decode cL_law 1730 = .ok (.iconst 0, 1) := by decide +kernel
theorem dL_law_1731 : decode cL_law 1731 = .ok (.ireturn, 1) := by decide +kernel
theorem dL_law_1732 : decode cL_law 1732 = .ok (.goto 649, 3) := by decide +kernel
theorem dL_law_1735 : decode cL_law 1735 = .ok (.aload_n 1, 1) := by decide +kernel
theorem dL_law_1736 : decode cL_law 1736 = .ok (.aload_n 0, 1) := by decide +kernel
theorem dL_law_1737 : decode cL_law 1737 = .ok (.iload 5, 2) := by decide +kernel
theorem dL_law_1739 : decode cL_law 1739 = .ok (.iconst 1, 1) := by decide +kernel
theorem dL_law_1740 : decode cL_law 1740 = .ok (.iadd, 1) := by decide +kernel
theorem dL_law_1741 : decode cL_law 1741 = .ok (.iaload, 1) := by decide +kernel
theorem dL_law_1742 : decode cL_law 1742 = .ok (.aload_n 3, 1) := by decide +kernel
theorem dL_law_1743 : decode cL_law 1743 = .ok (.invokestatic 219, 3) := by decide +kernel
theorem dL_law_1746 : decode cL_law 1746 = .ok (.istore 6, 2) := by decide +kernel
theorem dL_law_1748 : decode cL_law 1748 = .ok (.aload_n 2, 1) := by decide +kernel
theorem dL_law_1749 : decode cL_law 1749 = .ok (.aload_n 0, 1) := by decide +kernel
theorem dL_law_1750 : decode cL_law 1750 = .ok (.iload 5, 2) := by decide +kernel
theorem dL_law_1752 : decode cL_law 1752 = .ok (.iconst 1, 1) := by decide +kernel
theorem dL_law_1753 : decode cL_law 1753 = .ok (.iadd, 1) := by decide +kernel
theorem dL_law_1754 : decode cL_law 1754 = .ok (.iaload, 1) := by decide +kernel
theorem dL_law_1755 : decode cL_law 1755 = .ok (.invokevirtual 221, 3) := by decide +kernel
theorem dL_law_1758 : decode cL_law 1758 = .ok (.istore 7, 2) := by decide +kernel
theorem dL_law_1760 : decode cL_law 1760 = .ok (.aload_n 2, 1) := by decide +kernel
theorem dL_law_1761 : decode cL_law 1761 = .ok (.invokevirtual 139, 3) := by decide +kernel
theorem dL_law_1764 : decode cL_law 1764 = .ok (.iload 6, 2) := by decide +kernel
theorem dL_law_1766 : decode cL_law 1766 = .ok (.if_icmp .eq 5, 3) := by decide +kernel
theorem dL_law_1769 : decode cL_law 1769 = .ok (.iconst 0, 1) := by decide +kernel
theorem dL_law_1770 : decode cL_law 1770 = .ok (.ireturn, 1) := by decide +kernel
theorem dL_law_1771 : decode cL_law 1771 = .ok (.iload 6, 2) := by decide +kernel
theorem dL_law_1773 : decode cL_law 1773 = .ok (.ifCond .ne 22, 3) := by decide +kernel
theorem dL_law_1776 : decode cL_law 1776 = .ok (.aload_n 3, 1) := by decide +kernel
theorem dL_law_1777 : decode cL_law 1777 = .ok (.iconst 0, 1) := by decide +kernel
theorem dL_law_1778 : decode cL_law 1778 = .ok (.laload, 1) := by decide +kernel
theorem dL_law_1779 : decode cL_law 1779 = .ok (.iload 7, 2) := by decide +kernel
theorem dL_law_1781 : decode cL_law 1781 = .ok (.ifCond .eq 7, 3) := by decide +kernel
theorem dL_law_1784 : decode cL_law 1784 = .ok (.lconst 1, 1) := by decide +kernel
theorem dL_law_1785 : decode cL_law 1785 = .ok (.goto 4, 3) := by decide +kernel
theorem dL_law_1788 : decode cL_law 1788 = .ok (.lconst 0, 1) := by decide +kernel
theorem dL_law_1789 : decode cL_law 1789 = .ok (.lcmp, 1) := by decide +kernel
theorem dL_law_1790 : decode cL_law 1790 = .ok (.ifCond .eq 5, 3) := by decide +kernel
theorem dL_law_1793 : decode cL_law 1793 = .ok (.iconst 0, 1) := by decide +kernel
theorem dL_law_1794 : decode cL_law 1794 = .ok (.ireturn, 1) := by decide +kernel
theorem dL_law_1795 : decode cL_law 1795 = .ok (.goto 586, 3) := by decide +kernel
theorem dL_law_1798 : decode cL_law 1798 = .ok (.aload_n 1, 1) := by decide +kernel
theorem dL_law_1799 : decode cL_law 1799 = .ok (.aload_n 0, 1) := by decide +kernel
theorem dL_law_1800 : decode cL_law 1800 = .ok (.iload 5, 2) := by decide +kernel
theorem dL_law_1802 : decode cL_law 1802 = .ok (.iconst 1, 1) := by decide +kernel
theorem dL_law_1803 : decode cL_law 1803 = .ok (.iadd, 1) := by decide +kernel
theorem dL_law_1804 : decode cL_law 1804 = .ok (.iaload, 1) := by decide +kernel
theorem dL_law_1805 : decode cL_law 1805 = .ok (.aload_n 3, 1) := by decide +kernel
theorem dL_law_1806 : decode cL_law 1806 = .ok (.invokestatic 222, 3) := by decide +kernel
theorem dL_law_1809 : decode cL_law 1809 = .ok (.istore 6, 2) := by decide +kernel
theorem dL_law_1811 : decode cL_law 1811 = .ok (.aload_n 2, 1) := by decide +kernel
theorem dL_law_1812 : decode cL_law 1812 = .ok (.aload_n 0, 1) := by decide +kernel
theorem dL_law_1813 : decode cL_law 1813 = .ok (.iload 5, 2) := by decide +kernel
theorem dL_law_1815 : decode cL_law 1815 = .ok (.iconst 1, 1) := by decide +kernel
theorem dL_law_1816 : decode cL_law 1816 = .ok (.iadd, 1) := by decide +kernel
theorem dL_law_1817 : decode cL_law 1817 = .ok (.iaload, 1) := by decide +kernel
theorem dL_law_1818 : decode cL_law 1818 = .ok (.invokevirtual 224, 3) := by decide +kernel
theorem dL_law_1821 : decode cL_law 1821 = .ok (.istore 7, 2) := by decide +kernel
theorem dL_law_1823 : decode cL_law 1823 = .ok (.aload_n 2, 1) := by decide +kernel
theorem dL_law_1824 : decode cL_law 1824 = .ok (.invokevirtual 139, 3) := by decide +kernel
theorem dL_law_1827 : decode cL_law 1827 = .ok (.iload 6, 2) := by decide +kernel
theorem dL_law_1829 : decode cL_law 1829 = .ok (.if_icmp .eq 5, 3) := by decide +kernel
theorem dL_law_1832 : decode cL_law 1832 = .ok (.iconst 0, 1) := by decide +kernel
theorem dL_law_1833 : decode cL_law 1833 = .ok (.ireturn, 1) := by decide +kernel
theorem dL_law_1834 : decode cL_law 1834 = .ok (.iload 6, 2) := by decide +kernel
theorem dL_law_1836 : decode cL_law 1836 = .ok (.ifCond .ne 15, 3) := by decide +kernel
theorem dL_law_1839 : decode cL_law 1839 = .ok (.aload_n 3, 1) := by decide +kernel
theorem dL_law_1840 : decode cL_law 1840 = .ok (.iconst 0, 1) := by decide +kernel
theorem dL_law_1841 : decode cL_law 1841 = .ok (.laload, 1) := by decide +kernel
theorem dL_law_1842 : decode cL_law 1842 = .ok (.iload 7, 2) := by decide +kernel
theorem dL_law_1844 : decode cL_law 1844 = .ok (.i2l, 1) := by decide +kernel
theorem dL_law_1845 : decode cL_law 1845 = .ok (.lcmp, 1) := by decide +kernel
theorem dL_law_1846 : decode cL_law 1846 = .ok (.ifCond .eq 5, 3) := by decide +kernel
theorem dL_law_1849 : decode cL_law 1849 = .ok (.iconst 0, 1) := by decide +kernel
theorem dL_law_1850 : decode cL_law 1850 = .ok (.ireturn, 1) := by decide +kernel
theorem dL_law_1851 : decode cL_law 1851 = .ok (.goto 530, 3) := by decide +kernel
theorem dL_law_1854 : decode cL_law 1854 = .ok (.aload_n 1, 1) := by decide +kernel
theorem dL_law_1855 : decode cL_law 1855 = .ok (.aload_n 0, 1) := by decide +kernel
theorem dL_law_1856 : decode cL_law 1856 = .ok (.iload 5, 2) := by decide +kernel
theorem dL_law_1858 : decode cL_law 1858 = .ok (.iconst 1, 1) := by decide +kernel
theorem dL_law_1859 : decode cL_law 1859 = .ok (.iadd, 1) := by decide +kernel
theorem dL_law_1860 : decode cL_law 1860 = .ok (.iaload, 1) := by decide +kernel
theorem dL_law_1861 : decode cL_law 1861 = .ok (.aload_n 3, 1) := by decide +kernel
theorem dL_law_1862 : decode cL_law 1862 = .ok (.invokestatic 225, 3) := by decide +kernel
theorem dL_law_1865 : decode cL_law 1865 = .ok (.istore 6, 2) := by decide +kernel
theorem dL_law_1867 : decode cL_law 1867 = .ok (.aload_n 2, 1) := by decide +kernel
theorem dL_law_1868 : decode cL_law 1868 = .ok (.aload_n 0, 1) := by decide +kernel
theorem dL_law_1869 : decode cL_law 1869 = .ok (.iload 5, 2) := by decide +kernel
theorem dL_law_1871 : decode cL_law 1871 = .ok (.iconst 1, 1) := by decide +kernel
theorem dL_law_1872 : decode cL_law 1872 = .ok (.iadd, 1) := by decide +kernel
theorem dL_law_1873 : decode cL_law 1873 = .ok (.iaload, 1) := by decide +kernel
theorem dL_law_1874 : decode cL_law 1874 = .ok (.invokevirtual 227, 3) := by decide +kernel
theorem dL_law_1877 : decode cL_law 1877 = .ok (.istore 7, 2) := by decide +kernel
theorem dL_law_1879 : decode cL_law 1879 = .ok (.aload_n 2, 1) := by decide +kernel
theorem dL_law_1880 : decode cL_law 1880 = .ok (.invokevirtual 139, 3) := by decide +kernel
theorem dL_law_1883 : decode cL_law 1883 = .ok (.iload 6, 2) := by decide +kernel
theorem dL_law_1885 : decode cL_law 1885 = .ok (.if_icmp .eq 5, 3) := by decide +kernel
theorem dL_law_1888 : decode cL_law 1888 = .ok (.iconst 0, 1) := by decide +kernel
theorem dL_law_1889 : decode cL_law 1889 = .ok (.ireturn, 1) := by decide +kernel
theorem dL_law_1890 : decode cL_law 1890 = .ok (.iload 6, 2) := by decide +kernel
theorem dL_law_1892 : decode cL_law 1892 = .ok (.ifCond .ne 15, 3) := by decide +kernel
theorem dL_law_1895 : decode cL_law 1895 = .ok (.aload_n 3, 1) := by decide +kernel
theorem dL_law_1896 : decode cL_law 1896 = .ok (.iconst 0, 1) := by decide +kernel
theorem dL_law_1897 : decode cL_law 1897 = .ok (.laload, 1) := by decide +kernel
theorem dL_law_1898 : decode cL_law 1898 = .ok (.iload 7, 2) := by decide +kernel
theorem dL_law_1900 : decode cL_law 1900 = .ok (.i2l, 1) := by decide +kernel
theorem dL_law_1901 : decode cL_law 1901 = .ok (.lcmp, 1) := by decide +kernel
theorem dL_law_1902 : decode cL_law 1902 = .ok (.ifCond .eq 5, 3) := by decide +kernel
theorem dL_law_1905 : decode cL_law 1905 = .ok (.iconst 0, 1) := by decide +kernel
theorem dL_law_1906 : decode cL_law 1906 = .ok (.ireturn, 1) := by decide +kernel
theorem dL_law_1907 : decode cL_law 1907 = .ok (.goto 474, 3) := by decide +kernel
theorem dL_law_1910 : decode cL_law 1910 = .ok (.aload_n 1, 1) := by decide +kernel
theorem dL_law_1911 : decode cL_law 1911 = .ok (.aload_n 0, 1) := by decide +kernel
theorem dL_law_1912 : decode cL_law 1912 = .ok (.iload 5, 2) := by decide +kernel
theorem dL_law_1914 : decode cL_law 1914 = .ok (.iconst 1, 1) := by decide +kernel
theorem dL_law_1915 : decode cL_law 1915 = .ok (.iadd, 1) := by decide +kernel
theorem dL_law_1916 : decode cL_law 1916 = .ok (.iaload, 1) := by decide +kernel
theorem dL_law_1917 : decode cL_law 1917 = .ok (.aload_n 3, 1) := by decide +kernel
theorem dL_law_1918 : decode cL_law 1918 = .ok (.invokestatic 228, 3) := by decide +kernel
theorem dL_law_1921 : decode cL_law 1921 = .ok (.istore 6, 2) := by decide +kernel
theorem dL_law_1923 : decode cL_law 1923 = .ok (.aload_n 2, 1) := by decide +kernel
theorem dL_law_1924 : decode cL_law 1924 = .ok (.aload_n 0, 1) := by decide +kernel
theorem dL_law_1925 : decode cL_law 1925 = .ok (.iload 5, 2) := by decide +kernel
theorem dL_law_1927 : decode cL_law 1927 = .ok (.iconst 1, 1) := by decide +kernel
theorem dL_law_1928 : decode cL_law 1928 = .ok (.iadd, 1) := by decide +kernel
theorem dL_law_1929 : decode cL_law 1929 = .ok (.iaload, 1) := by decide +kernel
theorem dL_law_1930 : decode cL_law 1930 = .ok (.invokevirtual 230, 3) := by decide +kernel
theorem dL_law_1933 : decode cL_law 1933 = .ok (.istore 7, 2) := by decide +kernel
theorem dL_law_1935 : decode cL_law 1935 = .ok (.aload_n 2, 1) := by decide +kernel
theorem dL_law_1936 : decode cL_law 1936 = .ok (.invokevirtual 139, 3) := by decide +kernel
theorem dL_law_1939 : decode cL_law 1939 = .ok (.iload 6, 2) := by decide +kernel
theorem dL_law_1941 : decode cL_law 1941 = .ok (.if_icmp .eq 5, 3) := by decide +kernel
theorem dL_law_1944 : decode cL_law 1944 = .ok (.iconst 0, 1) := by decide +kernel
theorem dL_law_1945 : decode cL_law 1945 = .ok (.ireturn, 1) := by decide +kernel
theorem dL_law_1946 : decode cL_law 1946 = .ok (.iload 6, 2) := by decide +kernel
theorem dL_law_1948 : decode cL_law 1948 = .ok (.ifCond .ne 15, 3) := by decide +kernel
theorem dL_law_1951 : decode cL_law 1951 = .ok (.aload_n 3, 1) := by decide +kernel
theorem dL_law_1952 : decode cL_law 1952 = .ok (.iconst 0, 1) := by decide +kernel
theorem dL_law_1953 : decode cL_law 1953 = .ok (.laload, 1) := by decide +kernel
theorem dL_law_1954 : decode cL_law 1954 = .ok (.iload 7, 2) := by decide +kernel
theorem dL_law_1956 : decode cL_law 1956 = .ok (.i2l, 1) := by decide +kernel
theorem dL_law_1957 : decode cL_law 1957 = .ok (.lcmp, 1) := by decide +kernel
theorem dL_law_1958 : decode cL_law 1958 = .ok (.ifCond .eq 5, 3) := by decide +kernel
theorem dL_law_1961 : decode cL_law 1961 = .ok (.iconst 0, 1) := by decide +kernel
theorem dL_law_1962 : decode cL_law 1962 = .ok (.ireturn, 1) := by decide +kernel
theorem dL_law_1963 : decode cL_law 1963 = .ok (.goto 418, 3) := by decide +kernel
theorem dL_law_1966 : decode cL_law 1966 = .ok (.aload_n 1, 1) := by decide +kernel
theorem dL_law_1967 : decode cL_law 1967 = .ok (.invokevirtual 231, 3) := by decide +kernel
theorem dL_law_1970 : decode cL_law 1970 = .ok (.aload_n 2, 1) := by decide +kernel
theorem dL_law_1971 : decode cL_law 1971 = .ok (.invokevirtual 234, 3) := by decide +kernel
theorem dL_law_1974 : decode cL_law 1974 = .ok (.if_icmp .eq 407, 3) := by decide +kernel
theorem dL_law_1977 : decode cL_law 1977 = .ok (.iconst 0, 1) := by decide +kernel
theorem dL_law_1978 : decode cL_law 1978 = .ok (.ireturn, 1) := by decide +kernel
theorem dL_law_1979 : decode cL_law 1979 = .ok (.aload_n 1, 1) := by decide +kernel
theorem dL_law_1980 : decode cL_law 1980 = .ok (.aload_n 0, 1) := by decide +kernel
theorem dL_law_1981 : decode cL_law 1981 = .ok (.iload 5, 2) := by decide +kernel
theorem dL_law_1983 : decode cL_law 1983 = .ok (.iconst 1, 1) := by decide +kernel
theorem dL_law_1984 : decode cL_law 1984 = .ok (.iadd, 1) := by decide +kernel
theorem dL_law_1985 : decode cL_law 1985 = .ok (.iaload, 1) := by decide +kernel
theorem dL_law_1986 : decode cL_law 1986 = .ok (.aload 4, 2) := by decide +kernel
theorem dL_law_1988 : decode cL_law 1988 = .ok (.invokestatic 235, 3) := by decide +kernel
theorem dL_law_1991 : decode cL_law 1991 = .ok (.istore 6, 2) := by decide +kernel
theorem dL_law_1993 : decode cL_law 1993 = .ok (.aload_n 2, 1) := by decide +kernel
theorem dL_law_1994 : decode cL_law 1994 = .ok (.aload_n 0, 1) := by decide +kernel
theorem dL_law_1995 : decode cL_law 1995 = .ok (.iload 5, 2) := by decide +kernel
theorem dL_law_1997 : decode cL_law 1997 = .ok (.iconst 1, 1) := by decide +kernel
theorem dL_law_1998 : decode cL_law 1998 = .ok (.iadd, 1) := by decide +kernel
theorem dL_law_1999 : decode cL_law 1999 = .ok (.iaload, 1) := by decide +kernel
theorem dL_law_2000 : decode cL_law 2000 = .ok (.invokevirtual 238, 3) := by decide +kernel
theorem dL_law_2003 : decode cL_law 2003 = .ok (.fstore 7, 2) := by decide +kernel
theorem dL_law_2005 : decode cL_law 2005 = .ok (.aload_n 2, 1) := by decide +kernel
theorem dL_law_2006 : decode cL_law 2006 = .ok (.invokevirtual 139, 3) := by decide +kernel
theorem dL_law_2009 : decode cL_law 2009 = .ok (.iload 6, 2) := by decide +kernel
theorem dL_law_2011 : decode cL_law 2011 = .ok (.if_icmp .eq 5, 3) := by decide +kernel
theorem dL_law_2014 : decode cL_law 2014 = .ok (.iconst 0, 1) := by decide +kernel
theorem dL_law_2015 : decode cL_law 2015 = .ok (.ireturn, 1) := by decide +kernel
theorem dL_law_2016 : decode cL_law 2016 = .ok (.iload 6, 2) := by decide +kernel
theorem dL_law_2018 : decode cL_law 2018 = .ok (.ifCond .ne 36, 3) := by decide +kernel
theorem dL_law_2021 : decode cL_law 2021 = .ok (.aload 4, 2) := by decide +kernel
theorem dL_law_2023 : decode cL_law 2023 = .ok (.iconst 0, 1) := by decide +kernel
theorem dL_law_2024 : decode cL_law 2024 = .ok (.daload, 1) := by decide +kernel
theorem dL_law_2025 : decode cL_law 2025 = .ok (.fload 7, 2) := by decide +kernel
theorem dL_law_2027 : decode cL_law 2027 = .ok (.f2d, 1) := by decide +kernel
theorem dL_law_2028 : decode cL_law 2028 = .ok (.dcmp .l, 1) := by decide +kernel
theorem dL_law_2029 : decode cL_law 2029 = .ok (.ifCond .eq 25, 3) := by decide +kernel
theorem dL_law_2032 : decode cL_law 2032 = .ok (.aload 4, 2) := by decide +kernel
theorem dL_law_2034 : decode cL_law 2034 = .ok (.iconst 0, 1) := by decide +kernel
theorem dL_law_2035 : decode cL_law 2035 = .ok (.daload, 1) := by decide +kernel
theorem dL_law_2036 : decode cL_law 2036 = .ok (.aload 4, 2) := by decide +kernel
theorem dL_law_2038 : decode cL_law 2038 = .ok (.iconst 0, 1) := by decide +kernel
theorem dL_law_2039 : decode cL_law 2039 = .ok (.daload, 1) := by decide +kernel
theorem dL_law_2040 : decode cL_law 2040 = .ok (.dcmp .l, 1) := by decide +kernel
theorem dL_law_2041 : decode cL_law 2041 = .ok (.ifCond .eq 11, 3) := by decide +kernel
theorem dL_law_2044 : decode cL_law 2044 = .ok (.fload 7, 2) := by decide +kernel
theorem dL_law_2046 : decode cL_law 2046 = .ok (.fload 7, 2) := by decide +kernel
theorem dL_law_2048 : decode cL_law 2048 = .ok (.fcmp .l, 1) := by decide +kernel
theorem dL_law_2049 : decode cL_law 2049 = .ok (.ifCond .ne 5, 3) := by decide +kernel
theorem dL_law_2052 : decode cL_law 2052 = .ok (.iconst 0, 1) := by decide +kernel
theorem dL_law_2053 : decode cL_law 2053 = .ok (.ireturn, 1) := by decide +kernel
theorem dL_law_2054 : decode cL_law 2054 = .ok (.goto 327, 3) := by decide +kernel
theorem dL_law_2057 : decode cL_law 2057 = .ok (.aload_n 1, 1) := by decide +kernel
theorem dL_law_2058 : decode cL_law 2058 = .ok (.aload_n 0, 1) := by decide +kernel
theorem dL_law_2059 : decode cL_law 2059 = .ok (.iload 5, 2) := by decide +kernel
theorem dL_law_2061 : decode cL_law 2061 = .ok (.iconst 1, 1) := by decide +kernel
theorem dL_law_2062 : decode cL_law 2062 = .ok (.iadd, 1) := by decide +kernel
theorem dL_law_2063 : decode cL_law 2063 = .ok (.iaload, 1) := by decide +kernel
theorem dL_law_2064 : decode cL_law 2064 = .ok (.aload_n 3, 1) := by decide +kernel
theorem dL_law_2065 : decode cL_law 2065 = .ok (.invokestatic 239, 3) := by decide +kernel
theorem dL_law_2068 : decode cL_law 2068 = .ok (.istore 6, 2) := by decide +kernel
theorem dL_law_2070 : decode cL_law 2070 = .ok (.aload_n 2, 1) := by decide +kernel
theorem dL_law_2071 : decode cL_law 2071 = .ok (.aload_n 0, 1) := by decide +kernel
theorem dL_law_2072 : decode cL_law 2072 = .ok (.iload 5, 2) := by decide +kernel
theorem dL_law_2074 : decode cL_law 2074 = .ok (.iconst 1, 1) := by decide +kernel
theorem dL_law_2075 : decode cL_law 2075 = .ok (.iadd, 1) := by decide +kernel
theorem dL_law_2076 : decode cL_law 2076 = .ok (.iaload, 1) := by decide +kernel
theorem dL_law_2077 : decode cL_law 2077 = .ok (.invokevirtual 241, 3) := by decide +kernel
theorem dL_law_2080 : decode cL_law 2080 = .ok (.istore 7, 2) := by decide +kernel
theorem dL_law_2082 : decode cL_law 2082 = .ok (.aload_n 2, 1) := by decide +kernel
theorem dL_law_2083 : decode cL_law 2083 = .ok (.invokevirtual 139, 3) := by decide +kernel
theorem dL_law_2086 : decode cL_law 2086 = .ok (.iload 6, 2) := by decide +kernel
theorem dL_law_2088 : decode cL_law 2088 = .ok (.if_icmp .eq 5, 3) := by decide +kernel
theorem dL_law_2091 : decode cL_law 2091 = .ok (.iconst 0, 1) := by decide +kernel
theorem dL_law_2092 : decode cL_law 2092 = .ok (.ireturn, 1) := by decide +kernel
theorem dL_law_2093 : decode cL_law 2093 = .ok (.iload 6, 2) := by decide +kernel
theorem dL_law_2095 : decode cL_law 2095 = .ok (.ifCond .ne 15, 3) := by decide +kernel
theorem dL_law_2098 : decode cL_law 2098 = .ok (.aload_n 3, 1) := by decide +kernel
theorem dL_law_2099 : decode cL_law 2099 = .ok (.iconst 0, 1) := by decide +kernel
theorem dL_law_2100 : decode cL_law 2100 = .ok (.laload, 1) := by decide +kernel
theorem dL_law_2101 : decode cL_law 2101 = .ok (.iload 7, 2) := by decide +kernel
theorem dL_law_2103 : decode cL_law 2103 = .ok (.i2l, 1) := by decide +kernel
theorem dL_law_2104 : decode cL_law 2104 = .ok (.lcmp, 1) := by decide +kernel
theorem dL_law_2105 : decode cL_law 2105 = .ok (.ifCond .eq 5, 3) := by decide +kernel
theorem dL_law_2108 : decode cL_law 2108 = .ok (.iconst 0, 1) := by decide +kernel
theorem dL_law_2109 : decode cL_law 2109 = .ok (.ireturn, 1) := by decide +kernel
theorem dL_law_2110 : decode cL_law 2110 = .ok (.goto 271, 3) := by decide +kernel
theorem dL_law_2113 : decode cL_law 2113 = .ok (.aload_n 1, 1) := by decide +kernel
theorem dL_law_2114 : decode cL_law 2114 = .ok (.aload_n 0, 1) := by decide +kernel
theorem dL_law_2115 : decode cL_law 2115 = .ok (.iload 5, 2) := by decide +kernel
theorem dL_law_2117 : decode cL_law 2117 = .ok (.iconst 1, 1) := by decide +kernel
theorem dL_law_2118 : decode cL_law 2118 = .ok (.iadd, 1) := by decide +kernel
theorem dL_law_2119 : decode cL_law 2119 = .ok (.iaload, 1) := by decide +kernel
theorem dL_law_2120 : decode cL_law 2120 = .ok (.aload_n 3, 1) := by decide +kernel
theorem dL_law_2121 : decode cL_law 2121 = .ok (.invokestatic 242, 3) := by decide +kernel
theorem dL_law_2124 : decode cL_law 2124 = .ok (.istore 6, 2) := by decide +kernel
theorem dL_law_2126 : decode cL_law 2126 = .ok (.aload_n 2, 1) := by decide +kernel
theorem dL_law_2127 : decode cL_law 2127 = .ok (.aload_n 0, 1) := by decide +kernel
theorem dL_law_2128 : decode cL_law 2128 = .ok (.iload 5, 2) := by decide +kernel
theorem dL_law_2130 : decode cL_law 2130 = .ok (.iconst 1, 1) := by decide +kernel
theorem dL_law_2131 : decode cL_law 2131 = .ok (.iadd, 1) := by decide +kernel
theorem dL_law_2132 : decode cL_law 2132 = .ok (.iaload, 1) := by decide +kernel
theorem dL_law_2133 : decode cL_law 2133 = .ok (.invokevirtual 244, 3) := by decide +kernel
theorem dL_law_2136 : decode cL_law 2136 = .ok (.istore 7, 2) := by decide +kernel
theorem dL_law_2138 : decode cL_law 2138 = .ok (.aload_n 2, 1) := by decide +kernel
theorem dL_law_2139 : decode cL_law 2139 = .ok (.invokevirtual 139, 3) := by decide +kernel
theorem dL_law_2142 : decode cL_law 2142 = .ok (.iload 6, 2) := by decide +kernel
theorem dL_law_2144 : decode cL_law 2144 = .ok (.if_icmp .eq 5, 3) := by decide +kernel
theorem dL_law_2147 : decode cL_law 2147 = .ok (.iconst 0, 1) := by decide +kernel
theorem dL_law_2148 : decode cL_law 2148 = .ok (.ireturn, 1) := by decide +kernel
theorem dL_law_2149 : decode cL_law 2149 = .ok (.iload 6, 2) := by decide +kernel
theorem dL_law_2151 : decode cL_law 2151 = .ok (.ifCond .ne 15, 3) := by decide +kernel
theorem dL_law_2154 : decode cL_law 2154 = .ok (.aload_n 3, 1) := by decide +kernel
theorem dL_law_2155 : decode cL_law 2155 = .ok (.iconst 0, 1) := by decide +kernel
theorem dL_law_2156 : decode cL_law 2156 = .ok (.laload, 1) := by decide +kernel
theorem dL_law_2157 : decode cL_law 2157 = .ok (.iload 7, 2) := by decide +kernel
theorem dL_law_2159 : decode cL_law 2159 = .ok (.i2l, 1) := by decide +kernel
theorem dL_law_2160 : decode cL_law 2160 = .ok (.lcmp, 1) := by decide +kernel
theorem dL_law_2161 : decode cL_law 2161 = .ok (.ifCond .eq 5, 3) := by decide +kernel
theorem dL_law_2164 : decode cL_law 2164 = .ok (.iconst 0, 1) := by decide +kernel
theorem dL_law_2165 : decode cL_law 2165 = .ok (.ireturn, 1) := by decide +kernel
theorem dL_law_2166 : decode cL_law 2166 = .ok (.goto 215, 3) := by decide +kernel
theorem dL_law_2169 : decode cL_law 2169 = .ok (.aload_n 1, 1) := by decide +kernel
theorem dL_law_2170 : decode cL_law 2170 = .ok (.aload_n 3, 1) := by decide +kernel
theorem dL_law_2171 : decode cL_law 2171 = .ok (.invokestatic 245, 3) := by decide +kernel
theorem dL_law_2174 : decode cL_law 2174 = .ok (.istore 6, 2) := by decide +kernel
theorem dL_law_2176 : decode cL_law 2176 = .ok (.aload_n 2, 1) := by decide +kernel
theorem dL_law_2177 : decode cL_law 2177 = .ok (.invokevirtual 247, 3) := by decide +kernel
theorem dL_law_2180 : decode cL_law 2180 = .ok (.istore 7, 2) := by decide +kernel
theorem dL_law_2182 : decode cL_law 2182 = .ok (.aload_n 2, 1) := by decide +kernel
theorem dL_law_2183 : decode cL_law 2183 = .ok (.invokevirtual 139, 3) := by decide +kernel
theorem dL_law_2186 : decode cL_law 2186 = .ok (.iload 6, 2) := by decide +kernel
theorem dL_law_2188 : decode cL_law 2188 = .ok (.if_icmp .eq 5, 3) := by decide +kernel
theorem dL_law_2191 : decode cL_law 2191 = .ok (.iconst 0, 1) := by decide +kernel
theorem dL_law_2192 : decode cL_law 2192 = .ok (.ireturn, 1) := by decide +kernel
theorem dL_law_2193 : decode cL_law 2193 = .ok (.iload 6, 2) := by decide +kernel
theorem dL_law_2195 : decode cL_law 2195 = .ok (.ifCond .ne 15, 3) := by decide +kernel
theorem dL_law_2198 : decode cL_law 2198 = .ok (.aload_n 3, 1) := by decide +kernel
theorem dL_law_2199 : decode cL_law 2199 = .ok (.iconst 0, 1) := by decide +kernel
theorem dL_law_2200 : decode cL_law 2200 = .ok (.laload, 1) := by decide +kernel
theorem dL_law_2201 : decode cL_law 2201 = .ok (.iload 7, 2) := by decide +kernel
theorem dL_law_2203 : decode cL_law 2203 = .ok (.i2l, 1) := by decide +kernel
theorem dL_law_2204 : decode cL_law 2204 = .ok (.lcmp, 1) := by decide +kernel
theorem dL_law_2205 : decode cL_law 2205 = .ok (.ifCond .eq 5, 3) := by decide +kernel
theorem dL_law_2208 : decode cL_law 2208 = .ok (.iconst 0, 1) := by decide +kernel
theorem dL_law_2209 : decode cL_law 2209 = .ok (.ireturn, 1) := by decide +kernel
theorem dL_law_2210 : decode cL_law 2210 = .ok (.goto 171, 3) := by decide +kernel
theorem dL_law_2213 : decode cL_law 2213 = .ok (.aload_n 1, 1) := by decide +kernel
theorem dL_law_2214 : decode cL_law 2214 = .ok (.aload_n 0, 1) := by decide +kernel
theorem dL_law_2215 : decode cL_law 2215 = .ok (.iload 5, 2) := by decide +kernel
theorem dL_law_2217 : decode cL_law 2217 = .ok (.iconst 1, 1) := by decide +kernel
theorem dL_law_2218 : decode cL_law 2218 = .ok (.iadd, 1) := by decide +kernel
theorem dL_law_2219 : decode cL_law 2219 = .ok (.iaload, 1) := by decide +kernel
theorem dL_law_2220 : decode cL_law 2220 = .ok (.aload_n 3, 1) := by decide +kernel
theorem dL_law_2221 : decode cL_law 2221 = .ok (.invokestatic 248, 3) := by decide +kernel
theorem dL_law_2224 : decode cL_law 2224 = .ok (.istore 6, 2) := by decide +kernel
theorem dL_law_2226 : decode cL_law 2226 = .ok (.aload_n 2, 1) := by decide +kernel
theorem dL_law_2227 : decode cL_law 2227 = .ok (.aload_n 0, 1) := by decide +kernel
theorem dL_law_2228 : decode cL_law 2228 = .ok (.iload 5, 2) := by decide +kernel
theorem dL_law_2230 : decode cL_law 2230 = .ok (.iconst 1, 1) := by decide +kernel
theorem dL_law_2231 : decode cL_law 2231 = .ok (.iadd, 1) := by decide +kernel
theorem dL_law_2232 : decode cL_law 2232 = .ok (.iaload, 1) := by decide +kernel
theorem dL_law_2233 : decode cL_law 2233 = .ok (.invokevirtual 250, 3) := by decide +kernel
theorem dL_law_2236 : decode cL_law 2236 = .ok (.istore 7, 2) := by decide +kernel
theorem dL_law_2238 : decode cL_law 2238 = .ok (.aload_n 2, 1) := by decide +kernel
theorem dL_law_2239 : decode cL_law 2239 = .ok (.invokevirtual 139, 3) := by decide +kernel
theorem dL_law_2242 : decode cL_law 2242 = .ok (.iload 6, 2) := by decide +kernel
theorem dL_law_2244 : decode cL_law 2244 = .ok (.if_icmp .eq 5, 3) := by decide +kernel
theorem dL_law_2247 : decode cL_law 2247 = .ok (.iconst 0, 1) := by decide +kernel
theorem dL_law_2248 : decode cL_law 2248 = .ok (.ireturn, 1) := by decide +kernel
theorem dL_law_2249 : decode cL_law 2249 = .ok (.iload 6, 2) := by decide +kernel
theorem dL_law_2251 : decode cL_law 2251 = .ok (.ifCond .ne 15, 3) := by decide +kernel
theorem dL_law_2254 : decode cL_law 2254 = .ok (.aload_n 3, 1) := by decide +kernel
theorem dL_law_2255 : decode cL_law 2255 = .ok (.iconst 0, 1) := by decide +kernel
theorem dL_law_2256 : decode cL_law 2256 = .ok (.laload, 1) := by decide +kernel
theorem dL_law_2257 : decode cL_law 2257 = .ok (.iload 7, 2) := by decide +kernel
theorem dL_law_2259 : decode cL_law 2259 = .ok (.i2l, 1) := by decide +kernel
theorem dL_law_2260 : decode cL_law 2260 = .ok (.lcmp, 1) := by decide +kernel
theorem dL_law_2261 : decode cL_law 2261 = .ok (.ifCond .eq 5, 3) := by decide +kernel
theorem dL_law_2264 : decode cL_law 2264 = .ok (.iconst 0, 1) := by decide +kernel
theorem dL_law_2265 : decode cL_law 2265 = .ok (.ireturn, 1) := by decide +kernel
theorem dL_law_2266 : decode cL_law 2266 = .ok (.goto 115, 3) := by decide +kernel
theorem dL_law_2269 : decode cL_law 2269 = .ok (.aload_n 1, 1) := by decide +kernel
theorem dL_law_2270 : decode cL_law 2270 = .ok (.aload_n 0, 1) := by decide +kernel
theorem dL_law_2271 : decode cL_law 2271 = .ok (.iload 5, 2) := by decide +kernel
theorem dL_law_2273 : decode cL_law 2273 = .ok (.iconst 1, 1) := by decide +kernel
theorem dL_law_2274 : decode cL_law 2274 = .ok (.iadd, 1) := by decide +kernel
theorem dL_law_2275 : decode cL_law 2275 = .ok (.iaload, 1) := by decide +kernel
theorem dL_law_2276 : decode cL_law 2276 = .ok (.aload_n 3, 1) := by decide +kernel
theorem dL_law_2277 : decode cL_law 2277 = .ok (.invokestatic 251, 3) := by decide +kernel
theorem dL_law_2280 : decode cL_law 2280 = .ok (.istore 6, 2) := by decide +kernel
theorem dL_law_2282 : decode cL_law 2282 = .ok (.aload_n 2, 1) := by decide +kernel
theorem dL_law_2283 : decode cL_law 2283 = .ok (.aload_n 0, 1) := by decide +kernel
theorem dL_law_2284 : decode cL_law 2284 = .ok (.iload 5, 2) := by decide +kernel
theorem dL_law_2286 : decode cL_law 2286 = .ok (.iconst 1, 1) := by decide +kernel
theorem dL_law_2287 : decode cL_law 2287 = .ok (.iadd, 1) := by decide +kernel
theorem dL_law_2288 : decode cL_law 2288 = .ok (.iaload, 1) := by decide +kernel
theorem dL_law_2289 : decode cL_law 2289 = .ok (.invokevirtual 253, 3) := by decide +kernel
theorem dL_law_2292 : decode cL_law 2292 = .ok (.istore 7, 2) := by decide +kernel
theorem dL_law_2294 : decode cL_law 2294 = .ok (.aload_n 2, 1) := by decide +kernel
theorem dL_law_2295 : decode cL_law 2295 = .ok (.invokevirtual 139, 3) := by decide +kernel
theorem dL_law_2298 : decode cL_law 2298 = .ok (.iload 6, 2) := by decide +kernel
theorem dL_law_2300 : decode cL_law 2300 = .ok (.if_icmp .eq 5, 3) := by decide +kernel
theorem dL_law_2303 : decode cL_law 2303 = .ok (.iconst 0, 1) := by decide +kernel
theorem dL_law_2304 : decode cL_law 2304 = .ok (.ireturn, 1) := by decide +kernel
theorem dL_law_2305 : decode cL_law 2305 = .ok (.iload 6, 2) := by decide +kernel
theorem dL_law_2307 : decode cL_law 2307 = .ok (.ifCond .ne 15, 3) := by decide +kernel
theorem dL_law_2310 : decode cL_law 2310 = .ok (.aload_n 3, 1) := by decide +kernel
theorem dL_law_2311 : decode cL_law 2311 = .ok (.iconst 0, 1) := by decide +kernel
theorem dL_law_2312 : decode cL_law 2312 = .ok (.laload, 1) := by decide +kernel
theorem dL_law_2313 : decode cL_law 2313 = .ok (.iload 7, 2) := by decide +kernel
theorem dL_law_2315 : decode cL_law 2315 = .ok (.i2l, 1) := by decide +kernel
theorem dL_law_2316 : decode cL_law 2316 = .ok (.lcmp, 1) := by decide +kernel
theorem dL_law_2317 : decode cL_law 2317 = .ok (.ifCond .eq 5, 3) := by decide +kernel
theorem dL_law_2320 : decode cL_law 2320 = .ok (.iconst 0, 1) := by decide +kernel
theorem dL_law_2321 : decode cL_law 2321 = .ok (.ireturn, 1) := by decide +kernel
theorem dL_law_2322 : decode cL_law 2322 = .ok (.goto 59, 3) := by decide +kernel
theorem dL_law_2325 : decode cL_law 2325 = .ok (.aload_n 1, 1) := by decide +kernel
theorem dL_law_2326 : decode cL_law 2326 = .ok (.aload_n 0, 1) := by decide +kernel
theorem dL_law_2327 : decode cL_law 2327 = .ok (.iload 5, 2) := by decide +kernel
theorem dL_law_2329 : decode cL_law 2329 = .ok (.iconst 1, 1) := by decide +kernel
theorem dL_law_2330 : decode cL_law 2330 = .ok (.iadd, 1) := by decide +kernel
theorem dL_law_2331 : decode cL_law 2331 = .ok (.iaload, 1) := by decide +kernel
theorem dL_law_2332 : decode cL_law 2332 = .ok (.aload_n 3, 1) := by decide +kernel
theorem dL_law_2333 : decode cL_law 2333 = .ok (.invokestatic 254, 3) := by decide +kernel
theorem dL_law_2336 : decode cL_law 2336 = .ok (.istore 6, 2) := by decide +kernel
theorem dL_law_2338 : decode cL_law 2338 = .ok (.aload_n 2, 1) := by decide +kernel
theorem dL_law_2339 : decode cL_law 2339 = .ok (.aload_n 0, 1) := by decide +kernel
theorem dL_law_2340 : decode cL_law 2340 = .ok (.iload 5, 2) := by decide +kernel
theorem dL_law_2342 : decode cL_law 2342 = .ok (.iconst 1, 1) := by decide +kernel
theorem dL_law_2343 : decode cL_law 2343 = .ok (.iadd, 1) := by decide +kernel
theorem dL_law_2344 : decode cL_law 2344 = .ok (.iaload, 1) := by decide +kernel
theorem dL_law_2345 : decode cL_law 2345 = .ok (.invokevirtual 256, 3) := by decide +kernel
theorem dL_law_2348 : decode cL_law 2348 = .ok (.istore 7, 2) := by decide +kernel
theorem dL_law_2350 : decode cL_law 2350 = .ok (.aload_n 2, 1) := by decide +kernel
theorem dL_law_2351 : decode cL_law 2351 = .ok (.invokevirtual 139, 3) := by decide +kernel
theorem dL_law_2354 : decode cL_law 2354 = .ok (.iload 6, 2) := by decide +kernel
theorem dL_law_2356 : decode cL_law 2356 = .ok (.if_icmp .eq 5, 3) := by decide +kernel
theorem dL_law_2359 : decode cL_law 2359 = .ok (.iconst 0, 1) := by decide +kernel
theorem dL_law_2360 : decode cL_law 2360 = .ok (.ireturn, 1) := by decide +kernel
theorem dL_law_2361 : decode cL_law 2361 = .ok (.iload 6, 2) := by decide +kernel
theorem dL_law_2363 : decode cL_law 2363 = .ok (.ifCond .ne 15, 3) := by decide +kernel
theorem dL_law_2366 : decode cL_law 2366 = .ok (.aload_n 3, 1) := by decide +kernel
theorem dL_law_2367 : decode cL_law 2367 = .ok (.iconst 0, 1) := by decide +kernel
theorem dL_law_2368 : decode cL_law 2368 = .ok (.laload, 1) := by decide +kernel
theorem dL_law_2369 : decode cL_law 2369 = .ok (.iload 7, 2) := by decide +kernel
theorem dL_law_2371 : decode cL_law 2371 = .ok (.i2l, 1) := by decide +kernel
theorem dL_law_2372 : decode cL_law 2372 = .ok (.lcmp, 1) := by decide +kernel
theorem dL_law_2373 : decode cL_law 2373 = .ok (.ifCond .eq 5, 3) := by decide +kernel
theorem dL_law_2376 : decode cL_law 2376 = .ok (.iconst 0, 1) := by decide +kernel
theorem dL_law_2377 : decode cL_law 2377 = .ok (.ireturn, 1) := by decide +kernel
theorem dL_law_2378 : decode cL_law 2378 = .ok (.goto 3, 3) := by decide +kernel
theorem dL_law_2381 : decode cL_law 2381 = .ok (.iinc 5 6, 3) := by decide +kernel
theorem dL_law_2384 : decode cL_law 2384 = .ok (.goto (-2356), 3) := by decide +kernel
theorem dL_law_2387 : decode cL_law 2387 = .ok (.iconst 1, 1) := by decide +kernel
theorem dL_law_2388 : decode cL_law 2388 = .ok (.ireturn, 1) := by decide +kernel

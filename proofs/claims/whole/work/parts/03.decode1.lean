theorem dX0_init_0 : decode cX0_init 0 = .ok (.aload_n 0, 1) := by decide +kernel
theorem dX0_init_1 : decode cX0_init 1 = .ok (.invokespecial 3, 3) := by decide +kernel
theorem dX0_init_4 : decode cX0_init 4 = .ok (.aload_n 0, 1) := by decide +kernel
theorem dX0_init_5 : decode cX0_init 5 = .ok (.aload_n 1, 1) := by decide +kernel
theorem dX0_init_6 : decode cX0_init 6 = .ok (.putfield 9, 3) := by decide +kernel
theorem dX0_init_9 : decode cX0_init 9 = .ok (.aload_n 0, 1) := by decide +kernel
theorem dX0_init_10 : decode cX0_init 10 = .ok (.lconst 0, 1) := by decide +kernel
theorem dX0_init_11 : decode cX0_init 11 = .ok (.putfield 15, 3) := by decide +kernel
theorem dX0_init_14 : decode cX0_init 14 = .ok (.aload_n 0, 1) := by decide +kernel
theorem dX0_init_15 : decode cX0_init 15 = .ok (.lconst 0, 1) := by decide +kernel
theorem dX0_init_16 : decode cX0_init 16 = .ok (.putfield 19, 3) := by decide +kernel
theorem dX0_init_19 : decode cX0_init 19 = .ok (.return_, 1) := by decide +kernel
theorem dX0_become_0 : decode cX0_become 0 = .ok (.aload_n 0, 1) := by decide +kernel
theorem dX0_become_1 : decode cX0_become 1 = .ok (.aload_n 1, 1) := by decide +kernel
theorem dX0_become_2 : decode cX0_become 2 = .ok (.getfield 9, 3) := by decide +kernel
theorem dX0_become_5 : decode cX0_become 5 = .ok (.putfield 9, 3) := by decide +kernel
theorem dX0_become_8 : decode cX0_become 8 = .ok (.aload_n 0, 1) := by decide +kernel
theorem dX0_become_9 : decode cX0_become 9 = .ok (.aload_n 1, 1) := by decide +kernel
theorem dX0_become_10 : decode cX0_become 10 = .ok (.getfield 15, 3) := by decide +kernel
theorem dX0_become_13 : decode cX0_become 13 = .ok (.putfield 15, 3) := by decide +kernel
theorem dX0_become_16 : decode cX0_become 16 = .ok (.aload_n 0, 1) := by decide +kernel
theorem dX0_become_17 : decode cX0_become 17 = .ok (.aload_n 1, 1) := by decide +kernel
theorem dX0_become_18 : decode cX0_become 18 = .ok (.getfield 19, 3) := by decide +kernel
theorem dX0_become_21 : decode cX0_become 21 = .ok (.putfield 19, 3) := by decide +kernel
theorem dX0_become_24 : decode cX0_become 24 = .ok (.return_, 1) := by decide +kernel
theorem dX0_stonesOf_0 : decode cX0_stonesOf 0 = .ok (.iload_n 1, 1) := by decide +kernel
theorem dX0_stonesOf_1 : decode cX0_stonesOf 1 = .ok (.iconst 1, 1) := by decide +kernel
theorem dX0_stonesOf_2 : decode cX0_stonesOf 2 = .ok (.if_icmp .ne 10, 3) := by decide +kernel
theorem dX0_stonesOf_5 : decode cX0_stonesOf 5 = .ok (.aload_n 0, 1) := by decide +kernel
theorem dX0_stonesOf_6 : decode cX0_stonesOf 6 = .ok (.getfield 15, 3) := by decide +kernel
theorem dX0_stonesOf_9 : decode cX0_stonesOf 9 = .ok (.goto 7, 3) := by decide +kernel
theorem dX0_stonesOf_12 : decode cX0_stonesOf 12 = .ok (.aload_n 0, 1) := by decide +kernel
theorem dX0_stonesOf_13 : decode cX0_stonesOf 13 = .ok (.getfield 19, 3) := by decide +kernel
theorem dX0_stonesOf_16 : decode cX0_stonesOf 16 = .ok (.lreturn, 1) := by decide +kernel
theorem dX0_emptyPlaces_0 : decode cX0_emptyPlaces 0 = .ok (.aload_n 0, 1) := by decide +kernel
theorem dX0_emptyPlaces_1 : decode cX0_emptyPlaces 1 = .ok (.getfield 9, 3) := by decide +kernel
theorem dX0_emptyPlaces_4 : decode cX0_emptyPlaces 4 = .ok (.aload_n 0, 1) := by decide +kernel
theorem dX0_emptyPlaces_5 : decode cX0_emptyPlaces 5 = .ok (.getfield 15, 3) := by decide +kernel
theorem dX0_emptyPlaces_8 : decode cX0_emptyPlaces 8 = .ok (.aload_n 0, 1) := by decide +kernel
theorem dX0_emptyPlaces_9 : decode cX0_emptyPlaces 9 = .ok (.getfield 19, 3) := by decide +kernel
theorem dX0_emptyPlaces_12 : decode cX0_emptyPlaces 12 = .ok (.lor, 1) := by decide +kernel
theorem dX0_emptyPlaces_13 : decode cX0_emptyPlaces 13 = .ok (.invokevirtual 22, 3) := by decide +kernel
theorem dX0_emptyPlaces_16 : decode cX0_emptyPlaces 16 = .ok (.lreturn, 1) := by decide +kernel
theorem dX0_withoutStonesOf_0 : decode cX0_withoutStonesOf 0 = .ok (.aload_n 0, 1) := by decide +kernel
theorem dX0_withoutStonesOf_1 : decode cX0_withoutStonesOf 1 = .ok (.getfield 9, 3) := by decide +kernel
theorem dX0_withoutStonesOf_4 : decode cX0_withoutStonesOf 4 = .ok (.aload_n 0, 1) := by decide +kernel
theorem dX0_withoutStonesOf_5 : decode cX0_withoutStonesOf 5 = .ok (.iload_n 1, 1) := by decide +kernel
theorem dX0_withoutStonesOf_6 : decode cX0_withoutStonesOf 6 = .ok (.invokevirtual 28, 3) := by decide +kernel
theorem dX0_withoutStonesOf_9 : decode cX0_withoutStonesOf 9 = .ok (.invokevirtual 22, 3) := by decide +kernel
theorem dX0_withoutStonesOf_12 : decode cX0_withoutStonesOf 12 = .ok (.lreturn, 1) := by decide +kernel
theorem dX0_stoneNumber_0 : decode cX0_stoneNumber 0 = .ok (.aload_n 0, 1) := by decide +kernel
theorem dX0_stoneNumber_1 : decode cX0_stoneNumber 1 = .ok (.getfield 15, 3) := by decide +kernel
theorem dX0_stoneNumber_4 : decode cX0_stoneNumber 4 = .ok (.aload_n 0, 1) := by decide +kernel
theorem dX0_stoneNumber_5 : decode cX0_stoneNumber 5 = .ok (.getfield 19, 3) := by decide +kernel
theorem dX0_stoneNumber_8 : decode cX0_stoneNumber 8 = .ok (.lor, 1) := by decide +kernel
theorem dX0_stoneNumber_9 : decode cX0_stoneNumber 9 = .ok (.invokestatic 32, 3) := by decide +kernel
theorem dX0_stoneNumber_12 : decode cX0_stoneNumber 12 = .ok (.ireturn, 1) := by decide +kernel
theorem dX0_colourAt_0 : decode cX0_colourAt 0 = .ok (.lconst 1, 1) := by decide +kernel
theorem dX0_colourAt_1 : decode cX0_colourAt 1 = .ok (.iload_n 1, 1) := by decide +kernel
theorem dX0_colourAt_2 : decode cX0_colourAt 2 = .ok (.lshl, 1) := by decide +kernel
theorem dX0_colourAt_3 : decode cX0_colourAt 3 = .ok (.lstore_n 2, 1) := by decide +kernel
theorem dX0_colourAt_4 : decode cX0_colourAt 4 = .ok (.aload_n 0, 1) := by decide +kernel
theorem dX0_colourAt_5 : decode cX0_colourAt 5 = .ok (.getfield 15, 3) := by decide +kernel
theorem dX0_colourAt_8 : decode cX0_colourAt 8 = .ok (.lload_n 2, 1) := by decide +kernel
theorem dX0_colourAt_9 : decode cX0_colourAt 9 = .ok (.land, 1) := by decide +kernel
theorem dX0_colourAt_10 : decode cX0_colourAt 10 = .ok (.lconst 0, 1) := by decide +kernel
theorem dX0_colourAt_11 : decode cX0_colourAt 11 = .ok (.lcmp, 1) := by decide +kernel
theorem dX0_colourAt_12 : decode cX0_colourAt 12 = .ok (.ifCond .eq 5, 3) := by decide +kernel
theorem dX0_colourAt_15 : decode cX0_colourAt 15 = .ok (.iconst 1, 1) := by decide +kernel
theorem dX0_colourAt_16 : decode cX0_colourAt 16 = .ok (.ireturn, 1) := by decide +kernel
theorem dX0_colourAt_17 : decode cX0_colourAt 17 = .ok (.aload_n 0, 1) := by decide +kernel
theorem dX0_colourAt_18 : decode cX0_colourAt 18 = .ok (.getfield 19, 3) := by decide +kernel
theorem dX0_colourAt_21 : decode cX0_colourAt 21 = .ok (.lload_n 2, 1) := by decide +kernel
theorem dX0_colourAt_22 : decode cX0_colourAt 22 = .ok (.land, 1) := by decide +kernel
theorem dX0_colourAt_23 : decode cX0_colourAt 23 = .ok (.lconst 0, 1) := by decide +kernel
theorem dX0_colourAt_24 : decode cX0_colourAt 24 = .ok (.lcmp, 1) := by decide +kernel
theorem dX0_colourAt_25 : decode cX0_colourAt 25 = .ok (.ifCond .eq 7, 3) := by decide +kernel
theorem dX0_colourAt_28 : decode cX0_colourAt 28 = .ok (.iconst 2, 1) := by decide +kernel
theorem dX0_colourAt_29 : decode cX0_colourAt 29 = .ok (.goto 4, 3) := by decide +kernel
theorem dX0_colourAt_32 : decode cX0_colourAt 32 = .ok (.iconst 0, 1) := by decide +kernel
theorem dX0_colourAt_33 : decode cX0_colourAt 33 = .ok (.ireturn, 1) := by decide +kernel
theorem dX0_chainAt_0 : decode cX0_chainAt 0 = .ok (.aload_n 0, 1) := by decide +kernel
theorem dX0_chainAt_1 : decode cX0_chainAt 1 = .ok (.iload_n 1, 1) := by decide +kernel
theorem dX0_chainAt_2 : decode cX0_chainAt 2 = .ok (.invokevirtual 38, 3) := by decide +kernel
theorem dX0_chainAt_5 : decode cX0_chainAt 5 = .ok (.istore_n 2, 1) := by decide +kernel
theorem dX0_chainAt_6 : decode cX0_chainAt 6 = .ok (.iload_n 2, 1) := by decide +kernel
theorem dX0_chainAt_7 : decode cX0_chainAt 7 = .ok (.ifCond .ne 7, 3) := by decide +kernel
theorem dX0_chainAt_10 : decode cX0_chainAt 10 = .ok (.lconst 0, 1) := by decide +kernel
theorem dX0_chainAt_11 : decode cX0_chainAt 11 = .ok (.goto 18, 3) := by decide +kernel
theorem dX0_chainAt_14 : decode cX0_chainAt 14 = .ok (.aload_n 0, 1) := by decide +kernel
theorem dX0_chainAt_15 : decode cX0_chainAt 15 = .ok (.getfield 9, 3) := by decide +kernel
theorem dX0_chainAt_18 : decode cX0_chainAt 18 = .ok (.lconst 1, 1) := by decide +kernel
theorem dX0_chainAt_19 : decode cX0_chainAt 19 = .ok (.iload_n 1, 1) := by decide +kernel
theorem dX0_chainAt_20 : decode cX0_chainAt 20 = .ok (.lshl, 1) := by decide +kernel
theorem dX0_chainAt_21 : decode cX0_chainAt 21 = .ok (.aload_n 0, 1) := by decide +kernel
theorem dX0_chainAt_22 : decode cX0_chainAt 22 = .ok (.iload_n 2, 1) := by decide +kernel
theorem dX0_chainAt_23 : decode cX0_chainAt 23 = .ok (.invokevirtual 28, 3) := by decide +kernel
theorem dX0_chainAt_26 : decode cX0_chainAt 26 = .ok (.invokevirtual 42, 3) := by decide +kernel
theorem dX0_chainAt_29 : decode cX0_chainAt 29 = .ok (.lreturn, 1) := by decide +kernel
theorem dX0_freedomsOf_0 : decode cX0_freedomsOf 0 = .ok (.aload_n 0, 1) := by decide +kernel
theorem dX0_freedomsOf_1 : decode cX0_freedomsOf 1 = .ok (.getfield 9, 3) := by decide +kernel
theorem dX0_freedomsOf_4 : decode cX0_freedomsOf 4 = .ok (.lload_n 1, 1) := by decide +kernel
theorem dX0_freedomsOf_5 : decode cX0_freedomsOf 5 = .ok (.aload_n 0, 1) := by decide +kernel
theorem dX0_freedomsOf_6 : decode cX0_freedomsOf 6 = .ok (.getfield 15, 3) := by decide +kernel
theorem dX0_freedomsOf_9 : decode cX0_freedomsOf 9 = .ok (.aload_n 0, 1) := by decide +kernel
theorem dX0_freedomsOf_10 : decode cX0_freedomsOf 10 = .ok (.getfield 19, 3) := by decide +kernel
theorem dX0_freedomsOf_13 : decode cX0_freedomsOf 13 = .ok (.lor, 1) := by decide +kernel
theorem dX0_freedomsOf_14 : decode cX0_freedomsOf 14 = .ok (.invokevirtual 46, 3) := by decide +kernel
theorem dX0_freedomsOf_17 : decode cX0_freedomsOf 17 = .ok (.lreturn, 1) := by decide +kernel
theorem dX0_chainsWithin_0 : decode cX0_chainsWithin 0 = .ok (.aload_n 0, 1) := by decide +kernel
theorem dX0_chainsWithin_1 : decode cX0_chainsWithin 1 = .ok (.iload_n 1, 1) := by decide +kernel
theorem dX0_chainsWithin_2 : decode cX0_chainsWithin 2 = .ok (.invokevirtual 28, 3) := by decide +kernel
theorem dX0_chainsWithin_5 : decode cX0_chainsWithin 5 = .ok (.lstore_n 3, 1) := by decide +kernel
theorem dX0_chainsWithin_6 : decode cX0_chainsWithin 6 = .ok (.lload_n 3, 1) := by decide +kernel
theorem dX0_chainsWithin_7 : decode cX0_chainsWithin 7 = .ok (.lstore 5, 2) := by decide +kernel
theorem dX0_chainsWithin_9 : decode cX0_chainsWithin 9 = .ok (.iconst 0, 1) := by decide +kernel
theorem dX0_chainsWithin_10 : decode cX0_chainsWithin 10 = .ok (.istore 7, 2) := by decide +kernel
theorem dX0_chainsWithin_12 : decode cX0_chainsWithin 12 = .ok (.iconst 0, 1) := by decide +kernel
theorem dX0_chainsWithin_13 : decode cX0_chainsWithin 13 = .ok (.istore 8, 2) := by decide +kernel
theorem dX0_chainsWithin_15 : decode cX0_chainsWithin 15 = .ok (.iload 8, 2) := by decide +kernel
theorem dX0_chainsWithin_17 : decode cX0_chainsWithin 17 = .ok (.aload_n 0, 1) := by decide +kernel
theorem dX0_chainsWithin_18 : decode cX0_chainsWithin 18 = .ok (.getfield 9, 3) := by decide +kernel
theorem dX0_chainsWithin_21 : decode cX0_chainsWithin 21 = .ok (.getfield 49, 3) := by decide +kernel
theorem dX0_chainsWithin_24 : decode cX0_chainsWithin 24 = .ok (.if_icmp .ge 62, 3) := by decide +kernel
theorem dX0_chainsWithin_27 : decode cX0_chainsWithin 27 = .ok (.lload 5, 2) := by decide +kernel
theorem dX0_chainsWithin_29 : decode cX0_chainsWithin 29 = .ok (.lconst 1, 1) := by decide +kernel
theorem dX0_chainsWithin_30 : decode cX0_chainsWithin 30 = .ok (.iload 8, 2) := by decide +kernel
theorem dX0_chainsWithin_32 : decode cX0_chainsWithin 32 = .ok (.lshl, 1) := by decide +kernel
theorem dX0_chainsWithin_33 : decode cX0_chainsWithin 33 = .ok (.land, 1) := by decide +kernel
theorem dX0_chainsWithin_34 : decode cX0_chainsWithin 34 = .ok (.lconst 0, 1) := by decide +kernel
theorem dX0_chainsWithin_35 : decode cX0_chainsWithin 35 = .ok (.lcmp, 1) := by decide +kernel
theorem dX0_chainsWithin_36 : decode cX0_chainsWithin 36 = .ok (.ifCond .eq 44, 3) := by decide +kernel
theorem dX0_chainsWithin_39 : decode cX0_chainsWithin 39 = .ok (.aload_n 0, 1) := by decide +kernel
theorem dX0_chainsWithin_40 : decode cX0_chainsWithin 40 = .ok (.getfield 9, 3) := by decide +kernel
theorem dX0_chainsWithin_43 : decode cX0_chainsWithin 43 = .ok (.lconst 1, 1) := by decide +kernel
theorem dX0_chainsWithin_44 : decode cX0_chainsWithin 44 = .ok (.iload 8, 2) := by decide +kernel
theorem dX0_chainsWithin_46 : decode cX0_chainsWithin 46 = .ok (.lshl, 1) := by decide +kernel
theorem dX0_chainsWithin_47 : decode cX0_chainsWithin 47 = .ok (.lload_n 3, 1) := by decide +kernel
theorem dX0_chainsWithin_48 : decode cX0_chainsWithin 48 = .ok (.invokevirtual 42, 3) := by decide +kernel
theorem dX0_chainsWithin_51 : decode cX0_chainsWithin 51 = .ok (.lstore 9, 2) := by decide +kernel
theorem dX0_chainsWithin_53 : decode cX0_chainsWithin 53 = .ok (.lload 5, 2) := by decide +kernel
theorem dX0_chainsWithin_55 : decode cX0_chainsWithin 55 = .ok (.lload 9, 2) := by decide +kernel
theorem dX0_chainsWithin_57 : decode cX0_chainsWithin 57 = .ok (.ldc2_w 53, 3) := by decide +kernel
theorem dX0_chainsWithin_60 : decode cX0_chainsWithin 60 = .ok (.lxor, 1) := by decide +kernel
theorem dX0_chainsWithin_61 : decode cX0_chainsWithin 61 = .ok (.land, 1) := by decide +kernel
theorem dX0_chainsWithin_62 : decode cX0_chainsWithin 62 = .ok (.lstore 5, 2) := by decide +kernel
theorem dX0_chainsWithin_64 : decode cX0_chainsWithin 64 = .ok (.aload_n 0, 1) := by decide +kernel
theorem dX0_chainsWithin_65 : decode cX0_chainsWithin 65 = .ok (.lload 9, 2) := by decide +kernel
theorem dX0_chainsWithin_67 : decode cX0_chainsWithin 67 = .ok (.invokevirtual 55, 3) := by decide +kernel
theorem dX0_chainsWithin_70 : decode cX0_chainsWithin 70 = .ok (.invokestatic 32, 3) := by decide +kernel
theorem dX0_chainsWithin_73 : decode cX0_chainsWithin 73 = .ok (.iload_n 2, 1) := by decide +kernel
theorem dX0_chainsWithin_74 : decode cX0_chainsWithin 74 = .ok (.if_icmp .gt 6, 3) := by decide +kernel
theorem dX0_chainsWithin_77 : decode cX0_chainsWithin 77 = .ok (.iinc 7 1, 3) := by decide +kernel
theorem dX0_chainsWithin_80 : decode cX0_chainsWithin 80 = .ok (.iinc 8 1, 3) := by decide +kernel
theorem dX0_chainsWithin_83 : decode cX0_chainsWithin 83 = .ok (.goto (-68), 3) := by decide +kernel
theorem dX0_chainsWithin_86 : decode cX0_chainsWithin 86 = .ok (.iload 7, 2) := by decide +kernel
theorem dX0_chainsWithin_88 : decode cX0_chainsWithin 88 = .ok (.ireturn, 1) := by decide +kernel
theorem dX0_weakestChain_0 : decode cX0_weakestChain 0 = .ok (.aload_n 0, 1) := by decide +kernel
theorem dX0_weakestChain_1 : decode cX0_weakestChain 1 = .ok (.iload_n 1, 1) := by decide +kernel
theorem dX0_weakestChain_2 : decode cX0_weakestChain 2 = .ok (.invokevirtual 28, 3) := by decide +kernel
theorem dX0_weakestChain_5 : decode cX0_weakestChain 5 = .ok (.lstore_n 2, 1) := by decide +kernel
theorem dX0_weakestChain_6 : decode cX0_weakestChain 6 = .ok (.lload_n 2, 1) := by decide +kernel
theorem dX0_weakestChain_7 : decode cX0_weakestChain 7 = .ok (.lstore 4, 2) := by decide +kernel
theorem dX0_weakestChain_9 : decode cX0_weakestChain 9 = .ok (.iconst (-1), 1) := by decide +kernel
theorem dX0_weakestChain_10 : decode cX0_weakestChain 10 = .ok (.istore 6, 2) := by decide +kernel
theorem dX0_weakestChain_12 : decode cX0_weakestChain 12 = .ok (.iconst 0, 1) := by decide +kernel
theorem dX0_weakestChain_13 : decode cX0_weakestChain 13 = .ok (.istore 7, 2) := by decide +kernel
theorem dX0_weakestChain_15 : decode cX0_weakestChain 15 = .ok (.iconst 0, 1) := by decide +kernel
theorem dX0_weakestChain_16 : decode cX0_weakestChain 16 = .ok (.istore 8, 2) := by decide +kernel
theorem dX0_weakestChain_18 : decode cX0_weakestChain 18 = .ok (.iconst 0, 1) := by decide +kernel
theorem dX0_weakestChain_19 : decode cX0_weakestChain 19 = .ok (.istore 9, 2) := by decide +kernel
theorem dX0_weakestChain_21 : decode cX0_weakestChain 21 = .ok (.iload 9, 2) := by decide +kernel
theorem dX0_weakestChain_23 : decode cX0_weakestChain 23 = .ok (.aload_n 0, 1) := by decide +kernel
theorem dX0_weakestChain_24 : decode cX0_weakestChain 24 = .ok (.getfield 9, 3) := by decide +kernel
theorem dX0_weakestChain_27 : decode cX0_weakestChain 27 = .ok (.getfield 49, 3) := by decide +kernel
theorem dX0_weakestChain_30 : decode cX0_weakestChain 30 = .ok (.if_icmp .ge 103, 3) := by decide +kernel
theorem dX0_weakestChain_33 : decode cX0_weakestChain 33 = .ok (.lload 4, 2) := by decide +kernel
theorem dX0_weakestChain_35 : decode cX0_weakestChain 35 = .ok (.lconst 1, 1) := by decide +kernel
theorem dX0_weakestChain_36 : decode cX0_weakestChain 36 = .ok (.iload 9, 2) := by decide +kernel
theorem dX0_weakestChain_38 : decode cX0_weakestChain 38 = .ok (.lshl, 1) := by decide +kernel
theorem dX0_weakestChain_39 : decode cX0_weakestChain 39 = .ok (.land, 1) := by decide +kernel
theorem dX0_weakestChain_40 : decode cX0_weakestChain 40 = .ok (.lconst 0, 1) := by decide +kernel
theorem dX0_weakestChain_41 : decode cX0_weakestChain 41 = .ok (.lcmp, 1) := by decide +kernel
theorem dX0_weakestChain_42 : decode cX0_weakestChain 42 = .ok (.ifCond .eq 85, 3) := by decide +kernel
theorem dX0_weakestChain_45 : decode cX0_weakestChain 45 = .ok (.aload_n 0, 1) := by decide +kernel
theorem dX0_weakestChain_46 : decode cX0_weakestChain 46 = .ok (.getfield 9, 3) := by decide +kernel
theorem dX0_weakestChain_49 : decode cX0_weakestChain 49 = .ok (.lconst 1, 1) := by decide +kernel
theorem dX0_weakestChain_50 : decode cX0_weakestChain 50 = .ok (.iload 9, 2) := by decide +kernel
theorem dX0_weakestChain_52 : decode cX0_weakestChain 52 = .ok (.lshl, 1) := by decide +kernel
theorem dX0_weakestChain_53 : decode cX0_weakestChain 53 = .ok (.lload_n 2, 1) := by decide +kernel
theorem dX0_weakestChain_54 : decode cX0_weakestChain 54 = .ok (.invokevirtual 42, 3) := by decide +kernel
theorem dX0_weakestChain_57 : decode cX0_weakestChain 57 = .ok (.lstore 10, 2) := by decide +kernel
theorem dX0_weakestChain_59 : decode cX0_weakestChain 59 = .ok (.lload 4, 2) := by decide +kernel
theorem dX0_weakestChain_61 : decode cX0_weakestChain 61 = .ok (.lload 10, 2) := by decide +kernel
theorem dX0_weakestChain_63 : decode cX0_weakestChain 63 = .ok (.ldc2_w 53, 3) := by decide +kernel
theorem dX0_weakestChain_66 : decode cX0_weakestChain 66 = .ok (.lxor, 1) := by decide +kernel
theorem dX0_weakestChain_67 : decode cX0_weakestChain 67 = .ok (.land, 1) := by decide +kernel
theorem dX0_weakestChain_68 : decode cX0_weakestChain 68 = .ok (.lstore 4, 2) := by decide +kernel
theorem dX0_weakestChain_70 : decode cX0_weakestChain 70 = .ok (.aload_n 0, 1) := by decide +kernel
theorem dX0_weakestChain_71 : decode cX0_weakestChain 71 = .ok (.lload 10, 2) := by decide +kernel
theorem dX0_weakestChain_73 : decode cX0_weakestChain 73 = .ok (.invokevirtual 55, 3) := by decide +kernel
theorem dX0_weakestChain_76 : decode cX0_weakestChain 76 = .ok (.invokestatic 32, 3) := by decide +kernel
theorem dX0_weakestChain_79 : decode cX0_weakestChain 79 = .ok (.istore 12, 2) := by decide +kernel
theorem dX0_weakestChain_81 : decode cX0_weakestChain 81 = .ok (.lload 10, 2) := by decide +kernel
theorem dX0_weakestChain_83 : decode cX0_weakestChain 83 = .ok (.invokestatic 32, 3) := by decide +kernel
theorem dX0_weakestChain_86 : decode cX0_weakestChain 86 = .ok (.istore 13, 2) := by decide +kernel
theorem dX0_weakestChain_88 : decode cX0_weakestChain 88 = .ok (.iload 6, 2) := by decide +kernel
theorem dX0_weakestChain_90 : decode cX0_weakestChain 90 = .ok (.iconst (-1), 1) := by decide +kernel
theorem dX0_weakestChain_91 : decode cX0_weakestChain 91 = .ok (.if_icmp .eq 24, 3) := by decide +kernel
theorem dX0_weakestChain_94 : decode cX0_weakestChain 94 = .ok (.iload 12, 2) := by decide +kernel
theorem dX0_weakestChain_96 : decode cX0_weakestChain 96 = .ok (.iload 7, 2) := by decide +kernel
theorem dX0_weakestChain_98 : decode cX0_weakestChain 98 = .ok (.if_icmp .lt 17, 3) := by decide +kernel
theorem dX0_weakestChain_101 : decode cX0_weakestChain 101 = .ok (.iload 12, 2) := by decide +kernel
theorem dX0_weakestChain_103 : decode cX0_weakestChain 103 = .ok (.iload 7, 2) := by decide +kernel
theorem dX0_weakestChain_105 : decode cX0_weakestChain 105 = .ok (.if_icmp .ne 22, 3) := by decide +kernel
theorem dX0_weakestChain_108 : decode cX0_weakestChain 108 = .ok (.iload 13, 2) := by decide +kernel
theorem dX0_weakestChain_110 : decode cX0_weakestChain 110 = .ok (.iload 8, 2) := by decide +kernel
theorem dX0_weakestChain_112 : decode cX0_weakestChain 112 = .ok (.if_icmp .le 15, 3) := by decide +kernel
theorem dX0_weakestChain_115 : decode cX0_weakestChain 115 = .ok (.iload 9, 2) := by decide +kernel
theorem dX0_weakestChain_117 : decode cX0_weakestChain 117 = .ok (.istore 6, 2) := by decide +kernel
theorem dX0_weakestChain_119 : decode cX0_weakestChain 119 = .ok (.iload 12, 2) := by decide +kernel
theorem dX0_weakestChain_121 : decode cX0_weakestChain 121 = .ok (.istore 7, 2) := by decide +kernel
theorem dX0_weakestChain_123 : decode cX0_weakestChain 123 = .ok (.iload 13, 2) := by decide +kernel
theorem dX0_weakestChain_125 : decode cX0_weakestChain 125 = .ok (.istore 8, 2) := by decide +kernel
theorem dX0_weakestChain_127 : decode cX0_weakestChain 127 = .ok (.iinc 9 1, 3) := by decide +kernel
theorem dX0_weakestChain_130 : decode cX0_weakestChain 130 = .ok (.goto (-109), 3) := by decide +kernel
theorem dX0_weakestChain_133 : decode cX0_weakestChain 133 = .ok (.iload 6, 2) := by decide +kernel
theorem dX0_weakestChain_135 : decode cX0_weakestChain 135 = .ok (.ireturn, 1) := by decide +kernel
theorem dX0_capturedBy_0 : decode cX0_capturedBy 0 = .ok (.aload_n 0, 1) := by decide +kernel
theorem dX0_capturedBy_1 : decode cX0_capturedBy 1 = .ok (.iconst 3, 1) := by decide +kernel
theorem dX0_capturedBy_2 : decode cX0_capturedBy 2 = .ok (.iload_n 2, 1) := by decide +kernel
theorem dX0_capturedBy_3 : decode cX0_capturedBy 3 = .ok (.isub, 1) := by decide +kernel
theorem dX0_capturedBy_4 : decode cX0_capturedBy 4 = .ok (.invokevirtual 28, 3) := by decide +kernel
theorem dX0_capturedBy_7 : decode cX0_capturedBy 7 = .ok (.lstore_n 3, 1) := by decide +kernel
theorem dX0_capturedBy_8 : decode cX0_capturedBy 8 = .ok (.aload_n 0, 1) := by decide +kernel
theorem dX0_capturedBy_9 : decode cX0_capturedBy 9 = .ok (.getfield 9, 3) := by decide +kernel
theorem dX0_capturedBy_12 : decode cX0_capturedBy 12 = .ok (.lload_n 3, 1) := by decide +kernel
theorem dX0_capturedBy_13 : decode cX0_capturedBy 13 = .ok (.aload_n 0, 1) := by decide +kernel
theorem dX0_capturedBy_14 : decode cX0_capturedBy 14 = .ok (.getfield 15, 3) := by decide +kernel
theorem dX0_capturedBy_17 : decode cX0_capturedBy 17 = .ok (.aload_n 0, 1) := by decide +kernel
theorem dX0_capturedBy_18 : decode cX0_capturedBy 18 = .ok (.getfield 19, 3) := by decide +kernel
theorem dX0_capturedBy_21 : decode cX0_capturedBy 21 = .ok (.lor, 1) := by decide +kernel
theorem dX0_capturedBy_22 : decode cX0_capturedBy 22 = .ok (.lconst 1, 1) := by decide +kernel
theorem dX0_capturedBy_23 : decode cX0_capturedBy 23 = .ok (.iload_n 1, 1) := by decide +kernel
theorem dX0_capturedBy_24 : decode cX0_capturedBy 24 = .ok (.lshl, 1) := by decide +kernel
theorem dX0_capturedBy_25 : decode cX0_capturedBy 25 = .ok (.lor, 1) := by decide +kernel
theorem dX0_capturedBy_26 : decode cX0_capturedBy 26 = .ok (.invokevirtual 58, 3) := by decide +kernel
theorem dX0_capturedBy_29 : decode cX0_capturedBy 29 = .ok (.lreturn, 1) := by decide +kernel
theorem dX0_chainMadeBy_0 : decode cX0_chainMadeBy 0 = .ok (.aload_n 0, 1) := by decide +kernel
theorem dX0_chainMadeBy_1 : decode cX0_chainMadeBy 1 = .ok (.getfield 9, 3) := by decide +kernel
theorem dX0_chainMadeBy_4 : decode cX0_chainMadeBy 4 = .ok (.lconst 1, 1) := by decide +kernel
theorem dX0_chainMadeBy_5 : decode cX0_chainMadeBy 5 = .ok (.iload_n 1, 1) := by decide +kernel
theorem dX0_chainMadeBy_6 : decode cX0_chainMadeBy 6 = .ok (.lshl, 1) := by decide +kernel
theorem dX0_chainMadeBy_7 : decode cX0_chainMadeBy 7 = .ok (.aload_n 0, 1) := by decide +kernel
theorem dX0_chainMadeBy_8 : decode cX0_chainMadeBy 8 = .ok (.iload_n 2, 1) := by decide +kernel
theorem dX0_chainMadeBy_9 : decode cX0_chainMadeBy 9 = .ok (.invokevirtual 28, 3) := by decide +kernel
theorem dX0_chainMadeBy_12 : decode cX0_chainMadeBy 12 = .ok (.lconst 1, 1) := by decide +kernel
theorem dX0_chainMadeBy_13 : decode cX0_chainMadeBy 13 = .ok (.iload_n 1, 1) := by decide +kernel
theorem dX0_chainMadeBy_14 : decode cX0_chainMadeBy 14 = .ok (.lshl, 1) := by decide +kernel
theorem dX0_chainMadeBy_15 : decode cX0_chainMadeBy 15 = .ok (.lor, 1) := by decide +kernel
theorem dX0_chainMadeBy_16 : decode cX0_chainMadeBy 16 = .ok (.invokevirtual 42, 3) := by decide +kernel
theorem dX0_chainMadeBy_19 : decode cX0_chainMadeBy 19 = .ok (.lreturn, 1) := by decide +kernel
theorem dX0_freedomsMadeBy_0 : decode cX0_freedomsMadeBy 0 = .ok (.aload_n 0, 1) := by decide +kernel
theorem dX0_freedomsMadeBy_1 : decode cX0_freedomsMadeBy 1 = .ok (.getfield 15, 3) := by decide +kernel
theorem dX0_freedomsMadeBy_4 : decode cX0_freedomsMadeBy 4 = .ok (.aload_n 0, 1) := by decide +kernel
theorem dX0_freedomsMadeBy_5 : decode cX0_freedomsMadeBy 5 = .ok (.getfield 19, 3) := by decide +kernel
theorem dX0_freedomsMadeBy_8 : decode cX0_freedomsMadeBy 8 = .ok (.lor, 1) := by decide +kernel
theorem dX0_freedomsMadeBy_9 : decode cX0_freedomsMadeBy 9 = .ok (.lconst 1, 1) := by decide +kernel
theorem dX0_freedomsMadeBy_10 : decode cX0_freedomsMadeBy 10 = .ok (.iload_n 1, 1) := by decide +kernel
theorem dX0_freedomsMadeBy_11 : decode cX0_freedomsMadeBy 11 = .ok (.lshl, 1) := by decide +kernel
theorem dX0_freedomsMadeBy_12 : decode cX0_freedomsMadeBy 12 = .ok (.lor, 1) := by decide +kernel
theorem dX0_freedomsMadeBy_13 : decode cX0_freedomsMadeBy 13 = .ok (.aload_n 0, 1) := by decide +kernel
theorem dX0_freedomsMadeBy_14 : decode cX0_freedomsMadeBy 14 = .ok (.iload_n 1, 1) := by decide +kernel
theorem dX0_freedomsMadeBy_15 : decode cX0_freedomsMadeBy 15 = .ok (.iload_n 2, 1) := by decide +kernel
theorem dX0_freedomsMadeBy_16 : decode cX0_freedomsMadeBy 16 = .ok (.invokevirtual 61, 3) := by decide +kernel
theorem dX0_freedomsMadeBy_19 : decode cX0_freedomsMadeBy 19 = .ok (.ldc2_w 53, 3) := by decide +kernel
theorem dX0_freedomsMadeBy_22 : decode cX0_freedomsMadeBy 22 = .ok (.lxor, 1) := by decide +kernel
theorem dX0_freedomsMadeBy_23 : decode cX0_freedomsMadeBy 23 = .ok (.land, 1) := by decide +kernel
theorem dX0_freedomsMadeBy_24 : decode cX0_freedomsMadeBy 24 = .ok (.lstore_n 3, 1) := by decide +kernel
theorem dX0_freedomsMadeBy_25 : decode cX0_freedomsMadeBy 25 = .ok (.aload_n 0, 1) := by decide +kernel
theorem dX0_freedomsMadeBy_26 : decode cX0_freedomsMadeBy 26 = .ok (.getfield 9, 3) := by decide +kernel
theorem dX0_freedomsMadeBy_29 : decode cX0_freedomsMadeBy 29 = .ok (.aload_n 0, 1) := by decide +kernel
theorem dX0_freedomsMadeBy_30 : decode cX0_freedomsMadeBy 30 = .ok (.iload_n 1, 1) := by decide +kernel
theorem dX0_freedomsMadeBy_31 : decode cX0_freedomsMadeBy 31 = .ok (.iload_n 2, 1) := by decide +kernel
theorem dX0_freedomsMadeBy_32 : decode cX0_freedomsMadeBy 32 = .ok (.invokevirtual 65, 3) := by decide +kernel
theorem dX0_freedomsMadeBy_35 : decode cX0_freedomsMadeBy 35 = .ok (.lload_n 3, 1) := by decide +kernel
theorem dX0_freedomsMadeBy_36 : decode cX0_freedomsMadeBy 36 = .ok (.invokevirtual 46, 3) := by decide +kernel
theorem dX0_freedomsMadeBy_39 : decode cX0_freedomsMadeBy 39 = .ok (.lreturn, 1) := by decide +kernel
theorem dX0_stonesBehind_0 : decode cX0_stonesBehind 0 = .ok (.iload_n 3, 1) := by decide +kernel
theorem dX0_stonesBehind_1 : decode cX0_stonesBehind 1 = .ok (.iload_n 2, 1) := by decide +kernel
theorem dX0_stonesBehind_2 : decode cX0_stonesBehind 2 = .ok (.if_icmp .ne 13, 3) := by decide +kernel
theorem dX0_stonesBehind_5 : decode cX0_stonesBehind 5 = .ok (.aload_n 0, 1) := by decide +kernel
theorem dX0_stonesBehind_6 : decode cX0_stonesBehind 6 = .ok (.iload_n 3, 1) := by decide +kernel
theorem dX0_stonesBehind_7 : decode cX0_stonesBehind 7 = .ok (.invokevirtual 28, 3) := by decide +kernel
theorem dX0_stonesBehind_10 : decode cX0_stonesBehind 10 = .ok (.lconst 1, 1) := by decide +kernel
theorem dX0_stonesBehind_11 : decode cX0_stonesBehind 11 = .ok (.iload_n 1, 1) := by decide +kernel
theorem dX0_stonesBehind_12 : decode cX0_stonesBehind 12 = .ok (.lshl, 1) := by decide +kernel
theorem dX0_stonesBehind_13 : decode cX0_stonesBehind 13 = .ok (.lor, 1) := by decide +kernel
theorem dX0_stonesBehind_14 : decode cX0_stonesBehind 14 = .ok (.lreturn, 1) := by decide +kernel
theorem dX0_stonesBehind_15 : decode cX0_stonesBehind 15 = .ok (.aload_n 0, 1) := by decide +kernel
theorem dX0_stonesBehind_16 : decode cX0_stonesBehind 16 = .ok (.iload_n 3, 1) := by decide +kernel
theorem dX0_stonesBehind_17 : decode cX0_stonesBehind 17 = .ok (.invokevirtual 28, 3) := by decide +kernel
theorem dX0_stonesBehind_20 : decode cX0_stonesBehind 20 = .ok (.aload_n 0, 1) := by decide +kernel
theorem dX0_stonesBehind_21 : decode cX0_stonesBehind 21 = .ok (.iload_n 1, 1) := by decide +kernel
theorem dX0_stonesBehind_22 : decode cX0_stonesBehind 22 = .ok (.iload_n 2, 1) := by decide +kernel
theorem dX0_stonesBehind_23 : decode cX0_stonesBehind 23 = .ok (.invokevirtual 61, 3) := by decide +kernel
theorem dX0_stonesBehind_26 : decode cX0_stonesBehind 26 = .ok (.ldc2_w 53, 3) := by decide +kernel
theorem dX0_stonesBehind_29 : decode cX0_stonesBehind 29 = .ok (.lxor, 1) := by decide +kernel
theorem dX0_stonesBehind_30 : decode cX0_stonesBehind 30 = .ok (.land, 1) := by decide +kernel
theorem dX0_stonesBehind_31 : decode cX0_stonesBehind 31 = .ok (.lreturn, 1) := by decide +kernel
theorem dX0_poolAt_0 : decode cX0_poolAt 0 = .ok (.aload_n 0, 1) := by decide +kernel
theorem dX0_poolAt_1 : decode cX0_poolAt 1 = .ok (.iload_n 1, 1) := by decide +kernel
theorem dX0_poolAt_2 : decode cX0_poolAt 2 = .ok (.invokevirtual 38, 3) := by decide +kernel
theorem dX0_poolAt_5 : decode cX0_poolAt 5 = .ok (.ifCond .eq 7, 3) := by decide +kernel
theorem dX0_poolAt_8 : decode cX0_poolAt 8 = .ok (.lconst 0, 1) := by decide +kernel
theorem dX0_poolAt_9 : decode cX0_poolAt 9 = .ok (.goto 17, 3) := by decide +kernel
theorem dX0_poolAt_12 : decode cX0_poolAt 12 = .ok (.aload_n 0, 1) := by decide +kernel
theorem dX0_poolAt_13 : decode cX0_poolAt 13 = .ok (.getfield 9, 3) := by decide +kernel
theorem dX0_poolAt_16 : decode cX0_poolAt 16 = .ok (.lconst 1, 1) := by decide +kernel
theorem dX0_poolAt_17 : decode cX0_poolAt 17 = .ok (.iload_n 1, 1) := by decide +kernel
theorem dX0_poolAt_18 : decode cX0_poolAt 18 = .ok (.lshl, 1) := by decide +kernel
theorem dX0_poolAt_19 : decode cX0_poolAt 19 = .ok (.aload_n 0, 1) := by decide +kernel
theorem dX0_poolAt_20 : decode cX0_poolAt 20 = .ok (.invokevirtual 68, 3) := by decide +kernel
theorem dX0_poolAt_23 : decode cX0_poolAt 23 = .ok (.invokevirtual 42, 3) := by decide +kernel
theorem dX0_poolAt_26 : decode cX0_poolAt 26 = .ok (.lreturn, 1) := by decide +kernel
theorem dX0_ownersOf_0 : decode cX0_ownersOf 0 = .ok (.aload_n 0, 1) := by decide +kernel
theorem dX0_ownersOf_1 : decode cX0_ownersOf 1 = .ok (.getfield 9, 3) := by decide +kernel
theorem dX0_ownersOf_4 : decode cX0_ownersOf 4 = .ok (.lload_n 1, 1) := by decide +kernel
theorem dX0_ownersOf_5 : decode cX0_ownersOf 5 = .ok (.invokevirtual 72, 3) := by decide +kernel
theorem dX0_ownersOf_8 : decode cX0_ownersOf 8 = .ok (.lstore_n 3, 1) := by decide +kernel
theorem dX0_ownersOf_9 : decode cX0_ownersOf 9 = .ok (.lload_n 3, 1) := by decide +kernel
theorem dX0_ownersOf_10 : decode cX0_ownersOf 10 = .ok (.aload_n 0, 1) := by decide +kernel
theorem dX0_ownersOf_11 : decode cX0_ownersOf 11 = .ok (.getfield 15, 3) := by decide +kernel
theorem dX0_ownersOf_14 : decode cX0_ownersOf 14 = .ok (.land, 1) := by decide +kernel
theorem dX0_ownersOf_15 : decode cX0_ownersOf 15 = .ok (.lconst 0, 1) := by decide +kernel
theorem dX0_ownersOf_16 : decode cX0_ownersOf 16 = .ok (.lcmp, 1) := by decide +kernel
theorem dX0_ownersOf_17 : decode cX0_ownersOf 17 = .ok (.ifCond .eq 7, 3) := by decide +kernel
theorem dX0_ownersOf_20 : decode cX0_ownersOf 20 = .ok (.iconst 1, 1) := by decide +kernel
theorem dX0_ownersOf_21 : decode cX0_ownersOf 21 = .ok (.goto 4, 3) := by decide +kernel
theorem dX0_ownersOf_24 : decode cX0_ownersOf 24 = .ok (.iconst 0, 1) := by decide +kernel
theorem dX0_ownersOf_25 : decode cX0_ownersOf 25 = .ok (.lload_n 3, 1) := by decide +kernel
theorem dX0_ownersOf_26 : decode cX0_ownersOf 26 = .ok (.aload_n 0, 1) := by decide +kernel
theorem dX0_ownersOf_27 : decode cX0_ownersOf 27 = .ok (.getfield 19, 3) := by decide +kernel
theorem dX0_ownersOf_30 : decode cX0_ownersOf 30 = .ok (.land, 1) := by decide +kernel
theorem dX0_ownersOf_31 : decode cX0_ownersOf 31 = .ok (.lconst 0, 1) := by decide +kernel
theorem dX0_ownersOf_32 : decode cX0_ownersOf 32 = .ok (.lcmp, 1) := by decide +kernel
theorem dX0_ownersOf_33 : decode cX0_ownersOf 33 = .ok (.ifCond .eq 7, 3) := by decide +kernel
theorem dX0_ownersOf_36 : decode cX0_ownersOf 36 = .ok (.iconst 2, 1) := by decide +kernel
theorem dX0_ownersOf_37 : decode cX0_ownersOf 37 = .ok (.goto 4, 3) := by decide +kernel
theorem dX0_ownersOf_40 : decode cX0_ownersOf 40 = .ok (.iconst 0, 1) := by decide +kernel
theorem dX0_ownersOf_41 : decode cX0_ownersOf 41 = .ok (.ior, 1) := by decide +kernel
theorem dX0_ownersOf_42 : decode cX0_ownersOf 42 = .ok (.ireturn, 1) := by decide +kernel
theorem dX0_emptyPlacesNear_0 : decode cX0_emptyPlacesNear 0 = .ok (.aload_n 0, 1) := by decide +kernel
theorem dX0_emptyPlacesNear_1 : decode cX0_emptyPlacesNear 1 = .ok (.invokevirtual 68, 3) := by decide +kernel
theorem dX0_emptyPlacesNear_4 : decode cX0_emptyPlacesNear 4 = .ok (.lstore_n 3, 1) := by decide +kernel
theorem dX0_emptyPlacesNear_5 : decode cX0_emptyPlacesNear 5 = .ok (.aload_n 0, 1) := by decide +kernel
theorem dX0_emptyPlacesNear_6 : decode cX0_emptyPlacesNear 6 = .ok (.getfield 9, 3) := by decide +kernel
theorem dX0_emptyPlacesNear_9 : decode cX0_emptyPlacesNear 9 = .ok (.lload_n 3, 1) := by decide +kernel
theorem dX0_emptyPlacesNear_10 : decode cX0_emptyPlacesNear 10 = .ok (.aload_n 0, 1) := by decide +kernel
theorem dX0_emptyPlacesNear_11 : decode cX0_emptyPlacesNear 11 = .ok (.getfield 9, 3) := by decide +kernel
theorem dX0_emptyPlacesNear_14 : decode cX0_emptyPlacesNear 14 = .ok (.lload_n 1, 1) := by decide +kernel
theorem dX0_emptyPlacesNear_15 : decode cX0_emptyPlacesNear 15 = .ok (.invokevirtual 72, 3) := by decide +kernel
theorem dX0_emptyPlacesNear_18 : decode cX0_emptyPlacesNear 18 = .ok (.land, 1) := by decide +kernel
theorem dX0_emptyPlacesNear_19 : decode cX0_emptyPlacesNear 19 = .ok (.lload_n 3, 1) := by decide +kernel
theorem dX0_emptyPlacesNear_20 : decode cX0_emptyPlacesNear 20 = .ok (.invokevirtual 42, 3) := by decide +kernel
theorem dX0_emptyPlacesNear_23 : decode cX0_emptyPlacesNear 23 = .ok (.lreturn, 1) := by decide +kernel
theorem dX0_emptyPlacesOwnedBy_0 : decode cX0_emptyPlacesOwnedBy 0 = .ok (.aload_n 0, 1) := by decide +kernel
theorem dX0_emptyPlacesOwnedBy_1 : decode cX0_emptyPlacesOwnedBy 1 = .ok (.aload_n 0, 1) := by decide +kernel
theorem dX0_emptyPlacesOwnedBy_2 : decode cX0_emptyPlacesOwnedBy 2 = .ok (.getfield 15, 3) := by decide +kernel
theorem dX0_emptyPlacesOwnedBy_5 : decode cX0_emptyPlacesOwnedBy 5 = .ok (.invokevirtual 75, 3) := by decide +kernel
theorem dX0_emptyPlacesOwnedBy_8 : decode cX0_emptyPlacesOwnedBy 8 = .ok (.lstore_n 2, 1) := by decide +kernel
theorem dX0_emptyPlacesOwnedBy_9 : decode cX0_emptyPlacesOwnedBy 9 = .ok (.aload_n 0, 1) := by decide +kernel
theorem dX0_emptyPlacesOwnedBy_10 : decode cX0_emptyPlacesOwnedBy 10 = .ok (.aload_n 0, 1) := by decide +kernel
theorem dX0_emptyPlacesOwnedBy_11 : decode cX0_emptyPlacesOwnedBy 11 = .ok (.getfield 19, 3) := by decide +kernel
theorem dX0_emptyPlacesOwnedBy_14 : decode cX0_emptyPlacesOwnedBy 14 = .ok (.invokevirtual 75, 3) := by decide +kernel
theorem dX0_emptyPlacesOwnedBy_17 : decode cX0_emptyPlacesOwnedBy 17 = .ok (.lstore 4, 2) := by decide +kernel
theorem dX0_emptyPlacesOwnedBy_19 : decode cX0_emptyPlacesOwnedBy 19 = .ok (.iload_n 1, 1) := by decide +kernel
theorem dX0_emptyPlacesOwnedBy_20 : decode cX0_emptyPlacesOwnedBy 20 = .ok (.iconst 1, 1) := by decide +kernel
theorem dX0_emptyPlacesOwnedBy_21 : decode cX0_emptyPlacesOwnedBy 21 = .ok (.iand, 1) := by decide +kernel
theorem dX0_emptyPlacesOwnedBy_22 : decode cX0_emptyPlacesOwnedBy 22 = .ok (.ifCond .eq 7, 3) := by decide +kernel
theorem dX0_emptyPlacesOwnedBy_25 : decode cX0_emptyPlacesOwnedBy 25 = .ok (.lload_n 2, 1) := by decide +kernel
theorem dX0_emptyPlacesOwnedBy_26 : decode cX0_emptyPlacesOwnedBy 26 = .ok (.goto 8, 3) := by decide +kernel
theorem dX0_emptyPlacesOwnedBy_29 : decode cX0_emptyPlacesOwnedBy 29 = .ok (.lload_n 2, 1) := by decide +kernel
theorem dX0_emptyPlacesOwnedBy_30 : decode cX0_emptyPlacesOwnedBy 30 = .ok (.ldc2_w 53, 3) := by decide +kernel
theorem dX0_emptyPlacesOwnedBy_33 : decode cX0_emptyPlacesOwnedBy 33 = .ok (.lxor, 1) := by decide +kernel
theorem dX0_emptyPlacesOwnedBy_34 : decode cX0_emptyPlacesOwnedBy 34 = .ok (.lstore 6, 2) := by decide +kernel
theorem dX0_emptyPlacesOwnedBy_36 : decode cX0_emptyPlacesOwnedBy 36 = .ok (.iload_n 1, 1) := by decide +kernel
theorem dX0_emptyPlacesOwnedBy_37 : decode cX0_emptyPlacesOwnedBy 37 = .ok (.iconst 2, 1) := by decide +kernel
theorem dX0_emptyPlacesOwnedBy_38 : decode cX0_emptyPlacesOwnedBy 38 = .ok (.iand, 1) := by decide +kernel
theorem dX0_emptyPlacesOwnedBy_39 : decode cX0_emptyPlacesOwnedBy 39 = .ok (.ifCond .eq 8, 3) := by decide +kernel
theorem dX0_emptyPlacesOwnedBy_42 : decode cX0_emptyPlacesOwnedBy 42 = .ok (.lload 4, 2) := by decide +kernel
theorem dX0_emptyPlacesOwnedBy_44 : decode cX0_emptyPlacesOwnedBy 44 = .ok (.goto 9, 3) := by decide +kernel
theorem dX0_emptyPlacesOwnedBy_47 : decode cX0_emptyPlacesOwnedBy 47 = .ok (.lload 4, 2) := by decide +kernel
theorem dX0_emptyPlacesOwnedBy_49 : decode cX0_emptyPlacesOwnedBy 49 = .ok (.ldc2_w 53, 3) := by decide +kernel
theorem dX0_emptyPlacesOwnedBy_52 : decode cX0_emptyPlacesOwnedBy 52 = .ok (.lxor, 1) := by decide +kernel
theorem dX0_emptyPlacesOwnedBy_53 : decode cX0_emptyPlacesOwnedBy 53 = .ok (.lstore 8, 2) := by decide +kernel
theorem dX0_emptyPlacesOwnedBy_55 : decode cX0_emptyPlacesOwnedBy 55 = .ok (.aload_n 0, 1) := by decide +kernel
theorem dX0_emptyPlacesOwnedBy_56 : decode cX0_emptyPlacesOwnedBy 56 = .ok (.invokevirtual 68, 3) := by decide +kernel
theorem dX0_emptyPlacesOwnedBy_59 : decode cX0_emptyPlacesOwnedBy 59 = .ok (.lload 6, 2) := by decide +kernel
theorem dX0_emptyPlacesOwnedBy_61 : decode cX0_emptyPlacesOwnedBy 61 = .ok (.land, 1) := by decide +kernel
theorem dX0_emptyPlacesOwnedBy_62 : decode cX0_emptyPlacesOwnedBy 62 = .ok (.lload 8, 2) := by decide +kernel
theorem dX0_emptyPlacesOwnedBy_64 : decode cX0_emptyPlacesOwnedBy 64 = .ok (.land, 1) := by decide +kernel
theorem dX0_emptyPlacesOwnedBy_65 : decode cX0_emptyPlacesOwnedBy 65 = .ok (.lreturn, 1) := by decide +kernel
theorem dX0_chainsBeside_0 : decode cX0_chainsBeside 0 = .ok (.aload_n 0, 1) := by decide +kernel
theorem dX0_chainsBeside_1 : decode cX0_chainsBeside 1 = .ok (.iload_n 3, 1) := by decide +kernel
theorem dX0_chainsBeside_2 : decode cX0_chainsBeside 2 = .ok (.invokevirtual 28, 3) := by decide +kernel
theorem dX0_chainsBeside_5 : decode cX0_chainsBeside 5 = .ok (.lstore 4, 2) := by decide +kernel
theorem dX0_chainsBeside_7 : decode cX0_chainsBeside 7 = .ok (.aload_n 0, 1) := by decide +kernel
theorem dX0_chainsBeside_8 : decode cX0_chainsBeside 8 = .ok (.getfield 9, 3) := by decide +kernel
theorem dX0_chainsBeside_11 : decode cX0_chainsBeside 11 = .ok (.aload_n 0, 1) := by decide +kernel
theorem dX0_chainsBeside_12 : decode cX0_chainsBeside 12 = .ok (.getfield 9, 3) := by decide +kernel
theorem dX0_chainsBeside_15 : decode cX0_chainsBeside 15 = .ok (.lload_n 1, 1) := by decide +kernel
theorem dX0_chainsBeside_16 : decode cX0_chainsBeside 16 = .ok (.invokevirtual 72, 3) := by decide +kernel
theorem dX0_chainsBeside_19 : decode cX0_chainsBeside 19 = .ok (.lload 4, 2) := by decide +kernel
theorem dX0_chainsBeside_21 : decode cX0_chainsBeside 21 = .ok (.land, 1) := by decide +kernel
theorem dX0_chainsBeside_22 : decode cX0_chainsBeside 22 = .ok (.lload 4, 2) := by decide +kernel
theorem dX0_chainsBeside_24 : decode cX0_chainsBeside 24 = .ok (.invokevirtual 78, 3) := by decide +kernel
theorem dX0_chainsBeside_27 : decode cX0_chainsBeside 27 = .ok (.ireturn, 1) := by decide +kernel
theorem dX0_ownsTogether_0 : decode cX0_ownsTogether 0 = .ok (.aload_n 0, 1) := by decide +kernel
theorem dX0_ownsTogether_1 : decode cX0_ownsTogether 1 = .ok (.lload_n 1, 1) := by decide +kernel
theorem dX0_ownsTogether_2 : decode cX0_ownsTogether 2 = .ok (.invokevirtual 82, 3) := by decide +kernel
theorem dX0_ownsTogether_5 : decode cX0_ownsTogether 5 = .ok (.istore_n 3, 1) := by decide +kernel
theorem dX0_ownsTogether_6 : decode cX0_ownsTogether 6 = .ok (.iload_n 3, 1) := by decide +kernel
theorem dX0_ownsTogether_7 : decode cX0_ownsTogether 7 = .ok (.iconst 1, 1) := by decide +kernel
theorem dX0_ownsTogether_8 : decode cX0_ownsTogether 8 = .ok (.if_icmp .eq 8, 3) := by decide +kernel
theorem dX0_ownsTogether_11 : decode cX0_ownsTogether 11 = .ok (.iload_n 3, 1) := by decide +kernel
theorem dX0_ownsTogether_12 : decode cX0_ownsTogether 12 = .ok (.iconst 2, 1) := by decide +kernel
theorem dX0_ownsTogether_13 : decode cX0_ownsTogether 13 = .ok (.if_icmp .ne 17, 3) := by decide +kernel
theorem dX0_ownsTogether_16 : decode cX0_ownsTogether 16 = .ok (.aload_n 0, 1) := by decide +kernel
theorem dX0_ownsTogether_17 : decode cX0_ownsTogether 17 = .ok (.lload_n 1, 1) := by decide +kernel
theorem dX0_ownsTogether_18 : decode cX0_ownsTogether 18 = .ok (.iload_n 3, 1) := by decide +kernel
theorem dX0_ownsTogether_19 : decode cX0_ownsTogether 19 = .ok (.invokevirtual 85, 3) := by decide +kernel
theorem dX0_ownsTogether_22 : decode cX0_ownsTogether 22 = .ok (.iconst 1, 1) := by decide +kernel
theorem dX0_ownsTogether_23 : decode cX0_ownsTogether 23 = .ok (.if_icmp .le 7, 3) := by decide +kernel
theorem dX0_ownsTogether_26 : decode cX0_ownsTogether 26 = .ok (.iconst 1, 1) := by decide +kernel
theorem dX0_ownsTogether_27 : decode cX0_ownsTogether 27 = .ok (.goto 4, 3) := by decide +kernel
theorem dX0_ownsTogether_30 : decode cX0_ownsTogether 30 = .ok (.iconst 0, 1) := by decide +kernel
theorem dX0_ownsTogether_31 : decode cX0_ownsTogether 31 = .ok (.ireturn, 1) := by decide +kernel
theorem dX0_keepsBothOut_0 : decode cX0_keepsBothOut 0 = .ok (.aload_n 0, 1) := by decide +kernel
theorem dX0_keepsBothOut_1 : decode cX0_keepsBothOut 1 = .ok (.lload_n 1, 1) := by decide +kernel
theorem dX0_keepsBothOut_2 : decode cX0_keepsBothOut 2 = .ok (.invokevirtual 82, 3) := by decide +kernel
theorem dX0_keepsBothOut_5 : decode cX0_keepsBothOut 5 = .ok (.iconst 3, 1) := by decide +kernel
theorem dX0_keepsBothOut_6 : decode cX0_keepsBothOut 6 = .ok (.if_icmp .eq 5, 3) := by decide +kernel
theorem dX0_keepsBothOut_9 : decode cX0_keepsBothOut 9 = .ok (.iconst 0, 1) := by decide +kernel
theorem dX0_keepsBothOut_10 : decode cX0_keepsBothOut 10 = .ok (.ireturn, 1) := by decide +kernel
theorem dX0_keepsBothOut_11 : decode cX0_keepsBothOut 11 = .ok (.iconst 0, 1) := by decide +kernel
theorem dX0_keepsBothOut_12 : decode cX0_keepsBothOut 12 = .ok (.istore_n 3, 1) := by decide +kernel
theorem dX0_keepsBothOut_13 : decode cX0_keepsBothOut 13 = .ok (.iload_n 3, 1) := by decide +kernel
theorem dX0_keepsBothOut_14 : decode cX0_keepsBothOut 14 = .ok (.aload_n 0, 1) := by decide +kernel
theorem dX0_keepsBothOut_15 : decode cX0_keepsBothOut 15 = .ok (.getfield 9, 3) := by decide +kernel
theorem dX0_keepsBothOut_18 : decode cX0_keepsBothOut 18 = .ok (.getfield 49, 3) := by decide +kernel
theorem dX0_keepsBothOut_21 : decode cX0_keepsBothOut 21 = .ok (.if_icmp .ge 55, 3) := by decide +kernel
theorem dX0_keepsBothOut_24 : decode cX0_keepsBothOut 24 = .ok (.lload_n 1, 1) := by decide +kernel
theorem dX0_keepsBothOut_25 : decode cX0_keepsBothOut 25 = .ok (.lconst 1, 1) := by decide +kernel
theorem dX0_keepsBothOut_26 : decode cX0_keepsBothOut 26 = .ok (.iload_n 3, 1) := by decide +kernel
theorem dX0_keepsBothOut_27 : decode cX0_keepsBothOut 27 = .ok (.lshl, 1) := by decide +kernel
theorem dX0_keepsBothOut_28 : decode cX0_keepsBothOut 28 = .ok (.land, 1) := by decide +kernel
theorem dX0_keepsBothOut_29 : decode cX0_keepsBothOut 29 = .ok (.lconst 0, 1) := by decide +kernel
theorem dX0_keepsBothOut_30 : decode cX0_keepsBothOut 30 = .ok (.lcmp, 1) := by decide +kernel
theorem dX0_keepsBothOut_31 : decode cX0_keepsBothOut 31 = .ok (.ifCond .eq 39, 3) := by decide +kernel
theorem dX0_keepsBothOut_34 : decode cX0_keepsBothOut 34 = .ok (.aload_n 0, 1) := by decide +kernel
theorem dX0_keepsBothOut_35 : decode cX0_keepsBothOut 35 = .ok (.iload_n 3, 1) := by decide +kernel
theorem dX0_keepsBothOut_36 : decode cX0_keepsBothOut 36 = .ok (.iconst 1, 1) := by decide +kernel
theorem dX0_keepsBothOut_37 : decode cX0_keepsBothOut 37 = .ok (.invokevirtual 89, 3) := by decide +kernel
theorem dX0_keepsBothOut_40 : decode cX0_keepsBothOut 40 = .ok (.invokestatic 32, 3) := by decide +kernel
theorem dX0_keepsBothOut_43 : decode cX0_keepsBothOut 43 = .ok (.istore 4, 2) := by decide +kernel
theorem dX0_keepsBothOut_45 : decode cX0_keepsBothOut 45 = .ok (.aload_n 0, 1) := by decide +kernel
theorem dX0_keepsBothOut_46 : decode cX0_keepsBothOut 46 = .ok (.iload_n 3, 1) := by decide +kernel
theorem dX0_keepsBothOut_47 : decode cX0_keepsBothOut 47 = .ok (.iconst 2, 1) := by decide +kernel
theorem dX0_keepsBothOut_48 : decode cX0_keepsBothOut 48 = .ok (.invokevirtual 89, 3) := by decide +kernel
theorem dX0_keepsBothOut_51 : decode cX0_keepsBothOut 51 = .ok (.invokestatic 32, 3) := by decide +kernel
theorem dX0_keepsBothOut_54 : decode cX0_keepsBothOut 54 = .ok (.istore 5, 2) := by decide +kernel
theorem dX0_keepsBothOut_56 : decode cX0_keepsBothOut 56 = .ok (.iload 4, 2) := by decide +kernel
theorem dX0_keepsBothOut_58 : decode cX0_keepsBothOut 58 = .ok (.iconst 1, 1) := by decide +kernel
theorem dX0_keepsBothOut_59 : decode cX0_keepsBothOut 59 = .ok (.if_icmp .gt 9, 3) := by decide +kernel
theorem dX0_keepsBothOut_62 : decode cX0_keepsBothOut 62 = .ok (.iload 5, 2) := by decide +kernel
theorem dX0_keepsBothOut_64 : decode cX0_keepsBothOut 64 = .ok (.iconst 1, 1) := by decide +kernel
theorem dX0_keepsBothOut_65 : decode cX0_keepsBothOut 65 = .ok (.if_icmp .le 5, 3) := by decide +kernel
theorem dX0_keepsBothOut_68 : decode cX0_keepsBothOut 68 = .ok (.iconst 0, 1) := by decide +kernel
theorem dX0_keepsBothOut_69 : decode cX0_keepsBothOut 69 = .ok (.ireturn, 1) := by decide +kernel
theorem dX0_keepsBothOut_70 : decode cX0_keepsBothOut 70 = .ok (.iinc 3 1, 3) := by decide +kernel
theorem dX0_keepsBothOut_73 : decode cX0_keepsBothOut 73 = .ok (.goto (-60), 3) := by decide +kernel
theorem dX0_keepsBothOut_76 : decode cX0_keepsBothOut 76 = .ok (.iconst 1, 1) := by decide +kernel
theorem dX0_keepsBothOut_77 : decode cX0_keepsBothOut 77 = .ok (.ireturn, 1) := by decide +kernel
theorem dX0_vitalRegions_0 : decode cX0_vitalRegions 0 = .ok (.aload_n 0, 1) := by decide +kernel
theorem dX0_vitalRegions_1 : decode cX0_vitalRegions 1 = .ok (.lload_n 1, 1) := by decide +kernel
theorem dX0_vitalRegions_2 : decode cX0_vitalRegions 2 = .ok (.invokevirtual 55, 3) := by decide +kernel
theorem dX0_vitalRegions_5 : decode cX0_vitalRegions 5 = .ok (.lstore 5, 2) := by decide +kernel
theorem dX0_vitalRegions_7 : decode cX0_vitalRegions 7 = .ok (.aload_n 0, 1) := by decide +kernel
theorem dX0_vitalRegions_8 : decode cX0_vitalRegions 8 = .ok (.getfield 9, 3) := by decide +kernel
theorem dX0_vitalRegions_11 : decode cX0_vitalRegions 11 = .ok (.lload_n 3, 1) := by decide +kernel
theorem dX0_vitalRegions_12 : decode cX0_vitalRegions 12 = .ok (.aload_n 0, 1) := by decide +kernel
theorem dX0_vitalRegions_13 : decode cX0_vitalRegions 13 = .ok (.invokevirtual 68, 3) := by decide +kernel
theorem dX0_vitalRegions_16 : decode cX0_vitalRegions 16 = .ok (.land, 1) := by decide +kernel
theorem dX0_vitalRegions_17 : decode cX0_vitalRegions 17 = .ok (.lload 5, 2) := by decide +kernel
theorem dX0_vitalRegions_19 : decode cX0_vitalRegions 19 = .ok (.ldc2_w 53, 3) := by decide +kernel
theorem dX0_vitalRegions_22 : decode cX0_vitalRegions 22 = .ok (.lxor, 1) := by decide +kernel
theorem dX0_vitalRegions_23 : decode cX0_vitalRegions 23 = .ok (.land, 1) := by decide +kernel
theorem dX0_vitalRegions_24 : decode cX0_vitalRegions 24 = .ok (.lload_n 3, 1) := by decide +kernel
theorem dX0_vitalRegions_25 : decode cX0_vitalRegions 25 = .ok (.invokevirtual 42, 3) := by decide +kernel
theorem dX0_vitalRegions_28 : decode cX0_vitalRegions 28 = .ok (.lstore 7, 2) := by decide +kernel
theorem dX0_vitalRegions_30 : decode cX0_vitalRegions 30 = .ok (.aload_n 0, 1) := by decide +kernel
theorem dX0_vitalRegions_31 : decode cX0_vitalRegions 31 = .ok (.getfield 9, 3) := by decide +kernel
theorem dX0_vitalRegions_34 : decode cX0_vitalRegions 34 = .ok (.lload_n 3, 1) := by decide +kernel
theorem dX0_vitalRegions_35 : decode cX0_vitalRegions 35 = .ok (.lload 5, 2) := by decide +kernel
theorem dX0_vitalRegions_37 : decode cX0_vitalRegions 37 = .ok (.land, 1) := by decide +kernel
theorem dX0_vitalRegions_38 : decode cX0_vitalRegions 38 = .ok (.lload 7, 2) := by decide +kernel
theorem dX0_vitalRegions_40 : decode cX0_vitalRegions 40 = .ok (.ldc2_w 53, 3) := by decide +kernel
theorem dX0_vitalRegions_43 : decode cX0_vitalRegions 43 = .ok (.lxor, 1) := by decide +kernel
theorem dX0_vitalRegions_44 : decode cX0_vitalRegions 44 = .ok (.land, 1) := by decide +kernel
theorem dX0_vitalRegions_45 : decode cX0_vitalRegions 45 = .ok (.lload_n 3, 1) := by decide +kernel
theorem dX0_vitalRegions_46 : decode cX0_vitalRegions 46 = .ok (.invokevirtual 78, 3) := by decide +kernel
theorem dX0_vitalRegions_49 : decode cX0_vitalRegions 49 = .ok (.ireturn, 1) := by decide +kernel
theorem dX0_livingStones_0 : decode cX0_livingStones 0 = .ok (.aload_n 0, 1) := by decide +kernel
theorem dX0_livingStones_1 : decode cX0_livingStones 1 = .ok (.iload_n 1, 1) := by decide +kernel
theorem dX0_livingStones_2 : decode cX0_livingStones 2 = .ok (.invokevirtual 28, 3) := by decide +kernel
theorem dX0_livingStones_5 : decode cX0_livingStones 5 = .ok (.lstore_n 2, 1) := by decide +kernel
theorem dX0_livingStones_6 : decode cX0_livingStones 6 = .ok (.aload_n 0, 1) := by decide +kernel
theorem dX0_livingStones_7 : decode cX0_livingStones 7 = .ok (.iload_n 1, 1) := by decide +kernel
theorem dX0_livingStones_8 : decode cX0_livingStones 8 = .ok (.invokevirtual 92, 3) := by decide +kernel
theorem dX0_livingStones_11 : decode cX0_livingStones 11 = .ok (.lstore 4, 2) := by decide +kernel
theorem dX0_livingStones_13 : decode cX0_livingStones 13 = .ok (.iconst 0, 1) := by decide +kernel
theorem dX0_livingStones_14 : decode cX0_livingStones 14 = .ok (.istore 6, 2) := by decide +kernel
theorem dX0_livingStones_16 : decode cX0_livingStones 16 = .ok (.iload 6, 2) := by decide +kernel
theorem dX0_livingStones_18 : decode cX0_livingStones 18 = .ok (.aload_n 0, 1) := by decide +kernel
theorem dX0_livingStones_19 : decode cX0_livingStones 19 = .ok (.getfield 9, 3) := by decide +kernel
theorem dX0_livingStones_22 : decode cX0_livingStones 22 = .ok (.getfield 49, 3) := by decide +kernel
theorem dX0_livingStones_25 : decode cX0_livingStones 25 = .ok (.if_icmp .ge 66, 3) := by decide +kernel
theorem dX0_livingStones_28 : decode cX0_livingStones 28 = .ok (.aload_n 0, 1) := by decide +kernel
theorem dX0_livingStones_29 : decode cX0_livingStones 29 = .ok (.lload_n 2, 1) := by decide +kernel
theorem dX0_livingStones_30 : decode cX0_livingStones 30 = .ok (.lload 4, 2) := by decide +kernel
theorem dX0_livingStones_32 : decode cX0_livingStones 32 = .ok (.invokevirtual 95, 3) := by decide +kernel
theorem dX0_livingStones_35 : decode cX0_livingStones 35 = .ok (.lstore 7, 2) := by decide +kernel
theorem dX0_livingStones_37 : decode cX0_livingStones 37 = .ok (.lload 7, 2) := by decide +kernel
theorem dX0_livingStones_39 : decode cX0_livingStones 39 = .ok (.lconst 0, 1) := by decide +kernel
theorem dX0_livingStones_40 : decode cX0_livingStones 40 = .ok (.lcmp, 1) := by decide +kernel
theorem dX0_livingStones_41 : decode cX0_livingStones 41 = .ok (.ifCond .ne 5, 3) := by decide +kernel
theorem dX0_livingStones_44 : decode cX0_livingStones 44 = .ok (.lload_n 2, 1) := by decide +kernel
theorem dX0_livingStones_45 : decode cX0_livingStones 45 = .ok (.lreturn, 1) := by decide +kernel
theorem dX0_livingStones_46 : decode cX0_livingStones 46 = .ok (.lload_n 2, 1) := by decide +kernel
theorem dX0_livingStones_47 : decode cX0_livingStones 47 = .ok (.lload 7, 2) := by decide +kernel
theorem dX0_livingStones_49 : decode cX0_livingStones 49 = .ok (.ldc2_w 53, 3) := by decide +kernel
theorem dX0_livingStones_52 : decode cX0_livingStones 52 = .ok (.lxor, 1) := by decide +kernel
theorem dX0_livingStones_53 : decode cX0_livingStones 53 = .ok (.land, 1) := by decide +kernel
theorem dX0_livingStones_54 : decode cX0_livingStones 54 = .ok (.lstore_n 2, 1) := by decide +kernel
theorem dX0_livingStones_55 : decode cX0_livingStones 55 = .ok (.lload 4, 2) := by decide +kernel
theorem dX0_livingStones_57 : decode cX0_livingStones 57 = .ok (.aload_n 0, 1) := by decide +kernel
theorem dX0_livingStones_58 : decode cX0_livingStones 58 = .ok (.getfield 9, 3) := by decide +kernel
theorem dX0_livingStones_61 : decode cX0_livingStones 61 = .ok (.lload 4, 2) := by decide +kernel
theorem dX0_livingStones_63 : decode cX0_livingStones 63 = .ok (.aload_n 0, 1) := by decide +kernel
theorem dX0_livingStones_64 : decode cX0_livingStones 64 = .ok (.getfield 9, 3) := by decide +kernel
theorem dX0_livingStones_67 : decode cX0_livingStones 67 = .ok (.lload 7, 2) := by decide +kernel
theorem dX0_livingStones_69 : decode cX0_livingStones 69 = .ok (.invokevirtual 72, 3) := by decide +kernel
theorem dX0_livingStones_72 : decode cX0_livingStones 72 = .ok (.land, 1) := by decide +kernel
theorem dX0_livingStones_73 : decode cX0_livingStones 73 = .ok (.lload 4, 2) := by decide +kernel
theorem dX0_livingStones_75 : decode cX0_livingStones 75 = .ok (.invokevirtual 42, 3) := by decide +kernel
theorem dX0_livingStones_78 : decode cX0_livingStones 78 = .ok (.ldc2_w 53, 3) := by decide +kernel
theorem dX0_livingStones_81 : decode cX0_livingStones 81 = .ok (.lxor, 1) := by decide +kernel
theorem dX0_livingStones_82 : decode cX0_livingStones 82 = .ok (.land, 1) := by decide +kernel
theorem dX0_livingStones_83 : decode cX0_livingStones 83 = .ok (.lstore 4, 2) := by decide +kernel
theorem dX0_livingStones_85 : decode cX0_livingStones 85 = .ok (.iinc 6 1, 3) := by decide +kernel
theorem dX0_livingStones_88 : decode cX0_livingStones 88 = .ok (.goto (-72), 3) := by decide +kernel
theorem dX0_livingStones_91 : decode cX0_livingStones 91 = .ok (.lload_n 2, 1) := by decide +kernel
theorem dX0_livingStones_92 : decode cX0_livingStones 92 = .ok (.lreturn, 1) := by decide +kernel
theorem dX0_lackingRegions_0 : decode cX0_lackingRegions 0 = .ok (.lload_n 1, 1) := by decide +kernel
theorem dX0_lackingRegions_1 : decode cX0_lackingRegions 1 = .ok (.lstore 5, 2) := by decide +kernel
theorem dX0_lackingRegions_3 : decode cX0_lackingRegions 3 = .ok (.lconst 0, 1) := by decide +kernel
theorem dX0_lackingRegions_4 : decode cX0_lackingRegions 4 = .ok (.lstore 7, 2) := by decide +kernel
theorem dX0_lackingRegions_6 : decode cX0_lackingRegions 6 = .ok (.iconst 0, 1) := by decide +kernel
theorem dX0_lackingRegions_7 : decode cX0_lackingRegions 7 = .ok (.istore 9, 2) := by decide +kernel
theorem dX0_lackingRegions_9 : decode cX0_lackingRegions 9 = .ok (.iload 9, 2) := by decide +kernel
theorem dX0_lackingRegions_11 : decode cX0_lackingRegions 11 = .ok (.aload_n 0, 1) := by decide +kernel
theorem dX0_lackingRegions_12 : decode cX0_lackingRegions 12 = .ok (.getfield 9, 3) := by decide +kernel
theorem dX0_lackingRegions_15 : decode cX0_lackingRegions 15 = .ok (.getfield 49, 3) := by decide +kernel
theorem dX0_lackingRegions_18 : decode cX0_lackingRegions 18 = .ok (.if_icmp .ge 64, 3) := by decide +kernel
theorem dX0_lackingRegions_21 : decode cX0_lackingRegions 21 = .ok (.lload 5, 2) := by decide +kernel
theorem dX0_lackingRegions_23 : decode cX0_lackingRegions 23 = .ok (.lconst 1, 1) := by decide +kernel
theorem dX0_lackingRegions_24 : decode cX0_lackingRegions 24 = .ok (.iload 9, 2) := by decide +kernel
theorem dX0_lackingRegions_26 : decode cX0_lackingRegions 26 = .ok (.lshl, 1) := by decide +kernel
theorem dX0_lackingRegions_27 : decode cX0_lackingRegions 27 = .ok (.land, 1) := by decide +kernel
theorem dX0_lackingRegions_28 : decode cX0_lackingRegions 28 = .ok (.lconst 0, 1) := by decide +kernel
theorem dX0_lackingRegions_29 : decode cX0_lackingRegions 29 = .ok (.lcmp, 1) := by decide +kernel
theorem dX0_lackingRegions_30 : decode cX0_lackingRegions 30 = .ok (.ifCond .eq 46, 3) := by decide +kernel
theorem dX0_lackingRegions_33 : decode cX0_lackingRegions 33 = .ok (.aload_n 0, 1) := by decide +kernel
theorem dX0_lackingRegions_34 : decode cX0_lackingRegions 34 = .ok (.getfield 9, 3) := by decide +kernel
theorem dX0_lackingRegions_37 : decode cX0_lackingRegions 37 = .ok (.lconst 1, 1) := by decide +kernel
theorem dX0_lackingRegions_38 : decode cX0_lackingRegions 38 = .ok (.iload 9, 2) := by decide +kernel
theorem dX0_lackingRegions_40 : decode cX0_lackingRegions 40 = .ok (.lshl, 1) := by decide +kernel
theorem dX0_lackingRegions_41 : decode cX0_lackingRegions 41 = .ok (.lload_n 1, 1) := by decide +kernel
theorem dX0_lackingRegions_42 : decode cX0_lackingRegions 42 = .ok (.invokevirtual 42, 3) := by decide +kernel
theorem dX0_lackingRegions_45 : decode cX0_lackingRegions 45 = .ok (.lstore 10, 2) := by decide +kernel
theorem dX0_lackingRegions_47 : decode cX0_lackingRegions 47 = .ok (.lload 5, 2) := by decide +kernel
theorem dX0_lackingRegions_49 : decode cX0_lackingRegions 49 = .ok (.lload 10, 2) := by decide +kernel
theorem dX0_lackingRegions_51 : decode cX0_lackingRegions 51 = .ok (.ldc2_w 53, 3) := by decide +kernel
theorem dX0_lackingRegions_54 : decode cX0_lackingRegions 54 = .ok (.lxor, 1) := by decide +kernel
theorem dX0_lackingRegions_55 : decode cX0_lackingRegions 55 = .ok (.land, 1) := by decide +kernel
theorem dX0_lackingRegions_56 : decode cX0_lackingRegions 56 = .ok (.lstore 5, 2) := by decide +kernel
theorem dX0_lackingRegions_58 : decode cX0_lackingRegions 58 = .ok (.aload_n 0, 1) := by decide +kernel
theorem dX0_lackingRegions_59 : decode cX0_lackingRegions 59 = .ok (.lload 10, 2) := by decide +kernel
theorem dX0_lackingRegions_61 : decode cX0_lackingRegions 61 = .ok (.lload_n 3, 1) := by decide +kernel
theorem dX0_lackingRegions_62 : decode cX0_lackingRegions 62 = .ok (.invokevirtual 98, 3) := by decide +kernel
theorem dX0_lackingRegions_65 : decode cX0_lackingRegions 65 = .ok (.iconst 2, 1) := by decide +kernel
theorem dX0_lackingRegions_66 : decode cX0_lackingRegions 66 = .ok (.if_icmp .ge 10, 3) := by decide +kernel
theorem dX0_lackingRegions_69 : decode cX0_lackingRegions 69 = .ok (.lload 7, 2) := by decide +kernel
theorem dX0_lackingRegions_71 : decode cX0_lackingRegions 71 = .ok (.lload 10, 2) := by decide +kernel
theorem dX0_lackingRegions_73 : decode cX0_lackingRegions 73 = .ok (.lor, 1) := by decide +kernel
theorem dX0_lackingRegions_74 : decode cX0_lackingRegions 74 = .ok (.lstore 7, 2) := by decide +kernel
theorem dX0_lackingRegions_76 : decode cX0_lackingRegions 76 = .ok (.iinc 9 1, 3) := by decide +kernel
theorem dX0_lackingRegions_79 : decode cX0_lackingRegions 79 = .ok (.goto (-70), 3) := by decide +kernel
theorem dX0_lackingRegions_82 : decode cX0_lackingRegions 82 = .ok (.lload 7, 2) := by decide +kernel
theorem dX0_lackingRegions_84 : decode cX0_lackingRegions 84 = .ok (.lreturn, 1) := by decide +kernel
theorem dX0_areaOf_0 : decode cX0_areaOf 0 = .ok (.aload_n 0, 1) := by decide +kernel
theorem dX0_areaOf_1 : decode cX0_areaOf 1 = .ok (.iload_n 1, 1) := by decide +kernel
theorem dX0_areaOf_2 : decode cX0_areaOf 2 = .ok (.invokevirtual 28, 3) := by decide +kernel
theorem dX0_areaOf_5 : decode cX0_areaOf 5 = .ok (.invokestatic 32, 3) := by decide +kernel
theorem dX0_areaOf_8 : decode cX0_areaOf 8 = .ok (.aload_n 0, 1) := by decide +kernel
theorem dX0_areaOf_9 : decode cX0_areaOf 9 = .ok (.iload_n 1, 1) := by decide +kernel
theorem dX0_areaOf_10 : decode cX0_areaOf 10 = .ok (.invokevirtual 101, 3) := by decide +kernel
theorem dX0_areaOf_13 : decode cX0_areaOf 13 = .ok (.invokestatic 32, 3) := by decide +kernel
theorem dX0_areaOf_16 : decode cX0_areaOf 16 = .ok (.iadd, 1) := by decide +kernel
theorem dX0_areaOf_17 : decode cX0_areaOf 17 = .ok (.ireturn, 1) := by decide +kernel
theorem dX1_init_0 : decode cX1_init 0 = .ok (.aload_n 0, 1) := by decide +kernel
theorem dX1_init_1 : decode cX1_init 1 = .ok (.invokespecial 3, 3) := by decide +kernel
theorem dX1_init_4 : decode cX1_init 4 = .ok (.aload_n 0, 1) := by decide +kernel
theorem dX1_init_5 : decode cX1_init 5 = .ok (.new 9, 3) := by decide +kernel
theorem dX1_init_8 : decode cX1_init 8 = .ok (.dup, 1) := by decide +kernel
theorem dX1_init_9 : decode cX1_init 9 = .ok (.new 11, 3) := by decide +kernel
theorem dX1_init_12 : decode cX1_init 12 = .ok (.dup, 1) := by decide +kernel
theorem dX1_init_13 : decode cX1_init 13 = .ok (.iconst 1, 1) := by decide +kernel
theorem dX1_init_14 : decode cX1_init 14 = .ok (.iconst 3, 1) := by decide +kernel
theorem dX1_init_15 : decode cX1_init 15 = .ok (.invokespecial 13, 3) := by decide +kernel
theorem dX1_init_18 : decode cX1_init 18 = .ok (.invokespecial 16, 3) := by decide +kernel
theorem dX1_init_21 : decode cX1_init 21 = .ok (.putfield 19, 3) := by decide +kernel
theorem dX1_init_24 : decode cX1_init 24 = .ok (.aload_n 0, 1) := by decide +kernel
theorem dX1_init_25 : decode cX1_init 25 = .ok (.new 25, 3) := by decide +kernel
theorem dX1_init_28 : decode cX1_init 28 = .ok (.dup, 1) := by decide +kernel
theorem dX1_init_29 : decode cX1_init 29 = .ok (.invokespecial 27, 3) := by decide +kernel
theorem dX1_init_32 : decode cX1_init 32 = .ok (.putfield 28, 3) := by decide +kernel
theorem dX1_init_35 : decode cX1_init 35 = .ok (.aload_n 0, 1) := by decide +kernel
theorem dX1_init_36 : decode cX1_init 36 = .ok (.iconst 1, 1) := by decide +kernel
theorem dX1_init_37 : decode cX1_init 37 = .ok (.putfield 32, 3) := by decide +kernel
theorem dX1_init_40 : decode cX1_init 40 = .ok (.aload_n 0, 1) := by decide +kernel
theorem dX1_init_41 : decode cX1_init 41 = .ok (.iconst 0, 1) := by decide +kernel
theorem dX1_init_42 : decode cX1_init 42 = .ok (.putfield 36, 3) := by decide +kernel
theorem dX1_init_45 : decode cX1_init 45 = .ok (.aload_n 0, 1) := by decide +kernel
theorem dX1_init_46 : decode cX1_init 46 = .ok (.iconst 0, 1) := by decide +kernel
theorem dX1_init_47 : decode cX1_init 47 = .ok (.putfield 39, 3) := by decide +kernel
theorem dX1_init_50 : decode cX1_init 50 = .ok (.aload_n 0, 1) := by decide +kernel
theorem dX1_init_51 : decode cX1_init 51 = .ok (.aload_n 0, 1) := by decide +kernel
theorem dX1_init_52 : decode cX1_init 52 = .ok (.getfield 19, 3) := by decide +kernel
theorem dX1_init_55 : decode cX1_init 55 = .ok (.getfield 42, 3) := by decide +kernel
theorem dX1_init_58 : decode cX1_init 58 = .ok (.lconst 0, 1) := by decide +kernel
theorem dX1_init_59 : decode cX1_init 59 = .ok (.lconst 0, 1) := by decide +kernel
theorem dX1_init_60 : decode cX1_init 60 = .ok (.invokevirtual 46, 3) := by decide +kernel
theorem dX1_init_63 : decode cX1_init 63 = .ok (.return_, 1) := by decide +kernel
theorem dX1_begin_0 : decode cX1_begin 0 = .ok (.aload_n 0, 1) := by decide +kernel
theorem dX1_begin_1 : decode cX1_begin 1 = .ok (.getfield 19, 3) := by decide +kernel
theorem dX1_begin_4 : decode cX1_begin 4 = .ok (.aload_n 1, 1) := by decide +kernel
theorem dX1_begin_5 : decode cX1_begin 5 = .ok (.putfield 42, 3) := by decide +kernel
theorem dX1_begin_8 : decode cX1_begin 8 = .ok (.aload_n 0, 1) := by decide +kernel
theorem dX1_begin_9 : decode cX1_begin 9 = .ok (.iconst 0, 1) := by decide +kernel
theorem dX1_begin_10 : decode cX1_begin 10 = .ok (.putfield 50, 3) := by decide +kernel
theorem dX1_begin_13 : decode cX1_begin 13 = .ok (.aload_n 0, 1) := by decide +kernel
theorem dX1_begin_14 : decode cX1_begin 14 = .ok (.iconst 0, 1) := by decide +kernel
theorem dX1_begin_15 : decode cX1_begin 15 = .ok (.putfield 53, 3) := by decide +kernel
theorem dX1_begin_18 : decode cX1_begin 18 = .ok (.aload_n 0, 1) := by decide +kernel
theorem dX1_begin_19 : decode cX1_begin 19 = .ok (.iconst 0, 1) := by decide +kernel
theorem dX1_begin_20 : decode cX1_begin 20 = .ok (.putfield 56, 3) := by decide +kernel
theorem dX1_begin_23 : decode cX1_begin 23 = .ok (.aload_n 0, 1) := by decide +kernel
theorem dX1_begin_24 : decode cX1_begin 24 = .ok (.lload_n 2, 1) := by decide +kernel
theorem dX1_begin_25 : decode cX1_begin 25 = .ok (.lload 4, 2) := by decide +kernel
theorem dX1_begin_27 : decode cX1_begin 27 = .ok (.invokevirtual 59, 3) := by decide +kernel
theorem dX1_begin_30 : decode cX1_begin 30 = .ok (.return_, 1) := by decide +kernel
theorem dX1_become_0 : decode cX1_become 0 = .ok (.aload_n 0, 1) := by decide +kernel
theorem dX1_become_1 : decode cX1_become 1 = .ok (.getfield 19, 3) := by decide +kernel
theorem dX1_become_4 : decode cX1_become 4 = .ok (.aload_n 1, 1) := by decide +kernel
theorem dX1_become_5 : decode cX1_become 5 = .ok (.getfield 19, 3) := by decide +kernel
theorem dX1_become_8 : decode cX1_become 8 = .ok (.invokevirtual 63, 3) := by decide +kernel
theorem dX1_become_11 : decode cX1_become 11 = .ok (.aload_n 0, 1) := by decide +kernel
theorem dX1_become_12 : decode cX1_become 12 = .ok (.getfield 28, 3) := by decide +kernel
theorem dX1_become_15 : decode cX1_become 15 = .ok (.aload_n 1, 1) := by decide +kernel
theorem dX1_become_16 : decode cX1_become 16 = .ok (.getfield 28, 3) := by decide +kernel
theorem dX1_become_19 : decode cX1_become 19 = .ok (.invokevirtual 67, 3) := by decide +kernel
theorem dX1_become_22 : decode cX1_become 22 = .ok (.aload_n 0, 1) := by decide +kernel
theorem dX1_become_23 : decode cX1_become 23 = .ok (.aload_n 1, 1) := by decide +kernel
theorem dX1_become_24 : decode cX1_become 24 = .ok (.getfield 32, 3) := by decide +kernel
theorem dX1_become_27 : decode cX1_become 27 = .ok (.putfield 32, 3) := by decide +kernel
theorem dX1_become_30 : decode cX1_become 30 = .ok (.aload_n 0, 1) := by decide +kernel
theorem dX1_become_31 : decode cX1_become 31 = .ok (.aload_n 1, 1) := by decide +kernel
theorem dX1_become_32 : decode cX1_become 32 = .ok (.getfield 50, 3) := by decide +kernel
theorem dX1_become_35 : decode cX1_become 35 = .ok (.putfield 50, 3) := by decide +kernel
theorem dX1_become_38 : decode cX1_become 38 = .ok (.aload_n 0, 1) := by decide +kernel
theorem dX1_become_39 : decode cX1_become 39 = .ok (.aload_n 1, 1) := by decide +kernel
theorem dX1_become_40 : decode cX1_become 40 = .ok (.getfield 70, 3) := by decide +kernel
theorem dX1_become_43 : decode cX1_become 43 = .ok (.putfield 70, 3) := by decide +kernel
theorem dX1_become_46 : decode cX1_become 46 = .ok (.aload_n 0, 1) := by decide +kernel
theorem dX1_become_47 : decode cX1_become 47 = .ok (.aload_n 1, 1) := by decide +kernel
theorem dX1_become_48 : decode cX1_become 48 = .ok (.getfield 53, 3) := by decide +kernel
theorem dX1_become_51 : decode cX1_become 51 = .ok (.putfield 53, 3) := by decide +kernel
theorem dX1_become_54 : decode cX1_become 54 = .ok (.aload_n 0, 1) := by decide +kernel
theorem dX1_become_55 : decode cX1_become 55 = .ok (.aload_n 1, 1) := by decide +kernel
theorem dX1_become_56 : decode cX1_become 56 = .ok (.getfield 56, 3) := by decide +kernel
theorem dX1_become_59 : decode cX1_become 59 = .ok (.putfield 56, 3) := by decide +kernel
theorem dX1_become_62 : decode cX1_become 62 = .ok (.aload_n 0, 1) := by decide +kernel
theorem dX1_become_63 : decode cX1_become 63 = .ok (.aload_n 1, 1) := by decide +kernel
theorem dX1_become_64 : decode cX1_become 64 = .ok (.getfield 73, 3) := by decide +kernel
theorem dX1_become_67 : decode cX1_become 67 = .ok (.putfield 73, 3) := by decide +kernel
theorem dX1_become_70 : decode cX1_become 70 = .ok (.aload_n 0, 1) := by decide +kernel
theorem dX1_become_71 : decode cX1_become 71 = .ok (.aload_n 1, 1) := by decide +kernel
theorem dX1_become_72 : decode cX1_become 72 = .ok (.getfield 36, 3) := by decide +kernel
theorem dX1_become_75 : decode cX1_become 75 = .ok (.putfield 36, 3) := by decide +kernel
theorem dX1_become_78 : decode cX1_become 78 = .ok (.aload_n 0, 1) := by decide +kernel
theorem dX1_become_79 : decode cX1_become 79 = .ok (.aload_n 1, 1) := by decide +kernel
theorem dX1_become_80 : decode cX1_become 80 = .ok (.getfield 39, 3) := by decide +kernel
theorem dX1_become_83 : decode cX1_become 83 = .ok (.putfield 39, 3) := by decide +kernel
theorem dX1_become_86 : decode cX1_become 86 = .ok (.return_, 1) := by decide +kernel
theorem dX1_replaceStones_0 : decode cX1_replaceStones 0 = .ok (.aload_n 0, 1) := by decide +kernel
theorem dX1_replaceStones_1 : decode cX1_replaceStones 1 = .ok (.getfield 19, 3) := by decide +kernel
theorem dX1_replaceStones_4 : decode cX1_replaceStones 4 = .ok (.lload_n 1, 1) := by decide +kernel
theorem dX1_replaceStones_5 : decode cX1_replaceStones 5 = .ok (.putfield 76, 3) := by decide +kernel
theorem dX1_replaceStones_8 : decode cX1_replaceStones 8 = .ok (.aload_n 0, 1) := by decide +kernel
theorem dX1_replaceStones_9 : decode cX1_replaceStones 9 = .ok (.getfield 19, 3) := by decide +kernel
theorem dX1_replaceStones_12 : decode cX1_replaceStones 12 = .ok (.lload_n 3, 1) := by decide +kernel
theorem dX1_replaceStones_13 : decode cX1_replaceStones 13 = .ok (.putfield 80, 3) := by decide +kernel
theorem dX1_replaceStones_16 : decode cX1_replaceStones 16 = .ok (.aload_n 0, 1) := by decide +kernel
theorem dX1_replaceStones_17 : decode cX1_replaceStones 17 = .ok (.iconst (-1), 1) := by decide +kernel
theorem dX1_replaceStones_18 : decode cX1_replaceStones 18 = .ok (.putfield 73, 3) := by decide +kernel
theorem dX1_replaceStones_21 : decode cX1_replaceStones 21 = .ok (.aload_n 0, 1) := by decide +kernel
theorem dX1_replaceStones_22 : decode cX1_replaceStones 22 = .ok (.iconst 0, 1) := by decide +kernel
theorem dX1_replaceStones_23 : decode cX1_replaceStones 23 = .ok (.putfield 70, 3) := by decide +kernel
theorem dX1_replaceStones_26 : decode cX1_replaceStones 26 = .ok (.aload_n 0, 1) := by decide +kernel
theorem dX1_replaceStones_27 : decode cX1_replaceStones 27 = .ok (.getfield 28, 3) := by decide +kernel
theorem dX1_replaceStones_30 : decode cX1_replaceStones 30 = .ok (.lload_n 1, 1) := by decide +kernel
theorem dX1_replaceStones_31 : decode cX1_replaceStones 31 = .ok (.lload_n 3, 1) := by decide +kernel
theorem dX1_replaceStones_32 : decode cX1_replaceStones 32 = .ok (.invokevirtual 83, 3) := by decide +kernel
theorem dX1_replaceStones_35 : decode cX1_replaceStones 35 = .ok (.return_, 1) := by decide +kernel
theorem dX1_isOver_0 : decode cX1_isOver 0 = .ok (.aload_n 0, 1) := by decide +kernel
theorem dX1_isOver_1 : decode cX1_isOver 1 = .ok (.getfield 70, 3) := by decide +kernel
theorem dX1_isOver_4 : decode cX1_isOver 4 = .ok (.iconst 2, 1) := by decide +kernel
theorem dX1_isOver_5 : decode cX1_isOver 5 = .ok (.if_icmp .lt 7, 3) := by decide +kernel
theorem dX1_isOver_8 : decode cX1_isOver 8 = .ok (.iconst 1, 1) := by decide +kernel
theorem dX1_isOver_9 : decode cX1_isOver 9 = .ok (.goto 4, 3) := by decide +kernel
theorem dX1_isOver_12 : decode cX1_isOver 12 = .ok (.iconst 0, 1) := by decide +kernel
theorem dX1_isOver_13 : decode cX1_isOver 13 = .ok (.ireturn, 1) := by decide +kernel
theorem dX1_refusal_0 : decode cX1_refusal 0 = .ok (.aload_n 0, 1) := by decide +kernel
theorem dX1_refusal_1 : decode cX1_refusal 1 = .ok (.invokevirtual 86, 3) := by decide +kernel
theorem dX1_refusal_4 : decode cX1_refusal 4 = .ok (.ifCond .eq 5, 3) := by decide +kernel
theorem dX1_refusal_7 : decode cX1_refusal 7 = .ok (.iconst 1, 1) := by decide +kernel
theorem dX1_refusal_8 : decode cX1_refusal 8 = .ok (.ireturn, 1) := by decide +kernel
theorem dX1_refusal_9 : decode cX1_refusal 9 = .ok (.aload_n 0, 1) := by decide +kernel
theorem dX1_refusal_10 : decode cX1_refusal 10 = .ok (.getfield 19, 3) := by decide +kernel
theorem dX1_refusal_13 : decode cX1_refusal 13 = .ok (.iload_n 1, 1) := by decide +kernel
theorem dX1_refusal_14 : decode cX1_refusal 14 = .ok (.invokevirtual 90, 3) := by decide +kernel
theorem dX1_refusal_17 : decode cX1_refusal 17 = .ok (.ifCond .eq 5, 3) := by decide +kernel
theorem dX1_refusal_20 : decode cX1_refusal 20 = .ok (.iconst 2, 1) := by decide +kernel
theorem dX1_refusal_21 : decode cX1_refusal 21 = .ok (.ireturn, 1) := by decide +kernel
theorem dX1_refusal_22 : decode cX1_refusal 22 = .ok (.iload_n 1, 1) := by decide +kernel
theorem dX1_refusal_23 : decode cX1_refusal 23 = .ok (.aload_n 0, 1) := by decide +kernel
theorem dX1_refusal_24 : decode cX1_refusal 24 = .ok (.getfield 73, 3) := by decide +kernel
theorem dX1_refusal_27 : decode cX1_refusal 27 = .ok (.if_icmp .ne 13, 3) := by decide +kernel
theorem dX1_refusal_30 : decode cX1_refusal 30 = .ok (.iload_n 2, 1) := by decide +kernel
theorem dX1_refusal_31 : decode cX1_refusal 31 = .ok (.aload_n 0, 1) := by decide +kernel
theorem dX1_refusal_32 : decode cX1_refusal 32 = .ok (.getfield 32, 3) := by decide +kernel
theorem dX1_refusal_35 : decode cX1_refusal 35 = .ok (.if_icmp .ne 5, 3) := by decide +kernel
theorem dX1_refusal_38 : decode cX1_refusal 38 = .ok (.iconst 3, 1) := by decide +kernel
theorem dX1_refusal_39 : decode cX1_refusal 39 = .ok (.ireturn, 1) := by decide +kernel
theorem dX1_refusal_40 : decode cX1_refusal 40 = .ok (.aload_n 0, 1) := by decide +kernel
theorem dX1_refusal_41 : decode cX1_refusal 41 = .ok (.getfield 19, 3) := by decide +kernel
theorem dX1_refusal_44 : decode cX1_refusal 44 = .ok (.iload_n 1, 1) := by decide +kernel
theorem dX1_refusal_45 : decode cX1_refusal 45 = .ok (.iload_n 2, 1) := by decide +kernel
theorem dX1_refusal_46 : decode cX1_refusal 46 = .ok (.invokevirtual 94, 3) := by decide +kernel
theorem dX1_refusal_49 : decode cX1_refusal 49 = .ok (.lconst 0, 1) := by decide +kernel
theorem dX1_refusal_50 : decode cX1_refusal 50 = .ok (.lcmp, 1) := by decide +kernel
theorem dX1_refusal_51 : decode cX1_refusal 51 = .ok (.ifCond .ne 5, 3) := by decide +kernel
theorem dX1_refusal_54 : decode cX1_refusal 54 = .ok (.iconst 4, 1) := by decide +kernel
theorem dX1_refusal_55 : decode cX1_refusal 55 = .ok (.ireturn, 1) := by decide +kernel
theorem dX1_refusal_56 : decode cX1_refusal 56 = .ok (.aload_n 0, 1) := by decide +kernel
theorem dX1_refusal_57 : decode cX1_refusal 57 = .ok (.getfield 36, 3) := by decide +kernel
theorem dX1_refusal_60 : decode cX1_refusal 60 = .ok (.ifCond .ne 5, 3) := by decide +kernel
theorem dX1_refusal_63 : decode cX1_refusal 63 = .ok (.iconst 0, 1) := by decide +kernel
theorem dX1_refusal_64 : decode cX1_refusal 64 = .ok (.ireturn, 1) := by decide +kernel
theorem dX1_refusal_65 : decode cX1_refusal 65 = .ok (.aload_n 0, 1) := by decide +kernel
theorem dX1_refusal_66 : decode cX1_refusal 66 = .ok (.getfield 19, 3) := by decide +kernel
theorem dX1_refusal_69 : decode cX1_refusal 69 = .ok (.iload_n 1, 1) := by decide +kernel
theorem dX1_refusal_70 : decode cX1_refusal 70 = .ok (.iload_n 2, 1) := by decide +kernel
theorem dX1_refusal_71 : decode cX1_refusal 71 = .ok (.iconst 1, 1) := by decide +kernel
theorem dX1_refusal_72 : decode cX1_refusal 72 = .ok (.invokevirtual 98, 3) := by decide +kernel
theorem dX1_refusal_75 : decode cX1_refusal 75 = .ok (.lstore_n 3, 1) := by decide +kernel
theorem dX1_refusal_76 : decode cX1_refusal 76 = .ok (.aload_n 0, 1) := by decide +kernel
theorem dX1_refusal_77 : decode cX1_refusal 77 = .ok (.getfield 19, 3) := by decide +kernel
theorem dX1_refusal_80 : decode cX1_refusal 80 = .ok (.iload_n 1, 1) := by decide +kernel
theorem dX1_refusal_81 : decode cX1_refusal 81 = .ok (.iload_n 2, 1) := by decide +kernel
theorem dX1_refusal_82 : decode cX1_refusal 82 = .ok (.iconst 2, 1) := by decide +kernel
theorem dX1_refusal_83 : decode cX1_refusal 83 = .ok (.invokevirtual 98, 3) := by decide +kernel
theorem dX1_refusal_86 : decode cX1_refusal 86 = .ok (.lstore 5, 2) := by decide +kernel
theorem dX1_refusal_88 : decode cX1_refusal 88 = .ok (.aload_n 0, 1) := by decide +kernel
theorem dX1_refusal_89 : decode cX1_refusal 89 = .ok (.getfield 28, 3) := by decide +kernel
theorem dX1_refusal_92 : decode cX1_refusal 92 = .ok (.lload_n 3, 1) := by decide +kernel
theorem dX1_refusal_93 : decode cX1_refusal 93 = .ok (.lload 5, 2) := by decide +kernel
theorem dX1_refusal_95 : decode cX1_refusal 95 = .ok (.invokevirtual 102, 3) := by decide +kernel
theorem dX1_refusal_98 : decode cX1_refusal 98 = .ok (.ifCond .eq 7, 3) := by decide +kernel
theorem dX1_refusal_101 : decode cX1_refusal 101 = .ok (.iconst 5, 1) := by decide +kernel
theorem dX1_refusal_102 : decode cX1_refusal 102 = .ok (.goto 4, 3) := by decide +kernel
theorem dX1_refusal_105 : decode cX1_refusal 105 = .ok (.iconst 0, 1) := by decide +kernel
theorem dX1_refusal_106 : decode cX1_refusal 106 = .ok (.ireturn, 1) := by decide +kernel
theorem dX1_putAndTake_0 : decode cX1_putAndTake 0 = .ok (.aload_n 0, 1) := by decide +kernel
theorem dX1_putAndTake_1 : decode cX1_putAndTake 1 = .ok (.getfield 19, 3) := by decide +kernel
theorem dX1_putAndTake_4 : decode cX1_putAndTake 4 = .ok (.iload_n 1, 1) := by decide +kernel
theorem dX1_putAndTake_5 : decode cX1_putAndTake 5 = .ok (.aload_n 0, 1) := by decide +kernel
theorem dX1_putAndTake_6 : decode cX1_putAndTake 6 = .ok (.getfield 32, 3) := by decide +kernel
theorem dX1_putAndTake_9 : decode cX1_putAndTake 9 = .ok (.invokevirtual 106, 3) := by decide +kernel
theorem dX1_putAndTake_12 : decode cX1_putAndTake 12 = .ok (.lstore_n 2, 1) := by decide +kernel
theorem dX1_putAndTake_13 : decode cX1_putAndTake 13 = .ok (.lload_n 2, 1) := by decide +kernel
theorem dX1_putAndTake_14 : decode cX1_putAndTake 14 = .ok (.invokestatic 109, 3) := by decide +kernel
theorem dX1_putAndTake_17 : decode cX1_putAndTake 17 = .ok (.istore 4, 2) := by decide +kernel
theorem dX1_putAndTake_19 : decode cX1_putAndTake 19 = .ok (.aload_n 0, 1) := by decide +kernel
theorem dX1_putAndTake_20 : decode cX1_putAndTake 20 = .ok (.getfield 19, 3) := by decide +kernel
theorem dX1_putAndTake_23 : decode cX1_putAndTake 23 = .ok (.iload_n 1, 1) := by decide +kernel
theorem dX1_putAndTake_24 : decode cX1_putAndTake 24 = .ok (.aload_n 0, 1) := by decide +kernel
theorem dX1_putAndTake_25 : decode cX1_putAndTake 25 = .ok (.getfield 32, 3) := by decide +kernel
theorem dX1_putAndTake_28 : decode cX1_putAndTake 28 = .ok (.invokevirtual 115, 3) := by decide +kernel
theorem dX1_putAndTake_31 : decode cX1_putAndTake 31 = .ok (.invokestatic 109, 3) := by decide +kernel
theorem dX1_putAndTake_34 : decode cX1_putAndTake 34 = .ok (.iconst 1, 1) := by decide +kernel
theorem dX1_putAndTake_35 : decode cX1_putAndTake 35 = .ok (.if_icmp .ne 26, 3) := by decide +kernel
theorem dX1_putAndTake_38 : decode cX1_putAndTake 38 = .ok (.aload_n 0, 1) := by decide +kernel
theorem dX1_putAndTake_39 : decode cX1_putAndTake 39 = .ok (.getfield 19, 3) := by decide +kernel
theorem dX1_putAndTake_42 : decode cX1_putAndTake 42 = .ok (.iload_n 1, 1) := by decide +kernel
theorem dX1_putAndTake_43 : decode cX1_putAndTake 43 = .ok (.aload_n 0, 1) := by decide +kernel
theorem dX1_putAndTake_44 : decode cX1_putAndTake 44 = .ok (.getfield 32, 3) := by decide +kernel
theorem dX1_putAndTake_47 : decode cX1_putAndTake 47 = .ok (.invokevirtual 94, 3) := by decide +kernel
theorem dX1_putAndTake_50 : decode cX1_putAndTake 50 = .ok (.invokestatic 109, 3) := by decide +kernel
theorem dX1_putAndTake_53 : decode cX1_putAndTake 53 = .ok (.iconst 1, 1) := by decide +kernel
theorem dX1_putAndTake_54 : decode cX1_putAndTake 54 = .ok (.if_icmp .ne 7, 3) := by decide +kernel
theorem dX1_putAndTake_57 : decode cX1_putAndTake 57 = .ok (.iconst 1, 1) := by decide +kernel
theorem dX1_putAndTake_58 : decode cX1_putAndTake 58 = .ok (.goto 4, 3) := by decide +kernel
theorem dX1_putAndTake_61 : decode cX1_putAndTake 61 = .ok (.iconst 0, 1) := by decide +kernel
theorem dX1_putAndTake_62 : decode cX1_putAndTake 62 = .ok (.istore 5, 2) := by decide +kernel
theorem dX1_putAndTake_64 : decode cX1_putAndTake 64 = .ok (.aload_n 0, 1) := by decide +kernel
theorem dX1_putAndTake_65 : decode cX1_putAndTake 65 = .ok (.getfield 19, 3) := by decide +kernel
theorem dX1_putAndTake_68 : decode cX1_putAndTake 68 = .ok (.iload_n 1, 1) := by decide +kernel
theorem dX1_putAndTake_69 : decode cX1_putAndTake 69 = .ok (.aload_n 0, 1) := by decide +kernel
theorem dX1_putAndTake_70 : decode cX1_putAndTake 70 = .ok (.getfield 32, 3) := by decide +kernel
theorem dX1_putAndTake_73 : decode cX1_putAndTake 73 = .ok (.iconst 1, 1) := by decide +kernel
theorem dX1_putAndTake_74 : decode cX1_putAndTake 74 = .ok (.invokevirtual 98, 3) := by decide +kernel
theorem dX1_putAndTake_77 : decode cX1_putAndTake 77 = .ok (.lstore 6, 2) := by decide +kernel
theorem dX1_putAndTake_79 : decode cX1_putAndTake 79 = .ok (.aload_n 0, 1) := by decide +kernel
theorem dX1_putAndTake_80 : decode cX1_putAndTake 80 = .ok (.getfield 19, 3) := by decide +kernel
theorem dX1_putAndTake_83 : decode cX1_putAndTake 83 = .ok (.iload_n 1, 1) := by decide +kernel
theorem dX1_putAndTake_84 : decode cX1_putAndTake 84 = .ok (.aload_n 0, 1) := by decide +kernel
theorem dX1_putAndTake_85 : decode cX1_putAndTake 85 = .ok (.getfield 32, 3) := by decide +kernel
theorem dX1_putAndTake_88 : decode cX1_putAndTake 88 = .ok (.iconst 2, 1) := by decide +kernel
theorem dX1_putAndTake_89 : decode cX1_putAndTake 89 = .ok (.invokevirtual 98, 3) := by decide +kernel
theorem dX1_putAndTake_92 : decode cX1_putAndTake 92 = .ok (.lstore 8, 2) := by decide +kernel
theorem dX1_putAndTake_94 : decode cX1_putAndTake 94 = .ok (.aload_n 0, 1) := by decide +kernel
theorem dX1_putAndTake_95 : decode cX1_putAndTake 95 = .ok (.getfield 19, 3) := by decide +kernel
theorem dX1_putAndTake_98 : decode cX1_putAndTake 98 = .ok (.lload 6, 2) := by decide +kernel
theorem dX1_putAndTake_100 : decode cX1_putAndTake 100 = .ok (.putfield 76, 3) := by decide +kernel
theorem dX1_putAndTake_103 : decode cX1_putAndTake 103 = .ok (.aload_n 0, 1) := by decide +kernel
theorem dX1_putAndTake_104 : decode cX1_putAndTake 104 = .ok (.getfield 19, 3) := by decide +kernel
theorem dX1_putAndTake_107 : decode cX1_putAndTake 107 = .ok (.lload 8, 2) := by decide +kernel
theorem dX1_putAndTake_109 : decode cX1_putAndTake 109 = .ok (.putfield 80, 3) := by decide +kernel
theorem dX1_putAndTake_112 : decode cX1_putAndTake 112 = .ok (.aload_n 0, 1) := by decide +kernel
theorem dX1_putAndTake_113 : decode cX1_putAndTake 113 = .ok (.getfield 28, 3) := by decide +kernel
theorem dX1_putAndTake_116 : decode cX1_putAndTake 116 = .ok (.lload 6, 2) := by decide +kernel
theorem dX1_putAndTake_118 : decode cX1_putAndTake 118 = .ok (.lload 8, 2) := by decide +kernel
theorem dX1_putAndTake_120 : decode cX1_putAndTake 120 = .ok (.invokevirtual 118, 3) := by decide +kernel
theorem dX1_putAndTake_123 : decode cX1_putAndTake 123 = .ok (.aload_n 0, 1) := by decide +kernel
theorem dX1_putAndTake_124 : decode cX1_putAndTake 124 = .ok (.iload 4, 2) := by decide +kernel
theorem dX1_putAndTake_126 : decode cX1_putAndTake 126 = .ok (.iconst 1, 1) := by decide +kernel
theorem dX1_putAndTake_127 : decode cX1_putAndTake 127 = .ok (.if_icmp .ne 15, 3) := by decide +kernel
theorem dX1_putAndTake_130 : decode cX1_putAndTake 130 = .ok (.iload 5, 2) := by decide +kernel
theorem dX1_putAndTake_132 : decode cX1_putAndTake 132 = .ok (.ifCond .eq 10, 3) := by decide +kernel
theorem dX1_putAndTake_135 : decode cX1_putAndTake 135 = .ok (.lload_n 2, 1) := by decide +kernel
theorem dX1_putAndTake_136 : decode cX1_putAndTake 136 = .ok (.invokestatic 121, 3) := by decide +kernel
theorem dX1_putAndTake_139 : decode cX1_putAndTake 139 = .ok (.goto 4, 3) := by decide +kernel
theorem dX1_putAndTake_142 : decode cX1_putAndTake 142 = .ok (.iconst (-1), 1) := by decide +kernel
theorem dX1_putAndTake_143 : decode cX1_putAndTake 143 = .ok (.putfield 73, 3) := by decide +kernel
theorem dX1_putAndTake_146 : decode cX1_putAndTake 146 = .ok (.aload_n 0, 1) := by decide +kernel
theorem dX1_putAndTake_147 : decode cX1_putAndTake 147 = .ok (.getfield 32, 3) := by decide +kernel
theorem dX1_putAndTake_150 : decode cX1_putAndTake 150 = .ok (.iconst 1, 1) := by decide +kernel
theorem dX1_putAndTake_151 : decode cX1_putAndTake 151 = .ok (.if_icmp .ne 17, 3) := by decide +kernel
theorem dX1_putAndTake_154 : decode cX1_putAndTake 154 = .ok (.aload_n 0, 1) := by decide +kernel
theorem dX1_putAndTake_155 : decode cX1_putAndTake 155 = .ok (.dup, 1) := by decide +kernel
theorem dX1_putAndTake_156 : decode cX1_putAndTake 156 = .ok (.getfield 56, 3) := by decide +kernel
theorem dX1_putAndTake_159 : decode cX1_putAndTake 159 = .ok (.iload 4, 2) := by decide +kernel
theorem dX1_putAndTake_161 : decode cX1_putAndTake 161 = .ok (.iadd, 1) := by decide +kernel
theorem dX1_putAndTake_162 : decode cX1_putAndTake 162 = .ok (.putfield 56, 3) := by decide +kernel
theorem dX1_putAndTake_165 : decode cX1_putAndTake 165 = .ok (.goto 14, 3) := by decide +kernel
theorem dX1_putAndTake_168 : decode cX1_putAndTake 168 = .ok (.aload_n 0, 1) := by decide +kernel
theorem dX1_putAndTake_169 : decode cX1_putAndTake 169 = .ok (.dup, 1) := by decide +kernel
theorem dX1_putAndTake_170 : decode cX1_putAndTake 170 = .ok (.getfield 53, 3) := by decide +kernel
theorem dX1_putAndTake_173 : decode cX1_putAndTake 173 = .ok (.iload 4, 2) := by decide +kernel
theorem dX1_putAndTake_175 : decode cX1_putAndTake 175 = .ok (.iadd, 1) := by decide +kernel
theorem dX1_putAndTake_176 : decode cX1_putAndTake 176 = .ok (.putfield 53, 3) := by decide +kernel
theorem dX1_putAndTake_179 : decode cX1_putAndTake 179 = .ok (.aload_n 0, 1) := by decide +kernel
theorem dX1_putAndTake_180 : decode cX1_putAndTake 180 = .ok (.dup, 1) := by decide +kernel
theorem dX1_putAndTake_181 : decode cX1_putAndTake 181 = .ok (.getfield 50, 3) := by decide +kernel
theorem dX1_putAndTake_184 : decode cX1_putAndTake 184 = .ok (.iconst 1, 1) := by decide +kernel
theorem dX1_putAndTake_185 : decode cX1_putAndTake 185 = .ok (.iadd, 1) := by decide +kernel
theorem dX1_putAndTake_186 : decode cX1_putAndTake 186 = .ok (.putfield 50, 3) := by decide +kernel
theorem dX1_putAndTake_189 : decode cX1_putAndTake 189 = .ok (.aload_n 0, 1) := by decide +kernel
theorem dX1_putAndTake_190 : decode cX1_putAndTake 190 = .ok (.iconst 0, 1) := by decide +kernel
theorem dX1_putAndTake_191 : decode cX1_putAndTake 191 = .ok (.putfield 70, 3) := by decide +kernel
theorem dX1_putAndTake_194 : decode cX1_putAndTake 194 = .ok (.aload_n 0, 1) := by decide +kernel
theorem dX1_putAndTake_195 : decode cX1_putAndTake 195 = .ok (.iconst 3, 1) := by decide +kernel
theorem dX1_putAndTake_196 : decode cX1_putAndTake 196 = .ok (.aload_n 0, 1) := by decide +kernel
theorem dX1_putAndTake_197 : decode cX1_putAndTake 197 = .ok (.getfield 32, 3) := by decide +kernel
theorem dX1_putAndTake_200 : decode cX1_putAndTake 200 = .ok (.isub, 1) := by decide +kernel
theorem dX1_putAndTake_201 : decode cX1_putAndTake 201 = .ok (.putfield 32, 3) := by decide +kernel
theorem dX1_putAndTake_204 : decode cX1_putAndTake 204 = .ok (.iload 4, 2) := by decide +kernel
theorem dX1_putAndTake_206 : decode cX1_putAndTake 206 = .ok (.ireturn, 1) := by decide +kernel
theorem dX1_passOn_0 : decode cX1_passOn 0 = .ok (.aload_n 0, 1) := by decide +kernel
theorem dX1_passOn_1 : decode cX1_passOn 1 = .ok (.dup, 1) := by decide +kernel
theorem dX1_passOn_2 : decode cX1_passOn 2 = .ok (.getfield 70, 3) := by decide +kernel
theorem dX1_passOn_5 : decode cX1_passOn 5 = .ok (.iconst 1, 1) := by decide +kernel
theorem dX1_passOn_6 : decode cX1_passOn 6 = .ok (.iadd, 1) := by decide +kernel
theorem dX1_passOn_7 : decode cX1_passOn 7 = .ok (.putfield 70, 3) := by decide +kernel
theorem dX1_passOn_10 : decode cX1_passOn 10 = .ok (.aload_n 0, 1) := by decide +kernel
theorem dX1_passOn_11 : decode cX1_passOn 11 = .ok (.iconst (-1), 1) := by decide +kernel
theorem dX1_passOn_12 : decode cX1_passOn 12 = .ok (.putfield 73, 3) := by decide +kernel
theorem dX1_passOn_15 : decode cX1_passOn 15 = .ok (.aload_n 0, 1) := by decide +kernel
theorem dX1_passOn_16 : decode cX1_passOn 16 = .ok (.iconst 3, 1) := by decide +kernel
theorem dX1_passOn_17 : decode cX1_passOn 17 = .ok (.aload_n 0, 1) := by decide +kernel
theorem dX1_passOn_18 : decode cX1_passOn 18 = .ok (.getfield 32, 3) := by decide +kernel
theorem dX1_passOn_21 : decode cX1_passOn 21 = .ok (.isub, 1) := by decide +kernel
theorem dX1_passOn_22 : decode cX1_passOn 22 = .ok (.putfield 32, 3) := by decide +kernel
theorem dX1_passOn_25 : decode cX1_passOn 25 = .ok (.aload_n 0, 1) := by decide +kernel
theorem dX1_passOn_26 : decode cX1_passOn 26 = .ok (.getfield 70, 3) := by decide +kernel
theorem dX1_passOn_29 : decode cX1_passOn 29 = .ok (.ireturn, 1) := by decide +kernel
theorem dX1_letterAt_0 : decode cX1_letterAt 0 = .ok (.iload_n 1, 1) := by decide +kernel
theorem dX1_letterAt_1 : decode cX1_letterAt 1 = .ok (.aload_n 0, 1) := by decide +kernel
theorem dX1_letterAt_2 : decode cX1_letterAt 2 = .ok (.getfield 73, 3) := by decide +kernel
theorem dX1_letterAt_5 : decode cX1_letterAt 5 = .ok (.if_icmp .ne 6, 3) := by decide +kernel
theorem dX1_letterAt_8 : decode cX1_letterAt 8 = .ok (.bipush 120, 2) := by decide +kernel
theorem dX1_letterAt_10 : decode cX1_letterAt 10 = .ok (.ireturn, 1) := by decide +kernel
theorem dX1_letterAt_11 : decode cX1_letterAt 11 = .ok (.aload_n 0, 1) := by decide +kernel
theorem dX1_letterAt_12 : decode cX1_letterAt 12 = .ok (.getfield 19, 3) := by decide +kernel
theorem dX1_letterAt_15 : decode cX1_letterAt 15 = .ok (.iload_n 1, 1) := by decide +kernel
theorem dX1_letterAt_16 : decode cX1_letterAt 16 = .ok (.invokevirtual 90, 3) := by decide +kernel
theorem dX1_letterAt_19 : decode cX1_letterAt 19 = .ok (.lookupswitch 31 #[(1, 25), (2, 28)], 25) := by decide +kernel
theorem dX1_letterAt_44 : decode cX1_letterAt 44 = .ok (.bipush 98, 2) := by decide +kernel
theorem dX1_letterAt_46 : decode cX1_letterAt 46 = .ok (.ireturn, 1) := by decide +kernel
theorem dX1_letterAt_47 : decode cX1_letterAt 47 = .ok (.bipush 119, 2) := by decide +kernel
theorem dX1_letterAt_49 : decode cX1_letterAt 49 = .ok (.ireturn, 1) := by decide +kernel
theorem dX1_letterAt_50 : decode cX1_letterAt 50 = .ok (.bipush 111, 2) := by decide +kernel
theorem dX1_letterAt_52 : decode cX1_letterAt 52 = .ok (.ireturn, 1) := by decide +kernel
theorem dX2_init_0 : decode cX2_init 0 = .ok (.aload_n 0, 1) := by decide +kernel
theorem dX2_init_1 : decode cX2_init 1 = .ok (.invokespecial 3, 3) := by decide +kernel
theorem dX2_init_4 : decode cX2_init 4 = .ok (.aload_n 0, 1) := by decide +kernel
theorem dX2_init_5 : decode cX2_init 5 = .ok (.iload_n 1, 1) := by decide +kernel
theorem dX2_init_6 : decode cX2_init 6 = .ok (.putfield 9, 3) := by decide +kernel
theorem dX2_init_9 : decode cX2_init 9 = .ok (.aload_n 0, 1) := by decide +kernel
theorem dX2_init_10 : decode cX2_init 10 = .ok (.iload_n 2, 1) := by decide +kernel
theorem dX2_init_11 : decode cX2_init 11 = .ok (.putfield 15, 3) := by decide +kernel
theorem dX2_init_14 : decode cX2_init 14 = .ok (.aload_n 0, 1) := by decide +kernel
theorem dX2_init_15 : decode cX2_init 15 = .ok (.iload_n 1, 1) := by decide +kernel
theorem dX2_init_16 : decode cX2_init 16 = .ok (.iload_n 2, 1) := by decide +kernel
theorem dX2_init_17 : decode cX2_init 17 = .ok (.imul, 1) := by decide +kernel
theorem dX2_init_18 : decode cX2_init 18 = .ok (.putfield 18, 3) := by decide +kernel
theorem dX2_init_21 : decode cX2_init 21 = .ok (.aload_n 0, 1) := by decide +kernel
theorem dX2_init_22 : decode cX2_init 22 = .ok (.lconst 1, 1) := by decide +kernel
theorem dX2_init_23 : decode cX2_init 23 = .ok (.aload_n 0, 1) := by decide +kernel
theorem dX2_init_24 : decode cX2_init 24 = .ok (.getfield 18, 3) := by decide +kernel
theorem dX2_init_27 : decode cX2_init 27 = .ok (.lshl, 1) := by decide +kernel
theorem dX2_init_28 : decode cX2_init 28 = .ok (.lconst 1, 1) := by decide +kernel
theorem dX2_init_29 : decode cX2_init 29 = .ok (.lsub, 1) := by decide +kernel
theorem dX2_init_30 : decode cX2_init 30 = .ok (.putfield 21, 3) := by decide +kernel
theorem dX2_init_33 : decode cX2_init 33 = .ok (.lconst 0, 1) := by decide +kernel
theorem dX2_init_34 : decode cX2_init 34 = .ok (.lstore_n 3, 1) := by decide +kernel
theorem dX2_init_35 : decode cX2_init 35 = .ok (.iconst 0, 1) := by decide +kernel
theorem dX2_init_36 : decode cX2_init 36 = .ok (.istore 5, 2) := by decide +kernel
theorem dX2_init_38 : decode cX2_init 38 = .ok (.iload 5, 2) := by decide +kernel
theorem dX2_init_40 : decode cX2_init 40 = .ok (.iload_n 1, 1) := by decide +kernel
theorem dX2_init_41 : decode cX2_init 41 = .ok (.if_icmp .ge 18, 3) := by decide +kernel
theorem dX2_init_44 : decode cX2_init 44 = .ok (.lload_n 3, 1) := by decide +kernel
theorem dX2_init_45 : decode cX2_init 45 = .ok (.lconst 1, 1) := by decide +kernel
theorem dX2_init_46 : decode cX2_init 46 = .ok (.iload_n 2, 1) := by decide +kernel
theorem dX2_init_47 : decode cX2_init 47 = .ok (.iload 5, 2) := by decide +kernel
theorem dX2_init_49 : decode cX2_init 49 = .ok (.imul, 1) := by decide +kernel
theorem dX2_init_50 : decode cX2_init 50 = .ok (.lshl, 1) := by decide +kernel
theorem dX2_init_51 : decode cX2_init 51 = .ok (.lor, 1) := by decide +kernel
theorem dX2_init_52 : decode cX2_init 52 = .ok (.lstore_n 3, 1) := by decide +kernel
theorem dX2_init_53 : decode cX2_init 53 = .ok (.iinc 5 1, 3) := by decide +kernel
theorem dX2_init_56 : decode cX2_init 56 = .ok (.goto (-18), 3) := by decide +kernel
theorem dX2_init_59 : decode cX2_init 59 = .ok (.aload_n 0, 1) := by decide +kernel
theorem dX2_init_60 : decode cX2_init 60 = .ok (.lload_n 3, 1) := by decide +kernel
theorem dX2_init_61 : decode cX2_init 61 = .ok (.putfield 25, 3) := by decide +kernel
theorem dX2_init_64 : decode cX2_init 64 = .ok (.aload_n 0, 1) := by decide +kernel
theorem dX2_init_65 : decode cX2_init 65 = .ok (.lload_n 3, 1) := by decide +kernel
theorem dX2_init_66 : decode cX2_init 66 = .ok (.iload_n 2, 1) := by decide +kernel
theorem dX2_init_67 : decode cX2_init 67 = .ok (.iconst 1, 1) := by decide +kernel
theorem dX2_init_68 : decode cX2_init 68 = .ok (.isub, 1) := by decide +kernel
theorem dX2_init_69 : decode cX2_init 69 = .ok (.lshl, 1) := by decide +kernel
theorem dX2_init_70 : decode cX2_init 70 = .ok (.putfield 28, 3) := by decide +kernel
theorem dX2_init_73 : decode cX2_init 73 = .ok (.return_, 1) := by decide +kernel
theorem dX2_isLike_0 : decode cX2_isLike 0 = .ok (.aload_n 0, 1) := by decide +kernel
theorem dX2_isLike_1 : decode cX2_isLike 1 = .ok (.getfield 9, 3) := by decide +kernel
theorem dX2_isLike_4 : decode cX2_isLike 4 = .ok (.aload_n 1, 1) := by decide +kernel
theorem dX2_isLike_5 : decode cX2_isLike 5 = .ok (.getfield 9, 3) := by decide +kernel
theorem dX2_isLike_8 : decode cX2_isLike 8 = .ok (.if_icmp .ne 18, 3) := by decide +kernel
theorem dX2_isLike_11 : decode cX2_isLike 11 = .ok (.aload_n 0, 1) := by decide +kernel
theorem dX2_isLike_12 : decode cX2_isLike 12 = .ok (.getfield 15, 3) := by decide +kernel
theorem dX2_isLike_15 : decode cX2_isLike 15 = .ok (.aload_n 1, 1) := by decide +kernel
theorem dX2_isLike_16 : decode cX2_isLike 16 = .ok (.getfield 15, 3) := by decide +kernel
theorem dX2_isLike_19 : decode cX2_isLike 19 = .ok (.if_icmp .ne 7, 3) := by decide +kernel
theorem dX2_isLike_22 : decode cX2_isLike 22 = .ok (.iconst 1, 1) := by decide +kernel
theorem dX2_isLike_23 : decode cX2_isLike 23 = .ok (.goto 4, 3) := by decide +kernel
theorem dX2_isLike_26 : decode cX2_isLike 26 = .ok (.iconst 0, 1) := by decide +kernel
theorem dX2_isLike_27 : decode cX2_isLike 27 = .ok (.ireturn, 1) := by decide +kernel
theorem dX2_placeBeside_0 : decode cX2_placeBeside 0 = .ok (.lconst 1, 1) := by decide +kernel
theorem dX2_placeBeside_1 : decode cX2_placeBeside 1 = .ok (.iload_n 1, 1) := by decide +kernel
theorem dX2_placeBeside_2 : decode cX2_placeBeside 2 = .ok (.lshl, 1) := by decide +kernel
theorem dX2_placeBeside_3 : decode cX2_placeBeside 3 = .ok (.lstore_n 3, 1) := by decide +kernel
theorem dX2_placeBeside_4 : decode cX2_placeBeside 4 = .ok (.iload_n 2, 1) := by decide +kernel
theorem dX2_placeBeside_5 : decode cX2_placeBeside 5 = .ok (.tableswitch 103 0 2 #[27, 53, 79], 27) := by decide +kernel
theorem dX2_placeBeside_32 : decode cX2_placeBeside 32 = .ok (.lload_n 3, 1) := by decide +kernel
theorem dX2_placeBeside_33 : decode cX2_placeBeside 33 = .ok (.aload_n 0, 1) := by decide +kernel
theorem dX2_placeBeside_34 : decode cX2_placeBeside 34 = .ok (.getfield 28, 3) := by decide +kernel
theorem dX2_placeBeside_37 : decode cX2_placeBeside 37 = .ok (.land, 1) := by decide +kernel
theorem dX2_placeBeside_38 : decode cX2_placeBeside 38 = .ok (.lconst 0, 1) := by decide +kernel
theorem dX2_placeBeside_39 : decode cX2_placeBeside 39 = .ok (.lcmp, 1) := by decide +kernel
theorem dX2_placeBeside_40 : decode cX2_placeBeside 40 = .ok (.ifCond .eq 14, 3) := by decide +kernel
theorem dX2_placeBeside_43 : decode cX2_placeBeside 43 = .ok (.iload_n 1, 1) := by decide +kernel
theorem dX2_placeBeside_44 : decode cX2_placeBeside 44 = .ok (.aload_n 0, 1) := by decide +kernel
theorem dX2_placeBeside_45 : decode cX2_placeBeside 45 = .ok (.getfield 15, 3) := by decide +kernel
theorem dX2_placeBeside_48 : decode cX2_placeBeside 48 = .ok (.isub, 1) := by decide +kernel
theorem dX2_placeBeside_49 : decode cX2_placeBeside 49 = .ok (.iconst 1, 1) := by decide +kernel
theorem dX2_placeBeside_50 : decode cX2_placeBeside 50 = .ok (.iadd, 1) := by decide +kernel
theorem dX2_placeBeside_51 : decode cX2_placeBeside 51 = .ok (.goto 6, 3) := by decide +kernel
theorem dX2_placeBeside_54 : decode cX2_placeBeside 54 = .ok (.iload_n 1, 1) := by decide +kernel
theorem dX2_placeBeside_55 : decode cX2_placeBeside 55 = .ok (.iconst 1, 1) := by decide +kernel
theorem dX2_placeBeside_56 : decode cX2_placeBeside 56 = .ok (.iadd, 1) := by decide +kernel
theorem dX2_placeBeside_57 : decode cX2_placeBeside 57 = .ok (.ireturn, 1) := by decide +kernel
theorem dX2_placeBeside_58 : decode cX2_placeBeside 58 = .ok (.lload_n 3, 1) := by decide +kernel
theorem dX2_placeBeside_59 : decode cX2_placeBeside 59 = .ok (.aload_n 0, 1) := by decide +kernel
theorem dX2_placeBeside_60 : decode cX2_placeBeside 60 = .ok (.getfield 25, 3) := by decide +kernel
theorem dX2_placeBeside_63 : decode cX2_placeBeside 63 = .ok (.land, 1) := by decide +kernel
theorem dX2_placeBeside_64 : decode cX2_placeBeside 64 = .ok (.lconst 0, 1) := by decide +kernel
theorem dX2_placeBeside_65 : decode cX2_placeBeside 65 = .ok (.lcmp, 1) := by decide +kernel
theorem dX2_placeBeside_66 : decode cX2_placeBeside 66 = .ok (.ifCond .eq 14, 3) := by decide +kernel
theorem dX2_placeBeside_69 : decode cX2_placeBeside 69 = .ok (.iload_n 1, 1) := by decide +kernel
theorem dX2_placeBeside_70 : decode cX2_placeBeside 70 = .ok (.aload_n 0, 1) := by decide +kernel
theorem dX2_placeBeside_71 : decode cX2_placeBeside 71 = .ok (.getfield 15, 3) := by decide +kernel
theorem dX2_placeBeside_74 : decode cX2_placeBeside 74 = .ok (.iadd, 1) := by decide +kernel
theorem dX2_placeBeside_75 : decode cX2_placeBeside 75 = .ok (.iconst 1, 1) := by decide +kernel
theorem dX2_placeBeside_76 : decode cX2_placeBeside 76 = .ok (.isub, 1) := by decide +kernel
theorem dX2_placeBeside_77 : decode cX2_placeBeside 77 = .ok (.goto 6, 3) := by decide +kernel
theorem dX2_placeBeside_80 : decode cX2_placeBeside 80 = .ok (.iload_n 1, 1) := by decide +kernel
theorem dX2_placeBeside_81 : decode cX2_placeBeside 81 = .ok (.iconst 1, 1) := by decide +kernel
theorem dX2_placeBeside_82 : decode cX2_placeBeside 82 = .ok (.isub, 1) := by decide +kernel
theorem dX2_placeBeside_83 : decode cX2_placeBeside 83 = .ok (.ireturn, 1) := by decide +kernel
theorem dX2_placeBeside_84 : decode cX2_placeBeside 84 = .ok (.iload_n 1, 1) := by decide +kernel
theorem dX2_placeBeside_85 : decode cX2_placeBeside 85 = .ok (.aload_n 0, 1) := by decide +kernel
theorem dX2_placeBeside_86 : decode cX2_placeBeside 86 = .ok (.getfield 15, 3) := by decide +kernel
theorem dX2_placeBeside_89 : decode cX2_placeBeside 89 = .ok (.iadd, 1) := by decide +kernel
theorem dX2_placeBeside_90 : decode cX2_placeBeside 90 = .ok (.aload_n 0, 1) := by decide +kernel
theorem dX2_placeBeside_91 : decode cX2_placeBeside 91 = .ok (.getfield 18, 3) := by decide +kernel
theorem dX2_placeBeside_94 : decode cX2_placeBeside 94 = .ok (.if_icmp .ge 12, 3) := by decide +kernel
theorem dX2_placeBeside_97 : decode cX2_placeBeside 97 = .ok (.iload_n 1, 1) := by decide +kernel
theorem dX2_placeBeside_98 : decode cX2_placeBeside 98 = .ok (.aload_n 0, 1) := by decide +kernel
theorem dX2_placeBeside_99 : decode cX2_placeBeside 99 = .ok (.getfield 15, 3) := by decide +kernel
theorem dX2_placeBeside_102 : decode cX2_placeBeside 102 = .ok (.iadd, 1) := by decide +kernel
theorem dX2_placeBeside_103 : decode cX2_placeBeside 103 = .ok (.goto 4, 3) := by decide +kernel
theorem dX2_placeBeside_106 : decode cX2_placeBeside 106 = .ok (.iconst (-1), 1) := by decide +kernel
theorem dX2_placeBeside_107 : decode cX2_placeBeside 107 = .ok (.ireturn, 1) := by decide +kernel
theorem dX2_placeBeside_108 : decode cX2_placeBeside 108 = .ok (.iload_n 1, 1) := by decide +kernel
theorem dX2_placeBeside_109 : decode cX2_placeBeside 109 = .ok (.aload_n 0, 1) := by decide +kernel
theorem dX2_placeBeside_110 : decode cX2_placeBeside 110 = .ok (.getfield 15, 3) := by decide +kernel
theorem dX2_placeBeside_113 : decode cX2_placeBeside 113 = .ok (.if_icmp .lt 12, 3) := by decide +kernel
theorem dX2_placeBeside_116 : decode cX2_placeBeside 116 = .ok (.iload_n 1, 1) := by decide +kernel
theorem dX2_placeBeside_117 : decode cX2_placeBeside 117 = .ok (.aload_n 0, 1) := by decide +kernel
theorem dX2_placeBeside_118 : decode cX2_placeBeside 118 = .ok (.getfield 15, 3) := by decide +kernel
theorem dX2_placeBeside_121 : decode cX2_placeBeside 121 = .ok (.isub, 1) := by decide +kernel
theorem dX2_placeBeside_122 : decode cX2_placeBeside 122 = .ok (.goto 4, 3) := by decide +kernel
theorem dX2_placeBeside_125 : decode cX2_placeBeside 125 = .ok (.iconst (-1), 1) := by decide +kernel
theorem dX2_placeBeside_126 : decode cX2_placeBeside 126 = .ok (.ireturn, 1) := by decide +kernel
theorem dX2_allBut_0 : decode cX2_allBut 0 = .ok (.aload_n 0, 1) := by decide +kernel
theorem dX2_allBut_1 : decode cX2_allBut 1 = .ok (.getfield 21, 3) := by decide +kernel
theorem dX2_allBut_4 : decode cX2_allBut 4 = .ok (.lload_n 1, 1) := by decide +kernel
theorem dX2_allBut_5 : decode cX2_allBut 5 = .ok (.ldc2_w 31, 3) := by decide +kernel
theorem dX2_allBut_8 : decode cX2_allBut 8 = .ok (.lxor, 1) := by decide +kernel
theorem dX2_allBut_9 : decode cX2_allBut 9 = .ok (.land, 1) := by decide +kernel
theorem dX2_allBut_10 : decode cX2_allBut 10 = .ok (.lreturn, 1) := by decide +kernel
theorem dX2_around_0 : decode cX2_around 0 = .ok (.lload_n 1, 1) := by decide +kernel
theorem dX2_around_1 : decode cX2_around 1 = .ok (.aload_n 0, 1) := by decide +kernel
theorem dX2_around_2 : decode cX2_around 2 = .ok (.getfield 28, 3) := by decide +kernel
theorem dX2_around_5 : decode cX2_around 5 = .ok (.ldc2_w 31, 3) := by decide +kernel
theorem dX2_around_8 : decode cX2_around 8 = .ok (.lxor, 1) := by decide +kernel
theorem dX2_around_9 : decode cX2_around 9 = .ok (.land, 1) := by decide +kernel
theorem dX2_around_10 : decode cX2_around 10 = .ok (.iconst 1, 1) := by decide +kernel
theorem dX2_around_11 : decode cX2_around 11 = .ok (.lshl, 1) := by decide +kernel
theorem dX2_around_12 : decode cX2_around 12 = .ok (.lload_n 1, 1) := by decide +kernel
theorem dX2_around_13 : decode cX2_around 13 = .ok (.aload_n 0, 1) := by decide +kernel
theorem dX2_around_14 : decode cX2_around 14 = .ok (.getfield 28, 3) := by decide +kernel
theorem dX2_around_17 : decode cX2_around 17 = .ok (.land, 1) := by decide +kernel
theorem dX2_around_18 : decode cX2_around 18 = .ok (.aload_n 0, 1) := by decide +kernel
theorem dX2_around_19 : decode cX2_around 19 = .ok (.getfield 15, 3) := by decide +kernel
theorem dX2_around_22 : decode cX2_around 22 = .ok (.iconst 1, 1) := by decide +kernel
theorem dX2_around_23 : decode cX2_around 23 = .ok (.isub, 1) := by decide +kernel
theorem dX2_around_24 : decode cX2_around 24 = .ok (.lushr, 1) := by decide +kernel
theorem dX2_around_25 : decode cX2_around 25 = .ok (.lor, 1) := by decide +kernel
theorem dX2_around_26 : decode cX2_around 26 = .ok (.lstore_n 3, 1) := by decide +kernel
theorem dX2_around_27 : decode cX2_around 27 = .ok (.lload_n 1, 1) := by decide +kernel
theorem dX2_around_28 : decode cX2_around 28 = .ok (.aload_n 0, 1) := by decide +kernel
theorem dX2_around_29 : decode cX2_around 29 = .ok (.getfield 25, 3) := by decide +kernel
theorem dX2_around_32 : decode cX2_around 32 = .ok (.ldc2_w 31, 3) := by decide +kernel
theorem dX2_around_35 : decode cX2_around 35 = .ok (.lxor, 1) := by decide +kernel
theorem dX2_around_36 : decode cX2_around 36 = .ok (.land, 1) := by decide +kernel
theorem dX2_around_37 : decode cX2_around 37 = .ok (.iconst 1, 1) := by decide +kernel
theorem dX2_around_38 : decode cX2_around 38 = .ok (.lushr, 1) := by decide +kernel
theorem dX2_around_39 : decode cX2_around 39 = .ok (.lload_n 1, 1) := by decide +kernel
theorem dX2_around_40 : decode cX2_around 40 = .ok (.aload_n 0, 1) := by decide +kernel
theorem dX2_around_41 : decode cX2_around 41 = .ok (.getfield 25, 3) := by decide +kernel
theorem dX2_around_44 : decode cX2_around 44 = .ok (.land, 1) := by decide +kernel
theorem dX2_around_45 : decode cX2_around 45 = .ok (.aload_n 0, 1) := by decide +kernel
theorem dX2_around_46 : decode cX2_around 46 = .ok (.getfield 15, 3) := by decide +kernel
theorem dX2_around_49 : decode cX2_around 49 = .ok (.iconst 1, 1) := by decide +kernel
theorem dX2_around_50 : decode cX2_around 50 = .ok (.isub, 1) := by decide +kernel
theorem dX2_around_51 : decode cX2_around 51 = .ok (.lshl, 1) := by decide +kernel
theorem dX2_around_52 : decode cX2_around 52 = .ok (.lor, 1) := by decide +kernel
theorem dX2_around_53 : decode cX2_around 53 = .ok (.lstore 5, 2) := by decide +kernel
theorem dX2_around_55 : decode cX2_around 55 = .ok (.lload_n 1, 1) := by decide +kernel
theorem dX2_around_56 : decode cX2_around 56 = .ok (.aload_n 0, 1) := by decide +kernel
theorem dX2_around_57 : decode cX2_around 57 = .ok (.getfield 15, 3) := by decide +kernel
theorem dX2_around_60 : decode cX2_around 60 = .ok (.lshl, 1) := by decide +kernel
theorem dX2_around_61 : decode cX2_around 61 = .ok (.aload_n 0, 1) := by decide +kernel
theorem dX2_around_62 : decode cX2_around 62 = .ok (.getfield 21, 3) := by decide +kernel
theorem dX2_around_65 : decode cX2_around 65 = .ok (.land, 1) := by decide +kernel
theorem dX2_around_66 : decode cX2_around 66 = .ok (.lstore 7, 2) := by decide +kernel
theorem dX2_around_68 : decode cX2_around 68 = .ok (.lload_n 1, 1) := by decide +kernel
theorem dX2_around_69 : decode cX2_around 69 = .ok (.aload_n 0, 1) := by decide +kernel
theorem dX2_around_70 : decode cX2_around 70 = .ok (.getfield 15, 3) := by decide +kernel
theorem dX2_around_73 : decode cX2_around 73 = .ok (.lushr, 1) := by decide +kernel
theorem dX2_around_74 : decode cX2_around 74 = .ok (.lstore 9, 2) := by decide +kernel
theorem dX2_around_76 : decode cX2_around 76 = .ok (.lload_n 3, 1) := by decide +kernel
theorem dX2_around_77 : decode cX2_around 77 = .ok (.lload 5, 2) := by decide +kernel
theorem dX2_around_79 : decode cX2_around 79 = .ok (.lor, 1) := by decide +kernel
theorem dX2_around_80 : decode cX2_around 80 = .ok (.lload 7, 2) := by decide +kernel
theorem dX2_around_82 : decode cX2_around 82 = .ok (.lor, 1) := by decide +kernel
theorem dX2_around_83 : decode cX2_around 83 = .ok (.lload 9, 2) := by decide +kernel
theorem dX2_around_85 : decode cX2_around 85 = .ok (.lor, 1) := by decide +kernel
theorem dX2_around_86 : decode cX2_around 86 = .ok (.lreturn, 1) := by decide +kernel
theorem dX2_reach_0 : decode cX2_reach 0 = .ok (.lload_n 1, 1) := by decide +kernel
theorem dX2_reach_1 : decode cX2_reach 1 = .ok (.lstore 5, 2) := by decide +kernel
theorem dX2_reach_3 : decode cX2_reach 3 = .ok (.iconst 0, 1) := by decide +kernel
theorem dX2_reach_4 : decode cX2_reach 4 = .ok (.istore 7, 2) := by decide +kernel
theorem dX2_reach_6 : decode cX2_reach 6 = .ok (.iload 7, 2) := by decide +kernel
theorem dX2_reach_8 : decode cX2_reach 8 = .ok (.aload_n 0, 1) := by decide +kernel
theorem dX2_reach_9 : decode cX2_reach 9 = .ok (.getfield 18, 3) := by decide +kernel
theorem dX2_reach_12 : decode cX2_reach 12 = .ok (.if_icmp .ge 37, 3) := by decide +kernel
theorem dX2_reach_15 : decode cX2_reach 15 = .ok (.lload 5, 2) := by decide +kernel
theorem dX2_reach_17 : decode cX2_reach 17 = .ok (.aload_n 0, 1) := by decide +kernel
theorem dX2_reach_18 : decode cX2_reach 18 = .ok (.lload 5, 2) := by decide +kernel
theorem dX2_reach_20 : decode cX2_reach 20 = .ok (.invokevirtual 33, 3) := by decide +kernel
theorem dX2_reach_23 : decode cX2_reach 23 = .ok (.lload_n 3, 1) := by decide +kernel
theorem dX2_reach_24 : decode cX2_reach 24 = .ok (.land, 1) := by decide +kernel
theorem dX2_reach_25 : decode cX2_reach 25 = .ok (.lor, 1) := by decide +kernel
theorem dX2_reach_26 : decode cX2_reach 26 = .ok (.lstore 8, 2) := by decide +kernel
theorem dX2_reach_28 : decode cX2_reach 28 = .ok (.lload 8, 2) := by decide +kernel
theorem dX2_reach_30 : decode cX2_reach 30 = .ok (.lload 5, 2) := by decide +kernel
theorem dX2_reach_32 : decode cX2_reach 32 = .ok (.lcmp, 1) := by decide +kernel
theorem dX2_reach_33 : decode cX2_reach 33 = .ok (.ifCond .ne 6, 3) := by decide +kernel
theorem dX2_reach_36 : decode cX2_reach 36 = .ok (.lload 5, 2) := by decide +kernel
theorem dX2_reach_38 : decode cX2_reach 38 = .ok (.lreturn, 1) := by decide +kernel
theorem dX2_reach_39 : decode cX2_reach 39 = .ok (.lload 8, 2) := by decide +kernel
theorem dX2_reach_41 : decode cX2_reach 41 = .ok (.lstore 5, 2) := by decide +kernel
theorem dX2_reach_43 : decode cX2_reach 43 = .ok (.iinc 7 1, 3) := by decide +kernel
theorem dX2_reach_46 : decode cX2_reach 46 = .ok (.goto (-40), 3) := by decide +kernel
theorem dX2_reach_49 : decode cX2_reach 49 = .ok (.lload 5, 2) := by decide +kernel
theorem dX2_reach_51 : decode cX2_reach 51 = .ok (.lreturn, 1) := by decide +kernel
theorem dX2_groups_0 : decode cX2_groups 0 = .ok (.iconst 0, 1) := by decide +kernel
theorem dX2_groups_1 : decode cX2_groups 1 = .ok (.istore 5, 2) := by decide +kernel
theorem dX2_groups_3 : decode cX2_groups 3 = .ok (.lload_n 1, 1) := by decide +kernel
theorem dX2_groups_4 : decode cX2_groups 4 = .ok (.lstore 6, 2) := by decide +kernel
theorem dX2_groups_6 : decode cX2_groups 6 = .ok (.iconst 0, 1) := by decide +kernel
theorem dX2_groups_7 : decode cX2_groups 7 = .ok (.istore 8, 2) := by decide +kernel
theorem dX2_groups_9 : decode cX2_groups 9 = .ok (.iload 8, 2) := by decide +kernel
theorem dX2_groups_11 : decode cX2_groups 11 = .ok (.aload_n 0, 1) := by decide +kernel
theorem dX2_groups_12 : decode cX2_groups 12 = .ok (.getfield 18, 3) := by decide +kernel
theorem dX2_groups_15 : decode cX2_groups 15 = .ok (.if_icmp .ge 44, 3) := by decide +kernel
theorem dX2_groups_18 : decode cX2_groups 18 = .ok (.lconst 1, 1) := by decide +kernel
theorem dX2_groups_19 : decode cX2_groups 19 = .ok (.iload 8, 2) := by decide +kernel
theorem dX2_groups_21 : decode cX2_groups 21 = .ok (.lshl, 1) := by decide +kernel
theorem dX2_groups_22 : decode cX2_groups 22 = .ok (.lstore 9, 2) := by decide +kernel
theorem dX2_groups_24 : decode cX2_groups 24 = .ok (.lload 6, 2) := by decide +kernel
theorem dX2_groups_26 : decode cX2_groups 26 = .ok (.lload 9, 2) := by decide +kernel
theorem dX2_groups_28 : decode cX2_groups 28 = .ok (.land, 1) := by decide +kernel
theorem dX2_groups_29 : decode cX2_groups 29 = .ok (.lconst 0, 1) := by decide +kernel
theorem dX2_groups_30 : decode cX2_groups 30 = .ok (.lcmp, 1) := by decide +kernel
theorem dX2_groups_31 : decode cX2_groups 31 = .ok (.ifCond .eq 22, 3) := by decide +kernel
theorem dX2_groups_34 : decode cX2_groups 34 = .ok (.iinc 5 1, 3) := by decide +kernel
theorem dX2_groups_37 : decode cX2_groups 37 = .ok (.lload 6, 2) := by decide +kernel
theorem dX2_groups_39 : decode cX2_groups 39 = .ok (.aload_n 0, 1) := by decide +kernel
theorem dX2_groups_40 : decode cX2_groups 40 = .ok (.lload 9, 2) := by decide +kernel
theorem dX2_groups_42 : decode cX2_groups 42 = .ok (.lload_n 3, 1) := by decide +kernel
theorem dX2_groups_43 : decode cX2_groups 43 = .ok (.invokevirtual 37, 3) := by decide +kernel
theorem dX2_groups_46 : decode cX2_groups 46 = .ok (.ldc2_w 31, 3) := by decide +kernel
theorem dX2_groups_49 : decode cX2_groups 49 = .ok (.lxor, 1) := by decide +kernel
theorem dX2_groups_50 : decode cX2_groups 50 = .ok (.land, 1) := by decide +kernel
theorem dX2_groups_51 : decode cX2_groups 51 = .ok (.lstore 6, 2) := by decide +kernel
theorem dX2_groups_53 : decode cX2_groups 53 = .ok (.iinc 8 1, 3) := by decide +kernel
theorem dX2_groups_56 : decode cX2_groups 56 = .ok (.goto (-47), 3) := by decide +kernel
theorem dX2_groups_59 : decode cX2_groups 59 = .ok (.iload 5, 2) := by decide +kernel
theorem dX2_groups_61 : decode cX2_groups 61 = .ok (.ireturn, 1) := by decide +kernel
theorem dX2_freedoms_0 : decode cX2_freedoms 0 = .ok (.aload_n 0, 1) := by decide +kernel
theorem dX2_freedoms_1 : decode cX2_freedoms 1 = .ok (.lload_n 1, 1) := by decide +kernel
theorem dX2_freedoms_2 : decode cX2_freedoms 2 = .ok (.invokevirtual 33, 3) := by decide +kernel
theorem dX2_freedoms_5 : decode cX2_freedoms 5 = .ok (.lload_n 3, 1) := by decide +kernel
theorem dX2_freedoms_6 : decode cX2_freedoms 6 = .ok (.ldc2_w 31, 3) := by decide +kernel
theorem dX2_freedoms_9 : decode cX2_freedoms 9 = .ok (.lxor, 1) := by decide +kernel
theorem dX2_freedoms_10 : decode cX2_freedoms 10 = .ok (.land, 1) := by decide +kernel
theorem dX2_freedoms_11 : decode cX2_freedoms 11 = .ok (.lreturn, 1) := by decide +kernel
theorem dX2_stuckOf_0 : decode cX2_stuckOf 0 = .ok (.lload_n 1, 1) := by decide +kernel
theorem dX2_stuckOf_1 : decode cX2_stuckOf 1 = .ok (.aload_n 0, 1) := by decide +kernel
theorem dX2_stuckOf_2 : decode cX2_stuckOf 2 = .ok (.lload_n 1, 1) := by decide +kernel
theorem dX2_stuckOf_3 : decode cX2_stuckOf 3 = .ok (.aload_n 0, 1) := by decide +kernel
theorem dX2_stuckOf_4 : decode cX2_stuckOf 4 = .ok (.aload_n 0, 1) := by decide +kernel
theorem dX2_stuckOf_5 : decode cX2_stuckOf 5 = .ok (.lload_n 3, 1) := by decide +kernel
theorem dX2_stuckOf_6 : decode cX2_stuckOf 6 = .ok (.invokevirtual 41, 3) := by decide +kernel
theorem dX2_stuckOf_9 : decode cX2_stuckOf 9 = .ok (.invokevirtual 33, 3) := by decide +kernel
theorem dX2_stuckOf_12 : decode cX2_stuckOf 12 = .ok (.land, 1) := by decide +kernel
theorem dX2_stuckOf_13 : decode cX2_stuckOf 13 = .ok (.lload_n 1, 1) := by decide +kernel
theorem dX2_stuckOf_14 : decode cX2_stuckOf 14 = .ok (.invokevirtual 37, 3) := by decide +kernel
theorem dX2_stuckOf_17 : decode cX2_stuckOf 17 = .ok (.ldc2_w 31, 3) := by decide +kernel
theorem dX2_stuckOf_20 : decode cX2_stuckOf 20 = .ok (.lxor, 1) := by decide +kernel
theorem dX2_stuckOf_21 : decode cX2_stuckOf 21 = .ok (.land, 1) := by decide +kernel
theorem dX2_stuckOf_22 : decode cX2_stuckOf 22 = .ok (.lreturn, 1) := by decide +kernel
theorem dX2_hasStuckChain_0 : decode cX2_hasStuckChain 0 = .ok (.lload_n 1, 1) := by decide +kernel
theorem dX2_hasStuckChain_1 : decode cX2_hasStuckChain 1 = .ok (.lload_n 3, 1) := by decide +kernel
theorem dX2_hasStuckChain_2 : decode cX2_hasStuckChain 2 = .ok (.lor, 1) := by decide +kernel
theorem dX2_hasStuckChain_3 : decode cX2_hasStuckChain 3 = .ok (.lstore 5, 2) := by decide +kernel
theorem dX2_hasStuckChain_5 : decode cX2_hasStuckChain 5 = .ok (.aload_n 0, 1) := by decide +kernel
theorem dX2_hasStuckChain_6 : decode cX2_hasStuckChain 6 = .ok (.lload_n 1, 1) := by decide +kernel
theorem dX2_hasStuckChain_7 : decode cX2_hasStuckChain 7 = .ok (.lload 5, 2) := by decide +kernel
theorem dX2_hasStuckChain_9 : decode cX2_hasStuckChain 9 = .ok (.invokevirtual 44, 3) := by decide +kernel
theorem dX2_hasStuckChain_12 : decode cX2_hasStuckChain 12 = .ok (.lconst 0, 1) := by decide +kernel
theorem dX2_hasStuckChain_13 : decode cX2_hasStuckChain 13 = .ok (.lcmp, 1) := by decide +kernel
theorem dX2_hasStuckChain_14 : decode cX2_hasStuckChain 14 = .ok (.ifCond .ne 15, 3) := by decide +kernel
theorem dX2_hasStuckChain_17 : decode cX2_hasStuckChain 17 = .ok (.aload_n 0, 1) := by decide +kernel
theorem dX2_hasStuckChain_18 : decode cX2_hasStuckChain 18 = .ok (.lload_n 3, 1) := by decide +kernel
theorem dX2_hasStuckChain_19 : decode cX2_hasStuckChain 19 = .ok (.lload 5, 2) := by decide +kernel
theorem dX2_hasStuckChain_21 : decode cX2_hasStuckChain 21 = .ok (.invokevirtual 44, 3) := by decide +kernel
theorem dX2_hasStuckChain_24 : decode cX2_hasStuckChain 24 = .ok (.lconst 0, 1) := by decide +kernel
theorem dX2_hasStuckChain_25 : decode cX2_hasStuckChain 25 = .ok (.lcmp, 1) := by decide +kernel
theorem dX2_hasStuckChain_26 : decode cX2_hasStuckChain 26 = .ok (.ifCond .eq 7, 3) := by decide +kernel
theorem dX2_hasStuckChain_29 : decode cX2_hasStuckChain 29 = .ok (.iconst 1, 1) := by decide +kernel
theorem dX2_hasStuckChain_30 : decode cX2_hasStuckChain 30 = .ok (.goto 4, 3) := by decide +kernel
theorem dX2_hasStuckChain_33 : decode cX2_hasStuckChain 33 = .ok (.iconst 0, 1) := by decide +kernel
theorem dX2_hasStuckChain_34 : decode cX2_hasStuckChain 34 = .ok (.ireturn, 1) := by decide +kernel
theorem dX3_fewestMoves_0 : decode cX3_fewestMoves 0 = .ok (.aload_n 0, 1) := by decide +kernel
theorem dX3_fewestMoves_1 : decode cX3_fewestMoves 1 = .ok (.iload_n 1, 1) := by decide +kernel
theorem dX3_fewestMoves_2 : decode cX3_fewestMoves 2 = .ok (.invokevirtual 9, 3) := by decide +kernel
theorem dX3_fewestMoves_5 : decode cX3_fewestMoves 5 = .ok (.istore_n 2, 1) := by decide +kernel
theorem dX3_fewestMoves_6 : decode cX3_fewestMoves 6 = .ok (.aload_n 0, 1) := by decide +kernel
theorem dX3_fewestMoves_7 : decode cX3_fewestMoves 7 = .ok (.iload_n 2, 1) := by decide +kernel
theorem dX3_fewestMoves_8 : decode cX3_fewestMoves 8 = .ok (.invokevirtual 15, 3) := by decide +kernel
theorem dX3_fewestMoves_11 : decode cX3_fewestMoves 11 = .ok (.lstore_n 3, 1) := by decide +kernel
theorem dX3_fewestMoves_12 : decode cX3_fewestMoves 12 = .ok (.aload_n 0, 1) := by decide +kernel
theorem dX3_fewestMoves_13 : decode cX3_fewestMoves 13 = .ok (.iconst 3, 1) := by decide +kernel
theorem dX3_fewestMoves_14 : decode cX3_fewestMoves 14 = .ok (.iload_n 2, 1) := by decide +kernel
theorem dX3_fewestMoves_15 : decode cX3_fewestMoves 15 = .ok (.isub, 1) := by decide +kernel
theorem dX3_fewestMoves_16 : decode cX3_fewestMoves 16 = .ok (.invokevirtual 15, 3) := by decide +kernel
theorem dX3_fewestMoves_19 : decode cX3_fewestMoves 19 = .ok (.lstore 5, 2) := by decide +kernel
theorem dX3_fewestMoves_21 : decode cX3_fewestMoves 21 = .ok (.aload_n 0, 1) := by decide +kernel
theorem dX3_fewestMoves_22 : decode cX3_fewestMoves 22 = .ok (.getfield 19, 3) := by decide +kernel
theorem dX3_fewestMoves_25 : decode cX3_fewestMoves 25 = .ok (.lload_n 3, 1) := by decide +kernel
theorem dX3_fewestMoves_26 : decode cX3_fewestMoves 26 = .ok (.lload 5, 2) := by decide +kernel
theorem dX3_fewestMoves_28 : decode cX3_fewestMoves 28 = .ok (.lconst 1, 1) := by decide +kernel
theorem dX3_fewestMoves_29 : decode cX3_fewestMoves 29 = .ok (.iload_n 1, 1) := by decide +kernel
theorem dX3_fewestMoves_30 : decode cX3_fewestMoves 30 = .ok (.lshl, 1) := by decide +kernel
theorem dX3_fewestMoves_31 : decode cX3_fewestMoves 31 = .ok (.bipush 8, 2) := by decide +kernel
theorem dX3_fewestMoves_33 : decode cX3_fewestMoves 33 = .ok (.invokestatic 25, 3) := by decide +kernel
theorem dX3_fewestMoves_36 : decode cX3_fewestMoves 36 = .ok (.istore 7, 2) := by decide +kernel
theorem dX3_fewestMoves_38 : decode cX3_fewestMoves 38 = .ok (.iload 7, 2) := by decide +kernel
theorem dX3_fewestMoves_40 : decode cX3_fewestMoves 40 = .ok (.bipush 8, 2) := by decide +kernel
theorem dX3_fewestMoves_42 : decode cX3_fewestMoves 42 = .ok (.if_icmp .le 7, 3) := by decide +kernel
theorem dX3_fewestMoves_45 : decode cX3_fewestMoves 45 = .ok (.iconst (-1), 1) := by decide +kernel
theorem dX3_fewestMoves_46 : decode cX3_fewestMoves 46 = .ok (.goto 5, 3) := by decide +kernel
theorem dX3_fewestMoves_49 : decode cX3_fewestMoves 49 = .ok (.iload 7, 2) := by decide +kernel
theorem dX3_fewestMoves_51 : decode cX3_fewestMoves 51 = .ok (.ireturn, 1) := by decide +kernel
theorem dX3_tryAll_0 : decode cX3_tryAll 0 = .ok (.aload_n 0, 1) := by decide +kernel
theorem dX3_tryAll_1 : decode cX3_tryAll 1 = .ok (.lload 5, 2) := by decide +kernel
theorem dX3_tryAll_3 : decode cX3_tryAll 3 = .ok (.lload_n 1, 1) := by decide +kernel
theorem dX3_tryAll_4 : decode cX3_tryAll 4 = .ok (.invokevirtual 29, 3) := by decide +kernel
theorem dX3_tryAll_7 : decode cX3_tryAll 7 = .ok (.lstore 8, 2) := by decide +kernel
theorem dX3_tryAll_9 : decode cX3_tryAll 9 = .ok (.aload_n 0, 1) := by decide +kernel
theorem dX3_tryAll_10 : decode cX3_tryAll 10 = .ok (.lload 8, 2) := by decide +kernel
theorem dX3_tryAll_12 : decode cX3_tryAll 12 = .ok (.lload_n 1, 1) := by decide +kernel
theorem dX3_tryAll_13 : decode cX3_tryAll 13 = .ok (.lload_n 3, 1) := by decide +kernel
theorem dX3_tryAll_14 : decode cX3_tryAll 14 = .ok (.lor, 1) := by decide +kernel
theorem dX3_tryAll_15 : decode cX3_tryAll 15 = .ok (.invokevirtual 35, 3) := by decide +kernel
theorem dX3_tryAll_18 : decode cX3_tryAll 18 = .ok (.lstore 10, 2) := by decide +kernel
theorem dX3_tryAll_20 : decode cX3_tryAll 20 = .ok (.iload 7, 2) := by decide +kernel
theorem dX3_tryAll_22 : decode cX3_tryAll 22 = .ok (.iconst 1, 1) := by decide +kernel
theorem dX3_tryAll_23 : decode cX3_tryAll 23 = .ok (.if_icmp .lt 12, 3) := by decide +kernel
theorem dX3_tryAll_26 : decode cX3_tryAll 26 = .ok (.lload 10, 2) := by decide +kernel
theorem dX3_tryAll_28 : decode cX3_tryAll 28 = .ok (.invokestatic 38, 3) := by decide +kernel
theorem dX3_tryAll_31 : decode cX3_tryAll 31 = .ok (.iconst 2, 1) := by decide +kernel
theorem dX3_tryAll_32 : decode cX3_tryAll 32 = .ok (.if_icmp .le 6, 3) := by decide +kernel
theorem dX3_tryAll_35 : decode cX3_tryAll 35 = .ok (.bipush 100, 2) := by decide +kernel
theorem dX3_tryAll_37 : decode cX3_tryAll 37 = .ok (.ireturn, 1) := by decide +kernel
theorem dX3_tryAll_38 : decode cX3_tryAll 38 = .ok (.bipush 100, 2) := by decide +kernel
theorem dX3_tryAll_40 : decode cX3_tryAll 40 = .ok (.istore 12, 2) := by decide +kernel
theorem dX3_tryAll_42 : decode cX3_tryAll 42 = .ok (.iconst 0, 1) := by decide +kernel
theorem dX3_tryAll_43 : decode cX3_tryAll 43 = .ok (.istore 13, 2) := by decide +kernel
theorem dX3_tryAll_45 : decode cX3_tryAll 45 = .ok (.iload 13, 2) := by decide +kernel
theorem dX3_tryAll_47 : decode cX3_tryAll 47 = .ok (.aload_n 0, 1) := by decide +kernel
theorem dX3_tryAll_48 : decode cX3_tryAll 48 = .ok (.getfield 44, 3) := by decide +kernel
theorem dX3_tryAll_51 : decode cX3_tryAll 51 = .ok (.if_icmp .ge 42, 3) := by decide +kernel
theorem dX3_tryAll_54 : decode cX3_tryAll 54 = .ok (.lload 10, 2) := by decide +kernel
theorem dX3_tryAll_56 : decode cX3_tryAll 56 = .ok (.lconst 1, 1) := by decide +kernel
theorem dX3_tryAll_57 : decode cX3_tryAll 57 = .ok (.iload 13, 2) := by decide +kernel
theorem dX3_tryAll_59 : decode cX3_tryAll 59 = .ok (.lshl, 1) := by decide +kernel
theorem dX3_tryAll_60 : decode cX3_tryAll 60 = .ok (.land, 1) := by decide +kernel
theorem dX3_tryAll_61 : decode cX3_tryAll 61 = .ok (.lconst 0, 1) := by decide +kernel
theorem dX3_tryAll_62 : decode cX3_tryAll 62 = .ok (.lcmp, 1) := by decide +kernel
theorem dX3_tryAll_63 : decode cX3_tryAll 63 = .ok (.ifCond .eq 24, 3) := by decide +kernel
theorem dX3_tryAll_66 : decode cX3_tryAll 66 = .ok (.iload 12, 2) := by decide +kernel
theorem dX3_tryAll_68 : decode cX3_tryAll 68 = .ok (.aload_n 0, 1) := by decide +kernel
theorem dX3_tryAll_69 : decode cX3_tryAll 69 = .ok (.lload_n 1, 1) := by decide +kernel
theorem dX3_tryAll_70 : decode cX3_tryAll 70 = .ok (.lload_n 3, 1) := by decide +kernel
theorem dX3_tryAll_71 : decode cX3_tryAll 71 = .ok (.lload 8, 2) := by decide +kernel
theorem dX3_tryAll_73 : decode cX3_tryAll 73 = .ok (.lconst 1, 1) := by decide +kernel
theorem dX3_tryAll_74 : decode cX3_tryAll 74 = .ok (.iload 13, 2) := by decide +kernel
theorem dX3_tryAll_76 : decode cX3_tryAll 76 = .ok (.lshl, 1) := by decide +kernel
theorem dX3_tryAll_77 : decode cX3_tryAll 77 = .ok (.iload 7, 2) := by decide +kernel
theorem dX3_tryAll_79 : decode cX3_tryAll 79 = .ok (.invokestatic 48, 3) := by decide +kernel
theorem dX3_tryAll_82 : decode cX3_tryAll 82 = .ok (.invokestatic 52, 3) := by decide +kernel
theorem dX3_tryAll_85 : decode cX3_tryAll 85 = .ok (.istore 12, 2) := by decide +kernel
theorem dX3_tryAll_87 : decode cX3_tryAll 87 = .ok (.iinc 13 1, 3) := by decide +kernel
theorem dX3_tryAll_90 : decode cX3_tryAll 90 = .ok (.goto (-45), 3) := by decide +kernel
theorem dX3_tryAll_93 : decode cX3_tryAll 93 = .ok (.iload 12, 2) := by decide +kernel
theorem dX3_tryAll_95 : decode cX3_tryAll 95 = .ok (.ireturn, 1) := by decide +kernel
theorem dX3_tryOne_0 : decode cX3_tryOne 0 = .ok (.lload_n 3, 1) := by decide +kernel
theorem dX3_tryOne_1 : decode cX3_tryOne 1 = .ok (.lload 7, 2) := by decide +kernel
theorem dX3_tryOne_3 : decode cX3_tryOne 3 = .ok (.lor, 1) := by decide +kernel
theorem dX3_tryOne_4 : decode cX3_tryOne 4 = .ok (.lstore 10, 2) := by decide +kernel
theorem dX3_tryOne_6 : decode cX3_tryOne 6 = .ok (.aload_n 0, 1) := by decide +kernel
theorem dX3_tryOne_7 : decode cX3_tryOne 7 = .ok (.lload_n 1, 1) := by decide +kernel
theorem dX3_tryOne_8 : decode cX3_tryOne 8 = .ok (.lload_n 1, 1) := by decide +kernel
theorem dX3_tryOne_9 : decode cX3_tryOne 9 = .ok (.lload 10, 2) := by decide +kernel
theorem dX3_tryOne_11 : decode cX3_tryOne 11 = .ok (.lor, 1) := by decide +kernel
theorem dX3_tryOne_12 : decode cX3_tryOne 12 = .ok (.invokevirtual 58, 3) := by decide +kernel
theorem dX3_tryOne_15 : decode cX3_tryOne 15 = .ok (.lstore 12, 2) := by decide +kernel
theorem dX3_tryOne_17 : decode cX3_tryOne 17 = .ok (.lload 12, 2) := by decide +kernel
theorem dX3_tryOne_19 : decode cX3_tryOne 19 = .ok (.lload 5, 2) := by decide +kernel
theorem dX3_tryOne_21 : decode cX3_tryOne 21 = .ok (.land, 1) := by decide +kernel
theorem dX3_tryOne_22 : decode cX3_tryOne 22 = .ok (.lconst 0, 1) := by decide +kernel
theorem dX3_tryOne_23 : decode cX3_tryOne 23 = .ok (.lcmp, 1) := by decide +kernel
theorem dX3_tryOne_24 : decode cX3_tryOne 24 = .ok (.ifCond .eq 5, 3) := by decide +kernel
theorem dX3_tryOne_27 : decode cX3_tryOne 27 = .ok (.iconst 1, 1) := by decide +kernel
theorem dX3_tryOne_28 : decode cX3_tryOne 28 = .ok (.ireturn, 1) := by decide +kernel
theorem dX3_tryOne_29 : decode cX3_tryOne 29 = .ok (.lload_n 1, 1) := by decide +kernel
theorem dX3_tryOne_30 : decode cX3_tryOne 30 = .ok (.lload 12, 2) := by decide +kernel
theorem dX3_tryOne_32 : decode cX3_tryOne 32 = .ok (.ldc2_w 61, 3) := by decide +kernel
theorem dX3_tryOne_35 : decode cX3_tryOne 35 = .ok (.lxor, 1) := by decide +kernel
theorem dX3_tryOne_36 : decode cX3_tryOne 36 = .ok (.land, 1) := by decide +kernel
theorem dX3_tryOne_37 : decode cX3_tryOne 37 = .ok (.lstore 14, 2) := by decide +kernel
theorem dX3_tryOne_39 : decode cX3_tryOne 39 = .ok (.lload 14, 2) := by decide +kernel
theorem dX3_tryOne_41 : decode cX3_tryOne 41 = .ok (.lload 10, 2) := by decide +kernel
theorem dX3_tryOne_43 : decode cX3_tryOne 43 = .ok (.lor, 1) := by decide +kernel
theorem dX3_tryOne_44 : decode cX3_tryOne 44 = .ok (.lstore 16, 2) := by decide +kernel
theorem dX3_tryOne_46 : decode cX3_tryOne 46 = .ok (.aload_n 0, 1) := by decide +kernel
theorem dX3_tryOne_47 : decode cX3_tryOne 47 = .ok (.aload_n 0, 1) := by decide +kernel
theorem dX3_tryOne_48 : decode cX3_tryOne 48 = .ok (.lload 7, 2) := by decide +kernel
theorem dX3_tryOne_50 : decode cX3_tryOne 50 = .ok (.lload 10, 2) := by decide +kernel
theorem dX3_tryOne_52 : decode cX3_tryOne 52 = .ok (.invokevirtual 29, 3) := by decide +kernel
theorem dX3_tryOne_55 : decode cX3_tryOne 55 = .ok (.lload 16, 2) := by decide +kernel
theorem dX3_tryOne_57 : decode cX3_tryOne 57 = .ok (.invokevirtual 35, 3) := by decide +kernel
theorem dX3_tryOne_60 : decode cX3_tryOne 60 = .ok (.lconst 0, 1) := by decide +kernel
theorem dX3_tryOne_61 : decode cX3_tryOne 61 = .ok (.lcmp, 1) := by decide +kernel
theorem dX3_tryOne_62 : decode cX3_tryOne 62 = .ok (.ifCond .ne 7, 3) := by decide +kernel
theorem dX3_tryOne_65 : decode cX3_tryOne 65 = .ok (.iconst 1, 1) := by decide +kernel
theorem dX3_tryOne_66 : decode cX3_tryOne 66 = .ok (.goto 4, 3) := by decide +kernel
theorem dX3_tryOne_69 : decode cX3_tryOne 69 = .ok (.iconst 0, 1) := by decide +kernel
theorem dX3_tryOne_70 : decode cX3_tryOne 70 = .ok (.istore 18, 2) := by decide +kernel
theorem dX3_tryOne_72 : decode cX3_tryOne 72 = .ok (.aload_n 0, 1) := by decide +kernel
theorem dX3_tryOne_73 : decode cX3_tryOne 73 = .ok (.lload 5, 2) := by decide +kernel
theorem dX3_tryOne_75 : decode cX3_tryOne 75 = .ok (.lload 16, 2) := by decide +kernel
theorem dX3_tryOne_77 : decode cX3_tryOne 77 = .ok (.invokevirtual 35, 3) := by decide +kernel
theorem dX3_tryOne_80 : decode cX3_tryOne 80 = .ok (.lstore 19, 2) := by decide +kernel
theorem dX3_tryOne_82 : decode cX3_tryOne 82 = .ok (.iload 18, 2) := by decide +kernel
theorem dX3_tryOne_84 : decode cX3_tryOne 84 = .ok (.ifCond .ne 18, 3) := by decide +kernel
theorem dX3_tryOne_87 : decode cX3_tryOne 87 = .ok (.iload 9, 2) := by decide +kernel
theorem dX3_tryOne_89 : decode cX3_tryOne 89 = .ok (.iconst 2, 1) := by decide +kernel
theorem dX3_tryOne_90 : decode cX3_tryOne 90 = .ok (.if_icmp .lt 12, 3) := by decide +kernel
theorem dX3_tryOne_93 : decode cX3_tryOne 93 = .ok (.lload 19, 2) := by decide +kernel
theorem dX3_tryOne_95 : decode cX3_tryOne 95 = .ok (.invokestatic 38, 3) := by decide +kernel
theorem dX3_tryOne_98 : decode cX3_tryOne 98 = .ok (.iconst 1, 1) := by decide +kernel
theorem dX3_tryOne_99 : decode cX3_tryOne 99 = .ok (.if_icmp .eq 6, 3) := by decide +kernel
theorem dX3_tryOne_102 : decode cX3_tryOne 102 = .ok (.bipush 100, 2) := by decide +kernel
theorem dX3_tryOne_104 : decode cX3_tryOne 104 = .ok (.ireturn, 1) := by decide +kernel
theorem dX3_tryOne_105 : decode cX3_tryOne 105 = .ok (.iconst 1, 1) := by decide +kernel
theorem dX3_tryOne_106 : decode cX3_tryOne 106 = .ok (.aload_n 0, 1) := by decide +kernel
theorem dX3_tryOne_107 : decode cX3_tryOne 107 = .ok (.lload 14, 2) := by decide +kernel
theorem dX3_tryOne_109 : decode cX3_tryOne 109 = .ok (.lload 10, 2) := by decide +kernel
theorem dX3_tryOne_111 : decode cX3_tryOne 111 = .ok (.lload 19, 2) := by decide +kernel
theorem dX3_tryOne_113 : decode cX3_tryOne 113 = .ok (.iload 9, 2) := by decide +kernel
theorem dX3_tryOne_115 : decode cX3_tryOne 115 = .ok (.iconst 1, 1) := by decide +kernel
theorem dX3_tryOne_116 : decode cX3_tryOne 116 = .ok (.isub, 1) := by decide +kernel
theorem dX3_tryOne_117 : decode cX3_tryOne 117 = .ok (.invokestatic 63, 3) := by decide +kernel
theorem dX3_tryOne_120 : decode cX3_tryOne 120 = .ok (.iadd, 1) := by decide +kernel
theorem dX3_tryOne_121 : decode cX3_tryOne 121 = .ok (.ireturn, 1) := by decide +kernel
theorem dX3_tryBehindEscape_0 : decode cX3_tryBehindEscape 0 = .ok (.lload_n 1, 1) := by decide +kernel
theorem dX3_tryBehindEscape_1 : decode cX3_tryBehindEscape 1 = .ok (.lload 5, 2) := by decide +kernel
theorem dX3_tryBehindEscape_3 : decode cX3_tryBehindEscape 3 = .ok (.lor, 1) := by decide +kernel
theorem dX3_tryBehindEscape_4 : decode cX3_tryBehindEscape 4 = .ok (.lstore 8, 2) := by decide +kernel
theorem dX3_tryBehindEscape_6 : decode cX3_tryBehindEscape 6 = .ok (.lload_n 3, 1) := by decide +kernel
theorem dX3_tryBehindEscape_7 : decode cX3_tryBehindEscape 7 = .ok (.aload_n 0, 1) := by decide +kernel
theorem dX3_tryBehindEscape_8 : decode cX3_tryBehindEscape 8 = .ok (.lload_n 3, 1) := by decide +kernel
theorem dX3_tryBehindEscape_9 : decode cX3_tryBehindEscape 9 = .ok (.lload 8, 2) := by decide +kernel
theorem dX3_tryBehindEscape_11 : decode cX3_tryBehindEscape 11 = .ok (.lload_n 3, 1) := by decide +kernel
theorem dX3_tryBehindEscape_12 : decode cX3_tryBehindEscape 12 = .ok (.lor, 1) := by decide +kernel
theorem dX3_tryBehindEscape_13 : decode cX3_tryBehindEscape 13 = .ok (.invokevirtual 58, 3) := by decide +kernel
theorem dX3_tryBehindEscape_16 : decode cX3_tryBehindEscape 16 = .ok (.ldc2_w 61, 3) := by decide +kernel
theorem dX3_tryBehindEscape_19 : decode cX3_tryBehindEscape 19 = .ok (.lxor, 1) := by decide +kernel
theorem dX3_tryBehindEscape_20 : decode cX3_tryBehindEscape 20 = .ok (.land, 1) := by decide +kernel
theorem dX3_tryBehindEscape_21 : decode cX3_tryBehindEscape 21 = .ok (.lstore 10, 2) := by decide +kernel
theorem dX3_tryBehindEscape_23 : decode cX3_tryBehindEscape 23 = .ok (.aload_n 0, 1) := by decide +kernel
theorem dX3_tryBehindEscape_24 : decode cX3_tryBehindEscape 24 = .ok (.aload_n 0, 1) := by decide +kernel
theorem dX3_tryBehindEscape_25 : decode cX3_tryBehindEscape 25 = .ok (.lload 5, 2) := by decide +kernel
theorem dX3_tryBehindEscape_27 : decode cX3_tryBehindEscape 27 = .ok (.lload 8, 2) := by decide +kernel
theorem dX3_tryBehindEscape_29 : decode cX3_tryBehindEscape 29 = .ok (.invokevirtual 29, 3) := by decide +kernel
theorem dX3_tryBehindEscape_32 : decode cX3_tryBehindEscape 32 = .ok (.lload 8, 2) := by decide +kernel
theorem dX3_tryBehindEscape_34 : decode cX3_tryBehindEscape 34 = .ok (.lload 10, 2) := by decide +kernel
theorem dX3_tryBehindEscape_36 : decode cX3_tryBehindEscape 36 = .ok (.lor, 1) := by decide +kernel
theorem dX3_tryBehindEscape_37 : decode cX3_tryBehindEscape 37 = .ok (.invokevirtual 35, 3) := by decide +kernel
theorem dX3_tryBehindEscape_40 : decode cX3_tryBehindEscape 40 = .ok (.lconst 0, 1) := by decide +kernel
theorem dX3_tryBehindEscape_41 : decode cX3_tryBehindEscape 41 = .ok (.lcmp, 1) := by decide +kernel
theorem dX3_tryBehindEscape_42 : decode cX3_tryBehindEscape 42 = .ok (.ifCond .ne 5, 3) := by decide +kernel
theorem dX3_tryBehindEscape_45 : decode cX3_tryBehindEscape 45 = .ok (.iconst 1, 1) := by decide +kernel
theorem dX3_tryBehindEscape_46 : decode cX3_tryBehindEscape 46 = .ok (.ireturn, 1) := by decide +kernel
theorem dX3_tryBehindEscape_47 : decode cX3_tryBehindEscape 47 = .ok (.aload_n 0, 1) := by decide +kernel
theorem dX3_tryBehindEscape_48 : decode cX3_tryBehindEscape 48 = .ok (.lload 8, 2) := by decide +kernel
theorem dX3_tryBehindEscape_50 : decode cX3_tryBehindEscape 50 = .ok (.lload 10, 2) := by decide +kernel
theorem dX3_tryBehindEscape_52 : decode cX3_tryBehindEscape 52 = .ok (.lload 5, 2) := by decide +kernel
theorem dX3_tryBehindEscape_54 : decode cX3_tryBehindEscape 54 = .ok (.iload 7, 2) := by decide +kernel
theorem dX3_tryBehindEscape_56 : decode cX3_tryBehindEscape 56 = .ok (.invokestatic 25, 3) := by decide +kernel
theorem dX3_tryBehindEscape_59 : decode cX3_tryBehindEscape 59 = .ok (.ireturn, 1) := by decide +kernel
theorem dX4_init_0 : decode cX4_init 0 = .ok (.aload_n 0, 1) := by decide +kernel
theorem dX4_init_1 : decode cX4_init 1 = .ok (.invokespecial 1, 3) := by decide +kernel
theorem dX4_init_4 : decode cX4_init 4 = .ok (.aload_n 0, 1) := by decide +kernel
theorem dX4_init_5 : decode cX4_init 5 = .ok (.bipush 30, 2) := by decide +kernel
theorem dX4_init_7 : decode cX4_init 7 = .ok (.newarray .long, 2) := by decide +kernel
theorem dX4_init_9 : decode cX4_init 9 = .ok (.putfield 9, 3) := by decide +kernel
theorem dX4_init_12 : decode cX4_init 12 = .ok (.aload_n 0, 1) := by decide +kernel
theorem dX4_init_13 : decode cX4_init 13 = .ok (.bipush 30, 2) := by decide +kernel
theorem dX4_init_15 : decode cX4_init 15 = .ok (.newarray .long, 2) := by decide +kernel
theorem dX4_init_17 : decode cX4_init 17 = .ok (.putfield 13, 3) := by decide +kernel
theorem dX4_init_20 : decode cX4_init 20 = .ok (.aload_n 0, 1) := by decide +kernel
theorem dX4_init_21 : decode cX4_init 21 = .ok (.iconst 0, 1) := by decide +kernel
theorem dX4_init_22 : decode cX4_init 22 = .ok (.putfield 16, 3) := by decide +kernel
theorem dX4_init_25 : decode cX4_init 25 = .ok (.return_, 1) := by decide +kernel
theorem dX4_become_0 : decode cX4_become 0 = .ok (.iconst 0, 1) := by decide +kernel
theorem dX4_become_1 : decode cX4_become 1 = .ok (.istore_n 2, 1) := by decide +kernel
theorem dX4_become_2 : decode cX4_become 2 = .ok (.iload_n 2, 1) := by decide +kernel
theorem dX4_become_3 : decode cX4_become 3 = .ok (.bipush 30, 2) := by decide +kernel
theorem dX4_become_5 : decode cX4_become 5 = .ok (.if_icmp .ge 33, 3) := by decide +kernel
theorem dX4_become_8 : decode cX4_become 8 = .ok (.aload_n 0, 1) := by decide +kernel
theorem dX4_become_9 : decode cX4_become 9 = .ok (.getfield 9, 3) := by decide +kernel
theorem dX4_become_12 : decode cX4_become 12 = .ok (.iload_n 2, 1) := by decide +kernel
theorem dX4_become_13 : decode cX4_become 13 = .ok (.aload_n 1, 1) := by decide +kernel
theorem dX4_become_14 : decode cX4_become 14 = .ok (.getfield 9, 3) := by decide +kernel
theorem dX4_become_17 : decode cX4_become 17 = .ok (.iload_n 2, 1) := by decide +kernel
theorem dX4_become_18 : decode cX4_become 18 = .ok (.laload, 1) := by decide +kernel
theorem dX4_become_19 : decode cX4_become 19 = .ok (.lastore, 1) := by decide +kernel
theorem dX4_become_20 : decode cX4_become 20 = .ok (.aload_n 0, 1) := by decide +kernel
theorem dX4_become_21 : decode cX4_become 21 = .ok (.getfield 13, 3) := by decide +kernel
theorem dX4_become_24 : decode cX4_become 24 = .ok (.iload_n 2, 1) := by decide +kernel
theorem dX4_become_25 : decode cX4_become 25 = .ok (.aload_n 1, 1) := by decide +kernel
theorem dX4_become_26 : decode cX4_become 26 = .ok (.getfield 13, 3) := by decide +kernel
theorem dX4_become_29 : decode cX4_become 29 = .ok (.iload_n 2, 1) := by decide +kernel
theorem dX4_become_30 : decode cX4_become 30 = .ok (.laload, 1) := by decide +kernel
theorem dX4_become_31 : decode cX4_become 31 = .ok (.lastore, 1) := by decide +kernel
theorem dX4_become_32 : decode cX4_become 32 = .ok (.iinc 2 1, 3) := by decide +kernel
theorem dX4_become_35 : decode cX4_become 35 = .ok (.goto (-33), 3) := by decide +kernel
theorem dX4_become_38 : decode cX4_become 38 = .ok (.aload_n 0, 1) := by decide +kernel
theorem dX4_become_39 : decode cX4_become 39 = .ok (.aload_n 1, 1) := by decide +kernel
theorem dX4_become_40 : decode cX4_become 40 = .ok (.getfield 16, 3) := by decide +kernel
theorem dX4_become_43 : decode cX4_become 43 = .ok (.putfield 16, 3) := by decide +kernel
theorem dX4_become_46 : decode cX4_become 46 = .ok (.return_, 1) := by decide +kernel
theorem dX4_beginWith_0 : decode cX4_beginWith 0 = .ok (.aload_n 0, 1) := by decide +kernel
theorem dX4_beginWith_1 : decode cX4_beginWith 1 = .ok (.iconst 0, 1) := by decide +kernel
theorem dX4_beginWith_2 : decode cX4_beginWith 2 = .ok (.putfield 16, 3) := by decide +kernel
theorem dX4_beginWith_5 : decode cX4_beginWith 5 = .ok (.aload_n 0, 1) := by decide +kernel
theorem dX4_beginWith_6 : decode cX4_beginWith 6 = .ok (.lload_n 1, 1) := by decide +kernel
theorem dX4_beginWith_7 : decode cX4_beginWith 7 = .ok (.lload_n 3, 1) := by decide +kernel
theorem dX4_beginWith_8 : decode cX4_beginWith 8 = .ok (.invokevirtual 20, 3) := by decide +kernel
theorem dX4_beginWith_11 : decode cX4_beginWith 11 = .ok (.return_, 1) := by decide +kernel
theorem dX4_add_0 : decode cX4_add 0 = .ok (.bipush 29, 2) := by decide +kernel
theorem dX4_add_2 : decode cX4_add 2 = .ok (.istore 5, 2) := by decide +kernel
theorem dX4_add_4 : decode cX4_add 4 = .ok (.iload 5, 2) := by decide +kernel
theorem dX4_add_6 : decode cX4_add 6 = .ok (.ifCond .le 41, 3) := by decide +kernel
theorem dX4_add_9 : decode cX4_add 9 = .ok (.aload_n 0, 1) := by decide +kernel
theorem dX4_add_10 : decode cX4_add 10 = .ok (.getfield 9, 3) := by decide +kernel
theorem dX4_add_13 : decode cX4_add 13 = .ok (.iload 5, 2) := by decide +kernel
theorem dX4_add_15 : decode cX4_add 15 = .ok (.aload_n 0, 1) := by decide +kernel
theorem dX4_add_16 : decode cX4_add 16 = .ok (.getfield 9, 3) := by decide +kernel
theorem dX4_add_19 : decode cX4_add 19 = .ok (.iload 5, 2) := by decide +kernel
theorem dX4_add_21 : decode cX4_add 21 = .ok (.iconst 1, 1) := by decide +kernel
theorem dX4_add_22 : decode cX4_add 22 = .ok (.isub, 1) := by decide +kernel
theorem dX4_add_23 : decode cX4_add 23 = .ok (.laload, 1) := by decide +kernel
theorem dX4_add_24 : decode cX4_add 24 = .ok (.lastore, 1) := by decide +kernel
theorem dX4_add_25 : decode cX4_add 25 = .ok (.aload_n 0, 1) := by decide +kernel
theorem dX4_add_26 : decode cX4_add 26 = .ok (.getfield 13, 3) := by decide +kernel
theorem dX4_add_29 : decode cX4_add 29 = .ok (.iload 5, 2) := by decide +kernel
theorem dX4_add_31 : decode cX4_add 31 = .ok (.aload_n 0, 1) := by decide +kernel
theorem dX4_add_32 : decode cX4_add 32 = .ok (.getfield 13, 3) := by decide +kernel
theorem dX4_add_35 : decode cX4_add 35 = .ok (.iload 5, 2) := by decide +kernel
theorem dX4_add_37 : decode cX4_add 37 = .ok (.iconst 1, 1) := by decide +kernel
theorem dX4_add_38 : decode cX4_add 38 = .ok (.isub, 1) := by decide +kernel
theorem dX4_add_39 : decode cX4_add 39 = .ok (.laload, 1) := by decide +kernel
theorem dX4_add_40 : decode cX4_add 40 = .ok (.lastore, 1) := by decide +kernel
theorem dX4_add_41 : decode cX4_add 41 = .ok (.iinc 5 (-1), 3) := by decide +kernel
theorem dX4_add_44 : decode cX4_add 44 = .ok (.goto (-40), 3) := by decide +kernel
theorem dX4_add_47 : decode cX4_add 47 = .ok (.aload_n 0, 1) := by decide +kernel
theorem dX4_add_48 : decode cX4_add 48 = .ok (.getfield 9, 3) := by decide +kernel
theorem dX4_add_51 : decode cX4_add 51 = .ok (.iconst 0, 1) := by decide +kernel
theorem dX4_add_52 : decode cX4_add 52 = .ok (.lload_n 1, 1) := by decide +kernel
theorem dX4_add_53 : decode cX4_add 53 = .ok (.lastore, 1) := by decide +kernel
theorem dX4_add_54 : decode cX4_add 54 = .ok (.aload_n 0, 1) := by decide +kernel
theorem dX4_add_55 : decode cX4_add 55 = .ok (.getfield 13, 3) := by decide +kernel
theorem dX4_add_58 : decode cX4_add 58 = .ok (.iconst 0, 1) := by decide +kernel
theorem dX4_add_59 : decode cX4_add 59 = .ok (.lload_n 3, 1) := by decide +kernel
theorem dX4_add_60 : decode cX4_add 60 = .ok (.lastore, 1) := by decide +kernel
theorem dX4_add_61 : decode cX4_add 61 = .ok (.aload_n 0, 1) := by decide +kernel
theorem dX4_add_62 : decode cX4_add 62 = .ok (.aload_n 0, 1) := by decide +kernel
theorem dX4_add_63 : decode cX4_add 63 = .ok (.getfield 16, 3) := by decide +kernel
theorem dX4_add_66 : decode cX4_add 66 = .ok (.iconst 1, 1) := by decide +kernel
theorem dX4_add_67 : decode cX4_add 67 = .ok (.iadd, 1) := by decide +kernel
theorem dX4_add_68 : decode cX4_add 68 = .ok (.bipush 30, 2) := by decide +kernel
theorem dX4_add_70 : decode cX4_add 70 = .ok (.invokestatic 24, 3) := by decide +kernel
theorem dX4_add_73 : decode cX4_add 73 = .ok (.putfield 16, 3) := by decide +kernel
theorem dX4_add_76 : decode cX4_add 76 = .ok (.return_, 1) := by decide +kernel
theorem dX4_has_0 : decode cX4_has 0 = .ok (.iconst 0, 1) := by decide +kernel
theorem dX4_has_1 : decode cX4_has 1 = .ok (.istore 5, 2) := by decide +kernel
theorem dX4_has_3 : decode cX4_has 3 = .ok (.iload 5, 2) := by decide +kernel
theorem dX4_has_5 : decode cX4_has 5 = .ok (.aload_n 0, 1) := by decide +kernel
theorem dX4_has_6 : decode cX4_has 6 = .ok (.getfield 16, 3) := by decide +kernel
theorem dX4_has_9 : decode cX4_has 9 = .ok (.if_icmp .ge 42, 3) := by decide +kernel
theorem dX4_has_12 : decode cX4_has 12 = .ok (.iload 5, 2) := by decide +kernel
theorem dX4_has_14 : decode cX4_has 14 = .ok (.bipush 30, 2) := by decide +kernel
theorem dX4_has_16 : decode cX4_has 16 = .ok (.if_icmp .ge 35, 3) := by decide +kernel
theorem dX4_has_19 : decode cX4_has 19 = .ok (.aload_n 0, 1) := by decide +kernel
theorem dX4_has_20 : decode cX4_has 20 = .ok (.getfield 9, 3) := by decide +kernel
theorem dX4_has_23 : decode cX4_has 23 = .ok (.iload 5, 2) := by decide +kernel
theorem dX4_has_25 : decode cX4_has 25 = .ok (.laload, 1) := by decide +kernel
theorem dX4_has_26 : decode cX4_has 26 = .ok (.lload_n 1, 1) := by decide +kernel
theorem dX4_has_27 : decode cX4_has 27 = .ok (.lcmp, 1) := by decide +kernel
theorem dX4_has_28 : decode cX4_has 28 = .ok (.ifCond .ne 17, 3) := by decide +kernel
theorem dX4_has_31 : decode cX4_has 31 = .ok (.aload_n 0, 1) := by decide +kernel
theorem dX4_has_32 : decode cX4_has 32 = .ok (.getfield 13, 3) := by decide +kernel
theorem dX4_has_35 : decode cX4_has 35 = .ok (.iload 5, 2) := by decide +kernel
theorem dX4_has_37 : decode cX4_has 37 = .ok (.laload, 1) := by decide +kernel
theorem dX4_has_38 : decode cX4_has 38 = .ok (.lload_n 3, 1) := by decide +kernel
theorem dX4_has_39 : decode cX4_has 39 = .ok (.lcmp, 1) := by decide +kernel
theorem dX4_has_40 : decode cX4_has 40 = .ok (.ifCond .ne 5, 3) := by decide +kernel
theorem dX4_has_43 : decode cX4_has 43 = .ok (.iconst 1, 1) := by decide +kernel
theorem dX4_has_44 : decode cX4_has 44 = .ok (.ireturn, 1) := by decide +kernel
theorem dX4_has_45 : decode cX4_has 45 = .ok (.iinc 5 1, 3) := by decide +kernel
theorem dX4_has_48 : decode cX4_has 48 = .ok (.goto (-45), 3) := by decide +kernel
theorem dX4_has_51 : decode cX4_has 51 = .ok (.iconst 0, 1) := by decide +kernel
theorem dX4_has_52 : decode cX4_has 52 = .ok (.ireturn, 1) := by decide +kernel
theorem dX5_init_0 : decode cX5_init 0 = .ok (.aload_n 0, 1) := by decide +kernel
theorem dX5_init_1 : decode cX5_init 1 = .ok (.invokespecial 3, 3) := by decide +kernel
theorem dX5_init_4 : decode cX5_init 4 = .ok (.aload_n 0, 1) := by decide +kernel
theorem dX5_init_5 : decode cX5_init 5 = .ok (.sipush 300, 3) := by decide +kernel
theorem dX5_init_8 : decode cX5_init 8 = .ok (.newarray .byte, 2) := by decide +kernel
theorem dX5_init_10 : decode cX5_init 10 = .ok (.putfield 11, 3) := by decide +kernel
theorem dX5_init_13 : decode cX5_init 13 = .ok (.aload_n 0, 1) := by decide +kernel
theorem dX5_init_14 : decode cX5_init 14 = .ok (.new 15, 3) := by decide +kernel
theorem dX5_init_17 : decode cX5_init 17 = .ok (.dup, 1) := by decide +kernel
theorem dX5_init_18 : decode cX5_init 18 = .ok (.iconst 1, 1) := by decide +kernel
theorem dX5_init_19 : decode cX5_init 19 = .ok (.iconst 3, 1) := by decide +kernel
theorem dX5_init_20 : decode cX5_init 20 = .ok (.invokespecial 17, 3) := by decide +kernel
theorem dX5_init_23 : decode cX5_init 23 = .ok (.putfield 20, 3) := by decide +kernel
theorem dX5_init_26 : decode cX5_init 26 = .ok (.aload_n 0, 1) := by decide +kernel
theorem dX5_init_27 : decode cX5_init 27 = .ok (.iconst 0, 1) := by decide +kernel
theorem dX5_init_28 : decode cX5_init 28 = .ok (.putfield 24, 3) := by decide +kernel
theorem dX5_init_31 : decode cX5_init 31 = .ok (.aload_n 0, 1) := by decide +kernel
theorem dX5_init_32 : decode cX5_init 32 = .ok (.iconst (-1), 1) := by decide +kernel
theorem dX5_init_33 : decode cX5_init 33 = .ok (.putfield 28, 3) := by decide +kernel
theorem dX5_init_36 : decode cX5_init 36 = .ok (.return_, 1) := by decide +kernel
theorem dX5_takeFour_0 : decode cX5_takeFour 0 = .ok (.bipush 24, 2) := by decide +kernel
theorem dX5_takeFour_2 : decode cX5_takeFour 2 = .ok (.istore_n 2, 1) := by decide +kernel
theorem dX5_takeFour_3 : decode cX5_takeFour 3 = .ok (.iload_n 2, 1) := by decide +kernel
theorem dX5_takeFour_4 : decode cX5_takeFour 4 = .ok (.ifCond .lt 49, 3) := by decide +kernel
theorem dX5_takeFour_7 : decode cX5_takeFour 7 = .ok (.aload_n 0, 1) := by decide +kernel
theorem dX5_takeFour_8 : decode cX5_takeFour 8 = .ok (.getfield 24, 3) := by decide +kernel
theorem dX5_takeFour_11 : decode cX5_takeFour 11 = .ok (.ifCond .lt 36, 3) := by decide +kernel
theorem dX5_takeFour_14 : decode cX5_takeFour 14 = .ok (.aload_n 0, 1) := by decide +kernel
theorem dX5_takeFour_15 : decode cX5_takeFour 15 = .ok (.getfield 24, 3) := by decide +kernel
theorem dX5_takeFour_18 : decode cX5_takeFour 18 = .ok (.sipush 300, 3) := by decide +kernel
theorem dX5_takeFour_21 : decode cX5_takeFour 21 = .ok (.if_icmp .ge 26, 3) := by decide +kernel
theorem dX5_takeFour_24 : decode cX5_takeFour 24 = .ok (.aload_n 0, 1) := by decide +kernel
theorem dX5_takeFour_25 : decode cX5_takeFour 25 = .ok (.getfield 11, 3) := by decide +kernel
theorem dX5_takeFour_28 : decode cX5_takeFour 28 = .ok (.aload_n 0, 1) := by decide +kernel
theorem dX5_takeFour_29 : decode cX5_takeFour 29 = .ok (.getfield 24, 3) := by decide +kernel
theorem dX5_takeFour_32 : decode cX5_takeFour 32 = .ok (.iload_n 1, 1) := by decide +kernel
theorem dX5_takeFour_33 : decode cX5_takeFour 33 = .ok (.iload_n 2, 1) := by decide +kernel
theorem dX5_takeFour_34 : decode cX5_takeFour 34 = .ok (.iushr, 1) := by decide +kernel
theorem dX5_takeFour_35 : decode cX5_takeFour 35 = .ok (.i2b, 1) := by decide +kernel
theorem dX5_takeFour_36 : decode cX5_takeFour 36 = .ok (.bastore, 1) := by decide +kernel
theorem dX5_takeFour_37 : decode cX5_takeFour 37 = .ok (.aload_n 0, 1) := by decide +kernel
theorem dX5_takeFour_38 : decode cX5_takeFour 38 = .ok (.dup, 1) := by decide +kernel
theorem dX5_takeFour_39 : decode cX5_takeFour 39 = .ok (.getfield 24, 3) := by decide +kernel
theorem dX5_takeFour_42 : decode cX5_takeFour 42 = .ok (.iconst 1, 1) := by decide +kernel
theorem dX5_takeFour_43 : decode cX5_takeFour 43 = .ok (.iadd, 1) := by decide +kernel
theorem dX5_takeFour_44 : decode cX5_takeFour 44 = .ok (.putfield 24, 3) := by decide +kernel
theorem dX5_takeFour_47 : decode cX5_takeFour 47 = .ok (.iinc 2 (-8), 3) := by decide +kernel
theorem dX5_takeFour_50 : decode cX5_takeFour 50 = .ok (.goto (-47), 3) := by decide +kernel
theorem dX5_takeFour_53 : decode cX5_takeFour 53 = .ok (.return_, 1) := by decide +kernel
theorem dX5_readText_0 : decode cX5_readText 0 = .ok (.aload_n 0, 1) := by decide +kernel
theorem dX5_readText_1 : decode cX5_readText 1 = .ok (.iload_n 1, 1) := by decide +kernel
theorem dX5_readText_2 : decode cX5_readText 2 = .ok (.putfield 31, 3) := by decide +kernel
theorem dX5_readText_5 : decode cX5_readText 5 = .ok (.aload_n 0, 1) := by decide +kernel
theorem dX5_readText_6 : decode cX5_readText 6 = .ok (.iconst 0, 1) := by decide +kernel
theorem dX5_readText_7 : decode cX5_readText 7 = .ok (.putfield 34, 3) := by decide +kernel
theorem dX5_readText_10 : decode cX5_readText 10 = .ok (.aload_n 0, 1) := by decide +kernel
theorem dX5_readText_11 : decode cX5_readText 11 = .ok (.iconst 0, 1) := by decide +kernel
theorem dX5_readText_12 : decode cX5_readText 12 = .ok (.putfield 37, 3) := by decide +kernel
theorem dX5_readText_15 : decode cX5_readText 15 = .ok (.aload_n 0, 1) := by decide +kernel
theorem dX5_readText_16 : decode cX5_readText 16 = .ok (.iconst (-1), 1) := by decide +kernel
theorem dX5_readText_17 : decode cX5_readText 17 = .ok (.putfield 28, 3) := by decide +kernel
theorem dX5_readText_20 : decode cX5_readText 20 = .ok (.aload_n 0, 1) := by decide +kernel
theorem dX5_readText_21 : decode cX5_readText 21 = .ok (.iconst 0, 1) := by decide +kernel
theorem dX5_readText_22 : decode cX5_readText 22 = .ok (.putfield 40, 3) := by decide +kernel
theorem dX5_readText_25 : decode cX5_readText 25 = .ok (.aload_n 0, 1) := by decide +kernel
theorem dX5_readText_26 : decode cX5_readText 26 = .ok (.iconst 0, 1) := by decide +kernel
theorem dX5_readText_27 : decode cX5_readText 27 = .ok (.putfield 43, 3) := by decide +kernel
theorem dX5_readText_30 : decode cX5_readText 30 = .ok (.aload_n 0, 1) := by decide +kernel
theorem dX5_readText_31 : decode cX5_readText 31 = .ok (.iconst 1, 1) := by decide +kernel
theorem dX5_readText_32 : decode cX5_readText 32 = .ok (.putfield 46, 3) := by decide +kernel
theorem dX5_readText_35 : decode cX5_readText 35 = .ok (.aload_n 0, 1) := by decide +kernel
theorem dX5_readText_36 : decode cX5_readText 36 = .ok (.lconst 0, 1) := by decide +kernel
theorem dX5_readText_37 : decode cX5_readText 37 = .ok (.putfield 49, 3) := by decide +kernel
theorem dX5_readText_40 : decode cX5_readText 40 = .ok (.aload_n 0, 1) := by decide +kernel
theorem dX5_readText_41 : decode cX5_readText 41 = .ok (.lconst 0, 1) := by decide +kernel
theorem dX5_readText_42 : decode cX5_readText 42 = .ok (.putfield 53, 3) := by decide +kernel
theorem dX5_readText_45 : decode cX5_readText 45 = .ok (.aload_n 0, 1) := by decide +kernel
theorem dX5_readText_46 : decode cX5_readText 46 = .ok (.invokevirtual 56, 3) := by decide +kernel
theorem dX5_readText_49 : decode cX5_readText 49 = .ok (.ifCond .eq 72, 3) := by decide +kernel
theorem dX5_readText_52 : decode cX5_readText 52 = .ok (.aload_n 0, 1) := by decide +kernel
theorem dX5_readText_53 : decode cX5_readText 53 = .ok (.invokevirtual 60, 3) := by decide +kernel
theorem dX5_readText_56 : decode cX5_readText 56 = .ok (.ifCond .eq 65, 3) := by decide +kernel
theorem dX5_readText_59 : decode cX5_readText 59 = .ok (.aload_n 0, 1) := by decide +kernel
theorem dX5_readText_60 : decode cX5_readText 60 = .ok (.invokevirtual 63, 3) := by decide +kernel
theorem dX5_readText_63 : decode cX5_readText 63 = .ok (.ifCond .eq 58, 3) := by decide +kernel
theorem dX5_readText_66 : decode cX5_readText 66 = .ok (.aload_n 0, 1) := by decide +kernel
theorem dX5_readText_67 : decode cX5_readText 67 = .ok (.invokevirtual 66, 3) := by decide +kernel
theorem dX5_readText_70 : decode cX5_readText 70 = .ok (.ifCond .eq 51, 3) := by decide +kernel
theorem dX5_readText_73 : decode cX5_readText 73 = .ok (.aload_n 0, 1) := by decide +kernel
theorem dX5_readText_74 : decode cX5_readText 74 = .ok (.new 15, 3) := by decide +kernel
theorem dX5_readText_77 : decode cX5_readText 77 = .ok (.dup, 1) := by decide +kernel
theorem dX5_readText_78 : decode cX5_readText 78 = .ok (.aload_n 0, 1) := by decide +kernel
theorem dX5_readText_79 : decode cX5_readText 79 = .ok (.getfield 69, 3) := by decide +kernel
theorem dX5_readText_82 : decode cX5_readText 82 = .ok (.aload_n 0, 1) := by decide +kernel
theorem dX5_readText_83 : decode cX5_readText 83 = .ok (.getfield 72, 3) := by decide +kernel
theorem dX5_readText_86 : decode cX5_readText 86 = .ok (.invokespecial 17, 3) := by decide +kernel
theorem dX5_readText_89 : decode cX5_readText 89 = .ok (.putfield 20, 3) := by decide +kernel
theorem dX5_readText_92 : decode cX5_readText 92 = .ok (.aload_n 0, 1) := by decide +kernel
theorem dX5_readText_93 : decode cX5_readText 93 = .ok (.getfield 20, 3) := by decide +kernel
theorem dX5_readText_96 : decode cX5_readText 96 = .ok (.aload_n 0, 1) := by decide +kernel
theorem dX5_readText_97 : decode cX5_readText 97 = .ok (.getfield 49, 3) := by decide +kernel
theorem dX5_readText_100 : decode cX5_readText 100 = .ok (.aload_n 0, 1) := by decide +kernel
theorem dX5_readText_101 : decode cX5_readText 101 = .ok (.getfield 53, 3) := by decide +kernel
theorem dX5_readText_104 : decode cX5_readText 104 = .ok (.invokevirtual 75, 3) := by decide +kernel
theorem dX5_readText_107 : decode cX5_readText 107 = .ok (.ifCond .eq 14, 3) := by decide +kernel
theorem dX5_readText_110 : decode cX5_readText 110 = .ok (.aload_n 0, 1) := by decide +kernel
theorem dX5_readText_111 : decode cX5_readText 111 = .ok (.bipush (-3), 2) := by decide +kernel
theorem dX5_readText_113 : decode cX5_readText 113 = .ok (.aload_n 0, 1) := by decide +kernel
theorem dX5_readText_114 : decode cX5_readText 114 = .ok (.getfield 31, 3) := by decide +kernel
theorem dX5_readText_117 : decode cX5_readText 117 = .ok (.invokevirtual 79, 3) := by decide +kernel
theorem dX5_readText_120 : decode cX5_readText 120 = .ok (.pop, 1) := by decide +kernel
theorem dX5_readText_121 : decode cX5_readText 121 = .ok (.aload_n 0, 1) := by decide +kernel
theorem dX5_readText_122 : decode cX5_readText 122 = .ok (.iconst 0, 1) := by decide +kernel
theorem dX5_readText_123 : decode cX5_readText 123 = .ok (.putfield 24, 3) := by decide +kernel
theorem dX5_readText_126 : decode cX5_readText 126 = .ok (.aload_n 0, 1) := by decide +kernel
theorem dX5_readText_127 : decode cX5_readText 127 = .ok (.getfield 37, 3) := by decide +kernel
theorem dX5_readText_130 : decode cX5_readText 130 = .ok (.ireturn, 1) := by decide +kernel
theorem dX5_readSize_0 : decode cX5_readSize 0 = .ok (.aload_n 0, 1) := by decide +kernel
theorem dX5_readSize_1 : decode cX5_readSize 1 = .ok (.ldc 83, 2) := by decide +kernel
theorem dX5_readSize_3 : decode cX5_readSize 3 = .ok (.invokevirtual 85, 3) := by decide +kernel
theorem dX5_readSize_6 : decode cX5_readSize 6 = .ok (.ifCond .ne 14, 3) := by decide +kernel
theorem dX5_readSize_9 : decode cX5_readSize 9 = .ok (.aload_n 0, 1) := by decide +kernel
theorem dX5_readSize_10 : decode cX5_readSize 10 = .ok (.bipush (-2), 2) := by decide +kernel
theorem dX5_readSize_12 : decode cX5_readSize 12 = .ok (.aload_n 0, 1) := by decide +kernel
theorem dX5_readSize_13 : decode cX5_readSize 13 = .ok (.getfield 34, 3) := by decide +kernel
theorem dX5_readSize_16 : decode cX5_readSize 16 = .ok (.invokevirtual 79, 3) := by decide +kernel
theorem dX5_readSize_19 : decode cX5_readSize 19 = .ok (.ireturn, 1) := by decide +kernel
theorem dX5_readSize_20 : decode cX5_readSize 20 = .ok (.aload_n 0, 1) := by decide +kernel
theorem dX5_readSize_21 : decode cX5_readSize 21 = .ok (.aload_n 0, 1) := by decide +kernel
theorem dX5_readSize_22 : decode cX5_readSize 22 = .ok (.iconst 1, 1) := by decide +kernel
theorem dX5_readSize_23 : decode cX5_readSize 23 = .ok (.iconst 5, 1) := by decide +kernel
theorem dX5_readSize_24 : decode cX5_readSize 24 = .ok (.invokevirtual 89, 3) := by decide +kernel
theorem dX5_readSize_27 : decode cX5_readSize 27 = .ok (.putfield 69, 3) := by decide +kernel
theorem dX5_readSize_30 : decode cX5_readSize 30 = .ok (.aload_n 0, 1) := by decide +kernel
theorem dX5_readSize_31 : decode cX5_readSize 31 = .ok (.getfield 69, 3) := by decide +kernel
theorem dX5_readSize_34 : decode cX5_readSize 34 = .ok (.iconst (-1), 1) := by decide +kernel
theorem dX5_readSize_35 : decode cX5_readSize 35 = .ok (.if_icmp .ne 5, 3) := by decide +kernel
theorem dX5_readSize_38 : decode cX5_readSize 38 = .ok (.iconst 0, 1) := by decide +kernel
theorem dX5_readSize_39 : decode cX5_readSize 39 = .ok (.ireturn, 1) := by decide +kernel
theorem dX5_readSize_40 : decode cX5_readSize 40 = .ok (.aload_n 0, 1) := by decide +kernel
theorem dX5_readSize_41 : decode cX5_readSize 41 = .ok (.aload_n 0, 1) := by decide +kernel
theorem dX5_readSize_42 : decode cX5_readSize 42 = .ok (.iconst 3, 1) := by decide +kernel
theorem dX5_readSize_43 : decode cX5_readSize 43 = .ok (.bipush 12, 2) := by decide +kernel
theorem dX5_readSize_45 : decode cX5_readSize 45 = .ok (.invokevirtual 89, 3) := by decide +kernel
theorem dX5_readSize_48 : decode cX5_readSize 48 = .ok (.putfield 72, 3) := by decide +kernel
theorem dX5_readSize_51 : decode cX5_readSize 51 = .ok (.aload_n 0, 1) := by decide +kernel
theorem dX5_readSize_52 : decode cX5_readSize 52 = .ok (.getfield 72, 3) := by decide +kernel
theorem dX5_readSize_55 : decode cX5_readSize 55 = .ok (.iconst (-1), 1) := by decide +kernel
theorem dX5_readSize_56 : decode cX5_readSize 56 = .ok (.if_icmp .eq 14, 3) := by decide +kernel
theorem dX5_readSize_59 : decode cX5_readSize 59 = .ok (.aload_n 0, 1) := by decide +kernel
theorem dX5_readSize_60 : decode cX5_readSize 60 = .ok (.invokevirtual 93, 3) := by decide +kernel
theorem dX5_readSize_63 : decode cX5_readSize 63 = .ok (.ifCond .eq 7, 3) := by decide +kernel
theorem dX5_readSize_66 : decode cX5_readSize 66 = .ok (.iconst 1, 1) := by decide +kernel
theorem dX5_readSize_67 : decode cX5_readSize 67 = .ok (.goto 4, 3) := by decide +kernel
theorem dX5_readSize_70 : decode cX5_readSize 70 = .ok (.iconst 0, 1) := by decide +kernel
theorem dX5_readSize_71 : decode cX5_readSize 71 = .ok (.ireturn, 1) := by decide +kernel
theorem dX5_readOptions_0 : decode cX5_readOptions 0 = .ok (.iconst 0, 1) := by decide +kernel
theorem dX5_readOptions_1 : decode cX5_readOptions 1 = .ok (.istore_n 1, 1) := by decide +kernel
theorem dX5_readOptions_2 : decode cX5_readOptions 2 = .ok (.iload_n 1, 1) := by decide +kernel
theorem dX5_readOptions_3 : decode cX5_readOptions 3 = .ok (.aload_n 0, 1) := by decide +kernel
theorem dX5_readOptions_4 : decode cX5_readOptions 4 = .ok (.getfield 31, 3) := by decide +kernel
theorem dX5_readOptions_7 : decode cX5_readOptions 7 = .ok (.if_icmp .ge 114, 3) := by decide +kernel
theorem dX5_readOptions_10 : decode cX5_readOptions 10 = .ok (.aload_n 0, 1) := by decide +kernel
theorem dX5_readOptions_11 : decode cX5_readOptions 11 = .ok (.ldc 96, 2) := by decide +kernel
theorem dX5_readOptions_13 : decode cX5_readOptions 13 = .ok (.invokevirtual 85, 3) := by decide +kernel
theorem dX5_readOptions_16 : decode cX5_readOptions 16 = .ok (.ifCond .eq 30, 3) := by decide +kernel
theorem dX5_readOptions_19 : decode cX5_readOptions 19 = .ok (.aload_n 0, 1) := by decide +kernel
theorem dX5_readOptions_20 : decode cX5_readOptions 20 = .ok (.aload_n 0, 1) := by decide +kernel
theorem dX5_readOptions_21 : decode cX5_readOptions 21 = .ok (.iconst 0, 1) := by decide +kernel
theorem dX5_readOptions_22 : decode cX5_readOptions 22 = .ok (.iconst 1, 1) := by decide +kernel
theorem dX5_readOptions_23 : decode cX5_readOptions 23 = .ok (.invokevirtual 89, 3) := by decide +kernel
theorem dX5_readOptions_26 : decode cX5_readOptions 26 = .ok (.putfield 40, 3) := by decide +kernel
theorem dX5_readOptions_29 : decode cX5_readOptions 29 = .ok (.aload_n 0, 1) := by decide +kernel
theorem dX5_readOptions_30 : decode cX5_readOptions 30 = .ok (.getfield 40, 3) := by decide +kernel
theorem dX5_readOptions_33 : decode cX5_readOptions 33 = .ok (.iconst (-1), 1) := by decide +kernel
theorem dX5_readOptions_34 : decode cX5_readOptions 34 = .ok (.if_icmp .eq 7, 3) := by decide +kernel
theorem dX5_readOptions_37 : decode cX5_readOptions 37 = .ok (.iconst 1, 1) := by decide +kernel
theorem dX5_readOptions_38 : decode cX5_readOptions 38 = .ok (.goto 4, 3) := by decide +kernel
theorem dX5_readOptions_41 : decode cX5_readOptions 41 = .ok (.iconst 0, 1) := by decide +kernel
theorem dX5_readOptions_42 : decode cX5_readOptions 42 = .ok (.istore_n 2, 1) := by decide +kernel
theorem dX5_readOptions_43 : decode cX5_readOptions 43 = .ok (.goto 59, 3) := by decide +kernel
theorem dX5_readOptions_46 : decode cX5_readOptions 46 = .ok (.aload_n 0, 1) := by decide +kernel
theorem dX5_readOptions_47 : decode cX5_readOptions 47 = .ok (.ldc 97, 2) := by decide +kernel
theorem dX5_readOptions_49 : decode cX5_readOptions 49 = .ok (.invokevirtual 85, 3) := by decide +kernel
theorem dX5_readOptions_52 : decode cX5_readOptions 52 = .ok (.ifCond .eq 31, 3) := by decide +kernel
theorem dX5_readOptions_55 : decode cX5_readOptions 55 = .ok (.aload_n 0, 1) := by decide +kernel
theorem dX5_readOptions_56 : decode cX5_readOptions 56 = .ok (.aload_n 0, 1) := by decide +kernel
theorem dX5_readOptions_57 : decode cX5_readOptions 57 = .ok (.iconst 0, 1) := by decide +kernel
theorem dX5_readOptions_58 : decode cX5_readOptions 58 = .ok (.bipush 99, 2) := by decide +kernel
theorem dX5_readOptions_60 : decode cX5_readOptions 60 = .ok (.invokevirtual 89, 3) := by decide +kernel
theorem dX5_readOptions_63 : decode cX5_readOptions 63 = .ok (.putfield 43, 3) := by decide +kernel
theorem dX5_readOptions_66 : decode cX5_readOptions 66 = .ok (.aload_n 0, 1) := by decide +kernel
theorem dX5_readOptions_67 : decode cX5_readOptions 67 = .ok (.getfield 43, 3) := by decide +kernel
theorem dX5_readOptions_70 : decode cX5_readOptions 70 = .ok (.iconst (-1), 1) := by decide +kernel
theorem dX5_readOptions_71 : decode cX5_readOptions 71 = .ok (.if_icmp .eq 7, 3) := by decide +kernel
theorem dX5_readOptions_74 : decode cX5_readOptions 74 = .ok (.iconst 1, 1) := by decide +kernel
theorem dX5_readOptions_75 : decode cX5_readOptions 75 = .ok (.goto 4, 3) := by decide +kernel
theorem dX5_readOptions_78 : decode cX5_readOptions 78 = .ok (.iconst 0, 1) := by decide +kernel
theorem dX5_readOptions_79 : decode cX5_readOptions 79 = .ok (.istore_n 2, 1) := by decide +kernel
theorem dX5_readOptions_80 : decode cX5_readOptions 80 = .ok (.goto 22, 3) := by decide +kernel
theorem dX5_readOptions_83 : decode cX5_readOptions 83 = .ok (.aload_n 0, 1) := by decide +kernel
theorem dX5_readOptions_84 : decode cX5_readOptions 84 = .ok (.ldc 98, 2) := by decide +kernel
theorem dX5_readOptions_86 : decode cX5_readOptions 86 = .ok (.invokevirtual 85, 3) := by decide +kernel
theorem dX5_readOptions_89 : decode cX5_readOptions 89 = .ok (.ifCond .eq 11, 3) := by decide +kernel
theorem dX5_readOptions_92 : decode cX5_readOptions 92 = .ok (.aload_n 0, 1) := by decide +kernel
theorem dX5_readOptions_93 : decode cX5_readOptions 93 = .ok (.invokevirtual 99, 3) := by decide +kernel
theorem dX5_readOptions_96 : decode cX5_readOptions 96 = .ok (.istore_n 2, 1) := by decide +kernel
theorem dX5_readOptions_97 : decode cX5_readOptions 97 = .ok (.goto 5, 3) := by decide +kernel
theorem dX5_readOptions_100 : decode cX5_readOptions 100 = .ok (.iconst 1, 1) := by decide +kernel
theorem dX5_readOptions_101 : decode cX5_readOptions 101 = .ok (.ireturn, 1) := by decide +kernel
theorem dX5_readOptions_102 : decode cX5_readOptions 102 = .ok (.iload_n 2, 1) := by decide +kernel
theorem dX5_readOptions_103 : decode cX5_readOptions 103 = .ok (.ifCond .eq 10, 3) := by decide +kernel
theorem dX5_readOptions_106 : decode cX5_readOptions 106 = .ok (.aload_n 0, 1) := by decide +kernel
theorem dX5_readOptions_107 : decode cX5_readOptions 107 = .ok (.invokevirtual 93, 3) := by decide +kernel
theorem dX5_readOptions_110 : decode cX5_readOptions 110 = .ok (.ifCond .ne 5, 3) := by decide +kernel
theorem dX5_readOptions_113 : decode cX5_readOptions 113 = .ok (.iconst 0, 1) := by decide +kernel
theorem dX5_readOptions_114 : decode cX5_readOptions 114 = .ok (.ireturn, 1) := by decide +kernel
theorem dX5_readOptions_115 : decode cX5_readOptions 115 = .ok (.iinc 1 1, 3) := by decide +kernel
theorem dX5_readOptions_118 : decode cX5_readOptions 118 = .ok (.goto (-116), 3) := by decide +kernel
theorem dX5_readOptions_121 : decode cX5_readOptions 121 = .ok (.iconst 1, 1) := by decide +kernel
theorem dX5_readOptions_122 : decode cX5_readOptions 122 = .ok (.ireturn, 1) := by decide +kernel
theorem dX5_readTurn_0 : decode cX5_readTurn 0 = .ok (.aload_n 0, 1) := by decide +kernel
theorem dX5_readTurn_1 : decode cX5_readTurn 1 = .ok (.ldc 102, 2) := by decide +kernel
theorem dX5_readTurn_3 : decode cX5_readTurn 3 = .ok (.invokevirtual 85, 3) := by decide +kernel
theorem dX5_readTurn_6 : decode cX5_readTurn 6 = .ok (.ifCond .eq 10, 3) := by decide +kernel
theorem dX5_readTurn_9 : decode cX5_readTurn 9 = .ok (.aload_n 0, 1) := by decide +kernel
theorem dX5_readTurn_10 : decode cX5_readTurn 10 = .ok (.iconst 1, 1) := by decide +kernel
theorem dX5_readTurn_11 : decode cX5_readTurn 11 = .ok (.putfield 46, 3) := by decide +kernel
theorem dX5_readTurn_14 : decode cX5_readTurn 14 = .ok (.iconst 1, 1) := by decide +kernel
theorem dX5_readTurn_15 : decode cX5_readTurn 15 = .ok (.ireturn, 1) := by decide +kernel
theorem dX5_readTurn_16 : decode cX5_readTurn 16 = .ok (.aload_n 0, 1) := by decide +kernel
theorem dX5_readTurn_17 : decode cX5_readTurn 17 = .ok (.iconst 2, 1) := by decide +kernel
theorem dX5_readTurn_18 : decode cX5_readTurn 18 = .ok (.putfield 46, 3) := by decide +kernel
theorem dX5_readTurn_21 : decode cX5_readTurn 21 = .ok (.aload_n 0, 1) := by decide +kernel
theorem dX5_readTurn_22 : decode cX5_readTurn 22 = .ok (.ldc 103, 2) := by decide +kernel
theorem dX5_readTurn_24 : decode cX5_readTurn 24 = .ok (.invokevirtual 85, 3) := by decide +kernel
theorem dX5_readTurn_27 : decode cX5_readTurn 27 = .ok (.ifCond .ne 16, 3) := by decide +kernel
theorem dX5_readTurn_30 : decode cX5_readTurn 30 = .ok (.aload_n 0, 1) := by decide +kernel
theorem dX5_readTurn_31 : decode cX5_readTurn 31 = .ok (.bipush (-2), 2) := by decide +kernel
theorem dX5_readTurn_33 : decode cX5_readTurn 33 = .ok (.aload_n 0, 1) := by decide +kernel
theorem dX5_readTurn_34 : decode cX5_readTurn 34 = .ok (.getfield 34, 3) := by decide +kernel
theorem dX5_readTurn_37 : decode cX5_readTurn 37 = .ok (.invokevirtual 79, 3) := by decide +kernel
theorem dX5_readTurn_40 : decode cX5_readTurn 40 = .ok (.ifCond .eq 7, 3) := by decide +kernel
theorem dX5_readTurn_43 : decode cX5_readTurn 43 = .ok (.iconst 1, 1) := by decide +kernel
theorem dX5_readTurn_44 : decode cX5_readTurn 44 = .ok (.goto 4, 3) := by decide +kernel
theorem dX5_readTurn_47 : decode cX5_readTurn 47 = .ok (.iconst 0, 1) := by decide +kernel
theorem dX5_readTurn_48 : decode cX5_readTurn 48 = .ok (.ireturn, 1) := by decide +kernel
theorem dX5_readRows_0 : decode cX5_readRows 0 = .ok (.iconst 0, 1) := by decide +kernel
theorem dX5_readRows_1 : decode cX5_readRows 1 = .ok (.istore_n 1, 1) := by decide +kernel
theorem dX5_readRows_2 : decode cX5_readRows 2 = .ok (.iload_n 1, 1) := by decide +kernel
theorem dX5_readRows_3 : decode cX5_readRows 3 = .ok (.aload_n 0, 1) := by decide +kernel
theorem dX5_readRows_4 : decode cX5_readRows 4 = .ok (.getfield 69, 3) := by decide +kernel
theorem dX5_readRows_7 : decode cX5_readRows 7 = .ok (.if_icmp .ge 51, 3) := by decide +kernel
theorem dX5_readRows_10 : decode cX5_readRows 10 = .ok (.aload_n 0, 1) := by decide +kernel
theorem dX5_readRows_11 : decode cX5_readRows 11 = .ok (.ldc 104, 2) := by decide +kernel
theorem dX5_readRows_13 : decode cX5_readRows 13 = .ok (.invokevirtual 85, 3) := by decide +kernel
theorem dX5_readRows_16 : decode cX5_readRows 16 = .ok (.ifCond .ne 14, 3) := by decide +kernel
theorem dX5_readRows_19 : decode cX5_readRows 19 = .ok (.aload_n 0, 1) := by decide +kernel
theorem dX5_readRows_20 : decode cX5_readRows 20 = .ok (.bipush (-2), 2) := by decide +kernel
theorem dX5_readRows_22 : decode cX5_readRows 22 = .ok (.aload_n 0, 1) := by decide +kernel
theorem dX5_readRows_23 : decode cX5_readRows 23 = .ok (.getfield 34, 3) := by decide +kernel
theorem dX5_readRows_26 : decode cX5_readRows 26 = .ok (.invokevirtual 79, 3) := by decide +kernel
theorem dX5_readRows_29 : decode cX5_readRows 29 = .ok (.ireturn, 1) := by decide +kernel
theorem dX5_readRows_30 : decode cX5_readRows 30 = .ok (.aload_n 0, 1) := by decide +kernel
theorem dX5_readRows_31 : decode cX5_readRows 31 = .ok (.aload_n 0, 1) := by decide +kernel
theorem dX5_readRows_32 : decode cX5_readRows 32 = .ok (.getfield 72, 3) := by decide +kernel
theorem dX5_readRows_35 : decode cX5_readRows 35 = .ok (.iload_n 1, 1) := by decide +kernel
theorem dX5_readRows_36 : decode cX5_readRows 36 = .ok (.imul, 1) := by decide +kernel
theorem dX5_readRows_37 : decode cX5_readRows 37 = .ok (.invokevirtual 106, 3) := by decide +kernel
theorem dX5_readRows_40 : decode cX5_readRows 40 = .ok (.ifCond .eq 10, 3) := by decide +kernel
theorem dX5_readRows_43 : decode cX5_readRows 43 = .ok (.aload_n 0, 1) := by decide +kernel
theorem dX5_readRows_44 : decode cX5_readRows 44 = .ok (.invokevirtual 93, 3) := by decide +kernel
theorem dX5_readRows_47 : decode cX5_readRows 47 = .ok (.ifCond .ne 5, 3) := by decide +kernel
theorem dX5_readRows_50 : decode cX5_readRows 50 = .ok (.iconst 0, 1) := by decide +kernel
theorem dX5_readRows_51 : decode cX5_readRows 51 = .ok (.ireturn, 1) := by decide +kernel
theorem dX5_readRows_52 : decode cX5_readRows 52 = .ok (.iinc 1 1, 3) := by decide +kernel
theorem dX5_readRows_55 : decode cX5_readRows 55 = .ok (.goto (-53), 3) := by decide +kernel
theorem dX5_readRows_58 : decode cX5_readRows 58 = .ok (.iconst 1, 1) := by decide +kernel
theorem dX5_readRows_59 : decode cX5_readRows 59 = .ok (.ireturn, 1) := by decide +kernel
theorem dX5_readEnd_0 : decode cX5_readEnd 0 = .ok (.aload_n 0, 1) := by decide +kernel
theorem dX5_readEnd_1 : decode cX5_readEnd 1 = .ok (.invokevirtual 110, 3) := by decide +kernel
theorem dX5_readEnd_4 : decode cX5_readEnd 4 = .ok (.aload_n 0, 1) := by decide +kernel
theorem dX5_readEnd_5 : decode cX5_readEnd 5 = .ok (.getfield 34, 3) := by decide +kernel
theorem dX5_readEnd_8 : decode cX5_readEnd 8 = .ok (.aload_n 0, 1) := by decide +kernel
theorem dX5_readEnd_9 : decode cX5_readEnd 9 = .ok (.getfield 31, 3) := by decide +kernel
theorem dX5_readEnd_12 : decode cX5_readEnd 12 = .ok (.if_icmp .eq 16, 3) := by decide +kernel
theorem dX5_readEnd_15 : decode cX5_readEnd 15 = .ok (.aload_n 0, 1) := by decide +kernel
theorem dX5_readEnd_16 : decode cX5_readEnd 16 = .ok (.bipush (-2), 2) := by decide +kernel
theorem dX5_readEnd_18 : decode cX5_readEnd 18 = .ok (.aload_n 0, 1) := by decide +kernel
theorem dX5_readEnd_19 : decode cX5_readEnd 19 = .ok (.getfield 34, 3) := by decide +kernel
theorem dX5_readEnd_22 : decode cX5_readEnd 22 = .ok (.invokevirtual 79, 3) := by decide +kernel
theorem dX5_readEnd_25 : decode cX5_readEnd 25 = .ok (.ifCond .eq 7, 3) := by decide +kernel
theorem dX5_readEnd_28 : decode cX5_readEnd 28 = .ok (.iconst 1, 1) := by decide +kernel
theorem dX5_readEnd_29 : decode cX5_readEnd 29 = .ok (.goto 4, 3) := by decide +kernel
theorem dX5_readEnd_32 : decode cX5_readEnd 32 = .ok (.iconst 0, 1) := by decide +kernel
theorem dX5_readEnd_33 : decode cX5_readEnd 33 = .ok (.ireturn, 1) := by decide +kernel
theorem dX5_takeLetters_0 : decode cX5_takeLetters 0 = .ok (.aload_n 0, 1) := by decide +kernel
theorem dX5_takeLetters_1 : decode cX5_takeLetters 1 = .ok (.invokevirtual 110, 3) := by decide +kernel
theorem dX5_takeLetters_4 : decode cX5_takeLetters 4 = .ok (.aload_n 0, 1) := by decide +kernel
theorem dX5_takeLetters_5 : decode cX5_takeLetters 5 = .ok (.invokevirtual 113, 3) := by decide +kernel
theorem dX5_takeLetters_8 : decode cX5_takeLetters 8 = .ok (.istore_n 2, 1) := by decide +kernel
theorem dX5_takeLetters_9 : decode cX5_takeLetters 9 = .ok (.iload_n 2, 1) := by decide +kernel
theorem dX5_takeLetters_10 : decode cX5_takeLetters 10 = .ok (.aload_n 0, 1) := by decide +kernel
theorem dX5_takeLetters_11 : decode cX5_takeLetters 11 = .ok (.getfield 34, 3) := by decide +kernel
theorem dX5_takeLetters_14 : decode cX5_takeLetters 14 = .ok (.if_icmp .ne 14, 3) := by decide +kernel
theorem dX5_takeLetters_17 : decode cX5_takeLetters 17 = .ok (.aload_n 0, 1) := by decide +kernel
theorem dX5_takeLetters_18 : decode cX5_takeLetters 18 = .ok (.bipush (-2), 2) := by decide +kernel
theorem dX5_takeLetters_20 : decode cX5_takeLetters 20 = .ok (.aload_n 0, 1) := by decide +kernel
theorem dX5_takeLetters_21 : decode cX5_takeLetters 21 = .ok (.getfield 34, 3) := by decide +kernel
theorem dX5_takeLetters_24 : decode cX5_takeLetters 24 = .ok (.invokevirtual 79, 3) := by decide +kernel
theorem dX5_takeLetters_27 : decode cX5_takeLetters 27 = .ok (.ireturn, 1) := by decide +kernel
theorem dX5_takeLetters_28 : decode cX5_takeLetters 28 = .ok (.iload_n 2, 1) := by decide +kernel
theorem dX5_takeLetters_29 : decode cX5_takeLetters 29 = .ok (.aload_n 0, 1) := by decide +kernel
theorem dX5_takeLetters_30 : decode cX5_takeLetters 30 = .ok (.getfield 34, 3) := by decide +kernel
theorem dX5_takeLetters_33 : decode cX5_takeLetters 33 = .ok (.isub, 1) := by decide +kernel
theorem dX5_takeLetters_34 : decode cX5_takeLetters 34 = .ok (.aload_n 0, 1) := by decide +kernel
theorem dX5_takeLetters_35 : decode cX5_takeLetters 35 = .ok (.getfield 72, 3) := by decide +kernel
theorem dX5_takeLetters_38 : decode cX5_takeLetters 38 = .ok (.if_icmp .eq 14, 3) := by decide +kernel
theorem dX5_takeLetters_41 : decode cX5_takeLetters 41 = .ok (.aload_n 0, 1) := by decide +kernel
theorem dX5_takeLetters_42 : decode cX5_takeLetters 42 = .ok (.bipush (-3), 2) := by decide +kernel
theorem dX5_takeLetters_44 : decode cX5_takeLetters 44 = .ok (.aload_n 0, 1) := by decide +kernel
theorem dX5_takeLetters_45 : decode cX5_takeLetters 45 = .ok (.getfield 34, 3) := by decide +kernel
theorem dX5_takeLetters_48 : decode cX5_takeLetters 48 = .ok (.invokevirtual 79, 3) := by decide +kernel
theorem dX5_takeLetters_51 : decode cX5_takeLetters 51 = .ok (.ireturn, 1) := by decide +kernel
theorem dX5_takeLetters_52 : decode cX5_takeLetters 52 = .ok (.iconst 0, 1) := by decide +kernel
theorem dX5_takeLetters_53 : decode cX5_takeLetters 53 = .ok (.istore_n 3, 1) := by decide +kernel
theorem dX5_takeLetters_54 : decode cX5_takeLetters 54 = .ok (.iload_n 3, 1) := by decide +kernel
theorem dX5_takeLetters_55 : decode cX5_takeLetters 55 = .ok (.aload_n 0, 1) := by decide +kernel
theorem dX5_takeLetters_56 : decode cX5_takeLetters 56 = .ok (.getfield 72, 3) := by decide +kernel
theorem dX5_takeLetters_59 : decode cX5_takeLetters 59 = .ok (.if_icmp .ge 42, 3) := by decide +kernel
theorem dX5_takeLetters_62 : decode cX5_takeLetters 62 = .ok (.aload_n 0, 1) := by decide +kernel
theorem dX5_takeLetters_63 : decode cX5_takeLetters 63 = .ok (.aload_n 0, 1) := by decide +kernel
theorem dX5_takeLetters_64 : decode cX5_takeLetters 64 = .ok (.aload_n 0, 1) := by decide +kernel
theorem dX5_takeLetters_65 : decode cX5_takeLetters 65 = .ok (.getfield 34, 3) := by decide +kernel
theorem dX5_takeLetters_68 : decode cX5_takeLetters 68 = .ok (.iload_n 3, 1) := by decide +kernel
theorem dX5_takeLetters_69 : decode cX5_takeLetters 69 = .ok (.iadd, 1) := by decide +kernel
theorem dX5_takeLetters_70 : decode cX5_takeLetters 70 = .ok (.invokevirtual 117, 3) := by decide +kernel
theorem dX5_takeLetters_73 : decode cX5_takeLetters 73 = .ok (.lconst 1, 1) := by decide +kernel
theorem dX5_takeLetters_74 : decode cX5_takeLetters 74 = .ok (.iload_n 1, 1) := by decide +kernel
theorem dX5_takeLetters_75 : decode cX5_takeLetters 75 = .ok (.iload_n 3, 1) := by decide +kernel
theorem dX5_takeLetters_76 : decode cX5_takeLetters 76 = .ok (.iadd, 1) := by decide +kernel
theorem dX5_takeLetters_77 : decode cX5_takeLetters 77 = .ok (.lshl, 1) := by decide +kernel
theorem dX5_takeLetters_78 : decode cX5_takeLetters 78 = .ok (.invokevirtual 121, 3) := by decide +kernel
theorem dX5_takeLetters_81 : decode cX5_takeLetters 81 = .ok (.ifCond .ne 14, 3) := by decide +kernel
theorem dX5_takeLetters_84 : decode cX5_takeLetters 84 = .ok (.aload_n 0, 1) := by decide +kernel
theorem dX5_takeLetters_85 : decode cX5_takeLetters 85 = .ok (.bipush (-3), 2) := by decide +kernel
theorem dX5_takeLetters_87 : decode cX5_takeLetters 87 = .ok (.aload_n 0, 1) := by decide +kernel
theorem dX5_takeLetters_88 : decode cX5_takeLetters 88 = .ok (.getfield 34, 3) := by decide +kernel
theorem dX5_takeLetters_91 : decode cX5_takeLetters 91 = .ok (.invokevirtual 79, 3) := by decide +kernel
theorem dX5_takeLetters_94 : decode cX5_takeLetters 94 = .ok (.ireturn, 1) := by decide +kernel
theorem dX5_takeLetters_95 : decode cX5_takeLetters 95 = .ok (.iinc 3 1, 3) := by decide +kernel
theorem dX5_takeLetters_98 : decode cX5_takeLetters 98 = .ok (.goto (-44), 3) := by decide +kernel
theorem dX5_takeLetters_101 : decode cX5_takeLetters 101 = .ok (.aload_n 0, 1) := by decide +kernel
theorem dX5_takeLetters_102 : decode cX5_takeLetters 102 = .ok (.iload_n 2, 1) := by decide +kernel
theorem dX5_takeLetters_103 : decode cX5_takeLetters 103 = .ok (.putfield 34, 3) := by decide +kernel
theorem dX5_takeLetters_106 : decode cX5_takeLetters 106 = .ok (.iconst 1, 1) := by decide +kernel
theorem dX5_takeLetters_107 : decode cX5_takeLetters 107 = .ok (.ireturn, 1) := by decide +kernel
theorem dX5_putLetter_0 : decode cX5_putLetter 0 = .ok (.iload_n 1, 1) := by decide +kernel
theorem dX5_putLetter_1 : decode cX5_putLetter 1 = .ok (.lookupswitch 61 #[(98, 37), (111, 35), (119, 49)], 35) := by decide +kernel
theorem dX5_putLetter_36 : decode cX5_putLetter 36 = .ok (.iconst 1, 1) := by decide +kernel
theorem dX5_putLetter_37 : decode cX5_putLetter 37 = .ok (.ireturn, 1) := by decide +kernel
theorem dX5_putLetter_38 : decode cX5_putLetter 38 = .ok (.aload_n 0, 1) := by decide +kernel
theorem dX5_putLetter_39 : decode cX5_putLetter 39 = .ok (.dup, 1) := by decide +kernel
theorem dX5_putLetter_40 : decode cX5_putLetter 40 = .ok (.getfield 49, 3) := by decide +kernel
theorem dX5_putLetter_43 : decode cX5_putLetter 43 = .ok (.lload_n 2, 1) := by decide +kernel
theorem dX5_putLetter_44 : decode cX5_putLetter 44 = .ok (.lor, 1) := by decide +kernel
theorem dX5_putLetter_45 : decode cX5_putLetter 45 = .ok (.putfield 49, 3) := by decide +kernel
theorem dX5_putLetter_48 : decode cX5_putLetter 48 = .ok (.iconst 1, 1) := by decide +kernel
theorem dX5_putLetter_49 : decode cX5_putLetter 49 = .ok (.ireturn, 1) := by decide +kernel
theorem dX5_putLetter_50 : decode cX5_putLetter 50 = .ok (.aload_n 0, 1) := by decide +kernel
theorem dX5_putLetter_51 : decode cX5_putLetter 51 = .ok (.dup, 1) := by decide +kernel
theorem dX5_putLetter_52 : decode cX5_putLetter 52 = .ok (.getfield 53, 3) := by decide +kernel
theorem dX5_putLetter_55 : decode cX5_putLetter 55 = .ok (.lload_n 2, 1) := by decide +kernel
theorem dX5_putLetter_56 : decode cX5_putLetter 56 = .ok (.lor, 1) := by decide +kernel
theorem dX5_putLetter_57 : decode cX5_putLetter 57 = .ok (.putfield 53, 3) := by decide +kernel
theorem dX5_putLetter_60 : decode cX5_putLetter 60 = .ok (.iconst 1, 1) := by decide +kernel
theorem dX5_putLetter_61 : decode cX5_putLetter 61 = .ok (.ireturn, 1) := by decide +kernel
theorem dX5_putLetter_62 : decode cX5_putLetter 62 = .ok (.iconst 0, 1) := by decide +kernel
theorem dX5_putLetter_63 : decode cX5_putLetter 63 = .ok (.ireturn, 1) := by decide +kernel
theorem dX5_takeNumber_0 : decode cX5_takeNumber 0 = .ok (.aload_n 0, 1) := by decide +kernel
theorem dX5_takeNumber_1 : decode cX5_takeNumber 1 = .ok (.invokevirtual 110, 3) := by decide +kernel
theorem dX5_takeNumber_4 : decode cX5_takeNumber 4 = .ok (.aload_n 0, 1) := by decide +kernel
theorem dX5_takeNumber_5 : decode cX5_takeNumber 5 = .ok (.getfield 34, 3) := by decide +kernel
theorem dX5_takeNumber_8 : decode cX5_takeNumber 8 = .ok (.istore_n 3, 1) := by decide +kernel
theorem dX5_takeNumber_9 : decode cX5_takeNumber 9 = .ok (.iconst 0, 1) := by decide +kernel
theorem dX5_takeNumber_10 : decode cX5_takeNumber 10 = .ok (.istore 4, 2) := by decide +kernel
theorem dX5_takeNumber_12 : decode cX5_takeNumber 12 = .ok (.aload_n 0, 1) := by decide +kernel
theorem dX5_takeNumber_13 : decode cX5_takeNumber 13 = .ok (.getfield 34, 3) := by decide +kernel
theorem dX5_takeNumber_16 : decode cX5_takeNumber 16 = .ok (.aload_n 0, 1) := by decide +kernel
theorem dX5_takeNumber_17 : decode cX5_takeNumber 17 = .ok (.getfield 31, 3) := by decide +kernel
theorem dX5_takeNumber_20 : decode cX5_takeNumber 20 = .ok (.if_icmp .ge 55, 3) := by decide +kernel
theorem dX5_takeNumber_23 : decode cX5_takeNumber 23 = .ok (.aload_n 0, 1) := by decide +kernel
theorem dX5_takeNumber_24 : decode cX5_takeNumber 24 = .ok (.aload_n 0, 1) := by decide +kernel
theorem dX5_takeNumber_25 : decode cX5_takeNumber 25 = .ok (.getfield 34, 3) := by decide +kernel
theorem dX5_takeNumber_28 : decode cX5_takeNumber 28 = .ok (.invokevirtual 117, 3) := by decide +kernel
theorem dX5_takeNumber_31 : decode cX5_takeNumber 31 = .ok (.invokestatic 125, 3) := by decide +kernel
theorem dX5_takeNumber_34 : decode cX5_takeNumber 34 = .ok (.ifCond .eq 41, 3) := by decide +kernel
theorem dX5_takeNumber_37 : decode cX5_takeNumber 37 = .ok (.bipush 10, 2) := by decide +kernel
theorem dX5_takeNumber_39 : decode cX5_takeNumber 39 = .ok (.iload 4, 2) := by decide +kernel
theorem dX5_takeNumber_41 : decode cX5_takeNumber 41 = .ok (.imul, 1) := by decide +kernel
theorem dX5_takeNumber_42 : decode cX5_takeNumber 42 = .ok (.aload_n 0, 1) := by decide +kernel
theorem dX5_takeNumber_43 : decode cX5_takeNumber 43 = .ok (.aload_n 0, 1) := by decide +kernel
theorem dX5_takeNumber_44 : decode cX5_takeNumber 44 = .ok (.getfield 34, 3) := by decide +kernel
theorem dX5_takeNumber_47 : decode cX5_takeNumber 47 = .ok (.invokevirtual 117, 3) := by decide +kernel
theorem dX5_takeNumber_50 : decode cX5_takeNumber 50 = .ok (.iadd, 1) := by decide +kernel
theorem dX5_takeNumber_51 : decode cX5_takeNumber 51 = .ok (.bipush 48, 2) := by decide +kernel
theorem dX5_takeNumber_53 : decode cX5_takeNumber 53 = .ok (.isub, 1) := by decide +kernel
theorem dX5_takeNumber_54 : decode cX5_takeNumber 54 = .ok (.sipush 1000, 3) := by decide +kernel
theorem dX5_takeNumber_57 : decode cX5_takeNumber 57 = .ok (.invokestatic 128, 3) := by decide +kernel
theorem dX5_takeNumber_60 : decode cX5_takeNumber 60 = .ok (.istore 4, 2) := by decide +kernel
theorem dX5_takeNumber_62 : decode cX5_takeNumber 62 = .ok (.aload_n 0, 1) := by decide +kernel
theorem dX5_takeNumber_63 : decode cX5_takeNumber 63 = .ok (.dup, 1) := by decide +kernel
theorem dX5_takeNumber_64 : decode cX5_takeNumber 64 = .ok (.getfield 34, 3) := by decide +kernel
theorem dX5_takeNumber_67 : decode cX5_takeNumber 67 = .ok (.iconst 1, 1) := by decide +kernel
theorem dX5_takeNumber_68 : decode cX5_takeNumber 68 = .ok (.iadd, 1) := by decide +kernel
theorem dX5_takeNumber_69 : decode cX5_takeNumber 69 = .ok (.putfield 34, 3) := by decide +kernel
theorem dX5_takeNumber_72 : decode cX5_takeNumber 72 = .ok (.goto (-60), 3) := by decide +kernel
theorem dX5_takeNumber_75 : decode cX5_takeNumber 75 = .ok (.aload_n 0, 1) := by decide +kernel
theorem dX5_takeNumber_76 : decode cX5_takeNumber 76 = .ok (.getfield 34, 3) := by decide +kernel
theorem dX5_takeNumber_79 : decode cX5_takeNumber 79 = .ok (.iload_n 3, 1) := by decide +kernel
theorem dX5_takeNumber_80 : decode cX5_takeNumber 80 = .ok (.if_icmp .ne 13, 3) := by decide +kernel
theorem dX5_takeNumber_83 : decode cX5_takeNumber 83 = .ok (.aload_n 0, 1) := by decide +kernel
theorem dX5_takeNumber_84 : decode cX5_takeNumber 84 = .ok (.bipush (-2), 2) := by decide +kernel
theorem dX5_takeNumber_86 : decode cX5_takeNumber 86 = .ok (.iload_n 3, 1) := by decide +kernel
theorem dX5_takeNumber_87 : decode cX5_takeNumber 87 = .ok (.invokevirtual 79, 3) := by decide +kernel
theorem dX5_takeNumber_90 : decode cX5_takeNumber 90 = .ok (.pop, 1) := by decide +kernel
theorem dX5_takeNumber_91 : decode cX5_takeNumber 91 = .ok (.iconst (-1), 1) := by decide +kernel
theorem dX5_takeNumber_92 : decode cX5_takeNumber 92 = .ok (.ireturn, 1) := by decide +kernel
theorem dX5_takeNumber_93 : decode cX5_takeNumber 93 = .ok (.iload 4, 2) := by decide +kernel
theorem dX5_takeNumber_95 : decode cX5_takeNumber 95 = .ok (.iload_n 1, 1) := by decide +kernel
theorem dX5_takeNumber_96 : decode cX5_takeNumber 96 = .ok (.if_icmp .lt 9, 3) := by decide +kernel
theorem dX5_takeNumber_99 : decode cX5_takeNumber 99 = .ok (.iload 4, 2) := by decide +kernel
theorem dX5_takeNumber_101 : decode cX5_takeNumber 101 = .ok (.iload_n 2, 1) := by decide +kernel
theorem dX5_takeNumber_102 : decode cX5_takeNumber 102 = .ok (.if_icmp .le 13, 3) := by decide +kernel
theorem dX5_takeNumber_105 : decode cX5_takeNumber 105 = .ok (.aload_n 0, 1) := by decide +kernel
theorem dX5_takeNumber_106 : decode cX5_takeNumber 106 = .ok (.bipush (-3), 2) := by decide +kernel
theorem dX5_takeNumber_108 : decode cX5_takeNumber 108 = .ok (.iload_n 3, 1) := by decide +kernel
theorem dX5_takeNumber_109 : decode cX5_takeNumber 109 = .ok (.invokevirtual 79, 3) := by decide +kernel
theorem dX5_takeNumber_112 : decode cX5_takeNumber 112 = .ok (.pop, 1) := by decide +kernel
theorem dX5_takeNumber_113 : decode cX5_takeNumber 113 = .ok (.iconst (-1), 1) := by decide +kernel
theorem dX5_takeNumber_114 : decode cX5_takeNumber 114 = .ok (.ireturn, 1) := by decide +kernel
theorem dX5_takeNumber_115 : decode cX5_takeNumber 115 = .ok (.iload 4, 2) := by decide +kernel
theorem dX5_takeNumber_117 : decode cX5_takeNumber 117 = .ok (.ireturn, 1) := by decide +kernel
theorem dX5_takeWord_0 : decode cX5_takeWord 0 = .ok (.aload_n 0, 1) := by decide +kernel
theorem dX5_takeWord_1 : decode cX5_takeWord 1 = .ok (.invokevirtual 110, 3) := by decide +kernel
theorem dX5_takeWord_4 : decode cX5_takeWord 4 = .ok (.aload_n 0, 1) := by decide +kernel
theorem dX5_takeWord_5 : decode cX5_takeWord 5 = .ok (.invokevirtual 113, 3) := by decide +kernel
theorem dX5_takeWord_8 : decode cX5_takeWord 8 = .ok (.aload_n 0, 1) := by decide +kernel
theorem dX5_takeWord_9 : decode cX5_takeWord 9 = .ok (.getfield 34, 3) := by decide +kernel
theorem dX5_takeWord_12 : decode cX5_takeWord 12 = .ok (.isub, 1) := by decide +kernel
theorem dX5_takeWord_13 : decode cX5_takeWord 13 = .ok (.aload_n 1, 1) := by decide +kernel
theorem dX5_takeWord_14 : decode cX5_takeWord 14 = .ok (.invokevirtual 133, 3) := by decide +kernel
theorem dX5_takeWord_17 : decode cX5_takeWord 17 = .ok (.if_icmp .eq 5, 3) := by decide +kernel
theorem dX5_takeWord_20 : decode cX5_takeWord 20 = .ok (.iconst 0, 1) := by decide +kernel
theorem dX5_takeWord_21 : decode cX5_takeWord 21 = .ok (.ireturn, 1) := by decide +kernel
theorem dX5_takeWord_22 : decode cX5_takeWord 22 = .ok (.iconst 0, 1) := by decide +kernel
theorem dX5_takeWord_23 : decode cX5_takeWord 23 = .ok (.istore_n 2, 1) := by decide +kernel
theorem dX5_takeWord_24 : decode cX5_takeWord 24 = .ok (.iload_n 2, 1) := by decide +kernel
theorem dX5_takeWord_25 : decode cX5_takeWord 25 = .ok (.aload_n 1, 1) := by decide +kernel
theorem dX5_takeWord_26 : decode cX5_takeWord 26 = .ok (.invokevirtual 133, 3) := by decide +kernel
theorem dX5_takeWord_29 : decode cX5_takeWord 29 = .ok (.if_icmp .ge 29, 3) := by decide +kernel
theorem dX5_takeWord_32 : decode cX5_takeWord 32 = .ok (.aload_n 0, 1) := by decide +kernel
theorem dX5_takeWord_33 : decode cX5_takeWord 33 = .ok (.aload_n 0, 1) := by decide +kernel
theorem dX5_takeWord_34 : decode cX5_takeWord 34 = .ok (.getfield 34, 3) := by decide +kernel
theorem dX5_takeWord_37 : decode cX5_takeWord 37 = .ok (.iload_n 2, 1) := by decide +kernel
theorem dX5_takeWord_38 : decode cX5_takeWord 38 = .ok (.iadd, 1) := by decide +kernel
theorem dX5_takeWord_39 : decode cX5_takeWord 39 = .ok (.invokevirtual 117, 3) := by decide +kernel
theorem dX5_takeWord_42 : decode cX5_takeWord 42 = .ok (.aload_n 1, 1) := by decide +kernel
theorem dX5_takeWord_43 : decode cX5_takeWord 43 = .ok (.iload_n 2, 1) := by decide +kernel
theorem dX5_takeWord_44 : decode cX5_takeWord 44 = .ok (.invokevirtual 137, 3) := by decide +kernel
theorem dX5_takeWord_47 : decode cX5_takeWord 47 = .ok (.if_icmp .eq 5, 3) := by decide +kernel
theorem dX5_takeWord_50 : decode cX5_takeWord 50 = .ok (.iconst 0, 1) := by decide +kernel
theorem dX5_takeWord_51 : decode cX5_takeWord 51 = .ok (.ireturn, 1) := by decide +kernel
theorem dX5_takeWord_52 : decode cX5_takeWord 52 = .ok (.iinc 2 1, 3) := by decide +kernel
theorem dX5_takeWord_55 : decode cX5_takeWord 55 = .ok (.goto (-31), 3) := by decide +kernel
theorem dX5_takeWord_58 : decode cX5_takeWord 58 = .ok (.aload_n 0, 1) := by decide +kernel
theorem dX5_takeWord_59 : decode cX5_takeWord 59 = .ok (.dup, 1) := by decide +kernel
theorem dX5_takeWord_60 : decode cX5_takeWord 60 = .ok (.getfield 34, 3) := by decide +kernel
theorem dX5_takeWord_63 : decode cX5_takeWord 63 = .ok (.aload_n 1, 1) := by decide +kernel
theorem dX5_takeWord_64 : decode cX5_takeWord 64 = .ok (.invokevirtual 133, 3) := by decide +kernel
theorem dX5_takeWord_67 : decode cX5_takeWord 67 = .ok (.iadd, 1) := by decide +kernel
theorem dX5_takeWord_68 : decode cX5_takeWord 68 = .ok (.putfield 34, 3) := by decide +kernel
theorem dX5_takeWord_71 : decode cX5_takeWord 71 = .ok (.iconst 1, 1) := by decide +kernel
theorem dX5_takeWord_72 : decode cX5_takeWord 72 = .ok (.ireturn, 1) := by decide +kernel
theorem dX5_takeSemicolon_0 : decode cX5_takeSemicolon 0 = .ok (.aload_n 0, 1) := by decide +kernel
theorem dX5_takeSemicolon_1 : decode cX5_takeSemicolon 1 = .ok (.invokevirtual 110, 3) := by decide +kernel
theorem dX5_takeSemicolon_4 : decode cX5_takeSemicolon 4 = .ok (.aload_n 0, 1) := by decide +kernel
theorem dX5_takeSemicolon_5 : decode cX5_takeSemicolon 5 = .ok (.aload_n 0, 1) := by decide +kernel
theorem dX5_takeSemicolon_6 : decode cX5_takeSemicolon 6 = .ok (.getfield 34, 3) := by decide +kernel
theorem dX5_takeSemicolon_9 : decode cX5_takeSemicolon 9 = .ok (.invokevirtual 117, 3) := by decide +kernel
theorem dX5_takeSemicolon_12 : decode cX5_takeSemicolon 12 = .ok (.bipush 59, 2) := by decide +kernel
theorem dX5_takeSemicolon_14 : decode cX5_takeSemicolon 14 = .ok (.if_icmp .eq 14, 3) := by decide +kernel
theorem dX5_takeSemicolon_17 : decode cX5_takeSemicolon 17 = .ok (.aload_n 0, 1) := by decide +kernel
theorem dX5_takeSemicolon_18 : decode cX5_takeSemicolon 18 = .ok (.bipush (-2), 2) := by decide +kernel
theorem dX5_takeSemicolon_20 : decode cX5_takeSemicolon 20 = .ok (.aload_n 0, 1) := by decide +kernel
theorem dX5_takeSemicolon_21 : decode cX5_takeSemicolon 21 = .ok (.getfield 34, 3) := by decide +kernel
theorem dX5_takeSemicolon_24 : decode cX5_takeSemicolon 24 = .ok (.invokevirtual 79, 3) := by decide +kernel
theorem dX5_takeSemicolon_27 : decode cX5_takeSemicolon 27 = .ok (.ireturn, 1) := by decide +kernel
theorem dX5_takeSemicolon_28 : decode cX5_takeSemicolon 28 = .ok (.aload_n 0, 1) := by decide +kernel
theorem dX5_takeSemicolon_29 : decode cX5_takeSemicolon 29 = .ok (.dup, 1) := by decide +kernel
theorem dX5_takeSemicolon_30 : decode cX5_takeSemicolon 30 = .ok (.getfield 34, 3) := by decide +kernel
theorem dX5_takeSemicolon_33 : decode cX5_takeSemicolon 33 = .ok (.iconst 1, 1) := by decide +kernel
theorem dX5_takeSemicolon_34 : decode cX5_takeSemicolon 34 = .ok (.iadd, 1) := by decide +kernel
theorem dX5_takeSemicolon_35 : decode cX5_takeSemicolon 35 = .ok (.putfield 34, 3) := by decide +kernel
theorem dX5_takeSemicolon_38 : decode cX5_takeSemicolon 38 = .ok (.iconst 1, 1) := by decide +kernel
theorem dX5_takeSemicolon_39 : decode cX5_takeSemicolon 39 = .ok (.ireturn, 1) := by decide +kernel
theorem dX5_skipSpaces_0 : decode cX5_skipSpaces 0 = .ok (.aload_n 0, 1) := by decide +kernel
theorem dX5_skipSpaces_1 : decode cX5_skipSpaces 1 = .ok (.getfield 34, 3) := by decide +kernel
theorem dX5_skipSpaces_4 : decode cX5_skipSpaces 4 = .ok (.aload_n 0, 1) := by decide +kernel
theorem dX5_skipSpaces_5 : decode cX5_skipSpaces 5 = .ok (.getfield 31, 3) := by decide +kernel
theorem dX5_skipSpaces_8 : decode cX5_skipSpaces 8 = .ok (.if_icmp .ge 29, 3) := by decide +kernel
theorem dX5_skipSpaces_11 : decode cX5_skipSpaces 11 = .ok (.aload_n 0, 1) := by decide +kernel
theorem dX5_skipSpaces_12 : decode cX5_skipSpaces 12 = .ok (.aload_n 0, 1) := by decide +kernel
theorem dX5_skipSpaces_13 : decode cX5_skipSpaces 13 = .ok (.getfield 34, 3) := by decide +kernel
theorem dX5_skipSpaces_16 : decode cX5_skipSpaces 16 = .ok (.invokevirtual 117, 3) := by decide +kernel
theorem dX5_skipSpaces_19 : decode cX5_skipSpaces 19 = .ok (.bipush 32, 2) := by decide +kernel
theorem dX5_skipSpaces_21 : decode cX5_skipSpaces 21 = .ok (.if_icmp .ne 16, 3) := by decide +kernel
theorem dX5_skipSpaces_24 : decode cX5_skipSpaces 24 = .ok (.aload_n 0, 1) := by decide +kernel
theorem dX5_skipSpaces_25 : decode cX5_skipSpaces 25 = .ok (.dup, 1) := by decide +kernel
theorem dX5_skipSpaces_26 : decode cX5_skipSpaces 26 = .ok (.getfield 34, 3) := by decide +kernel
theorem dX5_skipSpaces_29 : decode cX5_skipSpaces 29 = .ok (.iconst 1, 1) := by decide +kernel
theorem dX5_skipSpaces_30 : decode cX5_skipSpaces 30 = .ok (.iadd, 1) := by decide +kernel
theorem dX5_skipSpaces_31 : decode cX5_skipSpaces 31 = .ok (.putfield 34, 3) := by decide +kernel
theorem dX5_skipSpaces_34 : decode cX5_skipSpaces 34 = .ok (.goto (-34), 3) := by decide +kernel
theorem dX5_skipSpaces_37 : decode cX5_skipSpaces 37 = .ok (.return_, 1) := by decide +kernel
theorem dX5_wordEnd_0 : decode cX5_wordEnd 0 = .ok (.aload_n 0, 1) := by decide +kernel
theorem dX5_wordEnd_1 : decode cX5_wordEnd 1 = .ok (.getfield 34, 3) := by decide +kernel
theorem dX5_wordEnd_4 : decode cX5_wordEnd 4 = .ok (.istore_n 1, 1) := by decide +kernel
theorem dX5_wordEnd_5 : decode cX5_wordEnd 5 = .ok (.iload_n 1, 1) := by decide +kernel
theorem dX5_wordEnd_6 : decode cX5_wordEnd 6 = .ok (.aload_n 0, 1) := by decide +kernel
theorem dX5_wordEnd_7 : decode cX5_wordEnd 7 = .ok (.getfield 31, 3) := by decide +kernel
theorem dX5_wordEnd_10 : decode cX5_wordEnd 10 = .ok (.if_icmp .ge 20, 3) := by decide +kernel
theorem dX5_wordEnd_13 : decode cX5_wordEnd 13 = .ok (.aload_n 0, 1) := by decide +kernel
theorem dX5_wordEnd_14 : decode cX5_wordEnd 14 = .ok (.iload_n 1, 1) := by decide +kernel
theorem dX5_wordEnd_15 : decode cX5_wordEnd 15 = .ok (.invokevirtual 117, 3) := by decide +kernel
theorem dX5_wordEnd_18 : decode cX5_wordEnd 18 = .ok (.invokestatic 141, 3) := by decide +kernel
theorem dX5_wordEnd_21 : decode cX5_wordEnd 21 = .ok (.ifCond .eq 9, 3) := by decide +kernel
theorem dX5_wordEnd_24 : decode cX5_wordEnd 24 = .ok (.iinc 1 1, 3) := by decide +kernel
theorem dX5_wordEnd_27 : decode cX5_wordEnd 27 = .ok (.goto (-22), 3) := by decide +kernel
theorem dX5_wordEnd_30 : decode cX5_wordEnd 30 = .ok (.iload_n 1, 1) := by decide +kernel
theorem dX5_wordEnd_31 : decode cX5_wordEnd 31 = .ok (.ireturn, 1) := by decide +kernel
theorem dX5_byteAt_0 : decode cX5_byteAt 0 = .ok (.iload_n 1, 1) := by decide +kernel
theorem dX5_byteAt_1 : decode cX5_byteAt 1 = .ok (.ifCond .lt 31, 3) := by decide +kernel
theorem dX5_byteAt_4 : decode cX5_byteAt 4 = .ok (.iload_n 1, 1) := by decide +kernel
theorem dX5_byteAt_5 : decode cX5_byteAt 5 = .ok (.aload_n 0, 1) := by decide +kernel
theorem dX5_byteAt_6 : decode cX5_byteAt 6 = .ok (.getfield 31, 3) := by decide +kernel
theorem dX5_byteAt_9 : decode cX5_byteAt 9 = .ok (.if_icmp .ge 23, 3) := by decide +kernel
theorem dX5_byteAt_12 : decode cX5_byteAt 12 = .ok (.iload_n 1, 1) := by decide +kernel
theorem dX5_byteAt_13 : decode cX5_byteAt 13 = .ok (.sipush 300, 3) := by decide +kernel
theorem dX5_byteAt_16 : decode cX5_byteAt 16 = .ok (.if_icmp .ge 16, 3) := by decide +kernel
theorem dX5_byteAt_19 : decode cX5_byteAt 19 = .ok (.aload_n 0, 1) := by decide +kernel
theorem dX5_byteAt_20 : decode cX5_byteAt 20 = .ok (.getfield 11, 3) := by decide +kernel
theorem dX5_byteAt_23 : decode cX5_byteAt 23 = .ok (.iload_n 1, 1) := by decide +kernel
theorem dX5_byteAt_24 : decode cX5_byteAt 24 = .ok (.baload, 1) := by decide +kernel
theorem dX5_byteAt_25 : decode cX5_byteAt 25 = .ok (.sipush 255, 3) := by decide +kernel
theorem dX5_byteAt_28 : decode cX5_byteAt 28 = .ok (.iand, 1) := by decide +kernel
theorem dX5_byteAt_29 : decode cX5_byteAt 29 = .ok (.goto 4, 3) := by decide +kernel
theorem dX5_byteAt_32 : decode cX5_byteAt 32 = .ok (.iconst (-1), 1) := by decide +kernel
theorem dX5_byteAt_33 : decode cX5_byteAt 33 = .ok (.ireturn, 1) := by decide +kernel
theorem dX5_isLetter_0 : decode cX5_isLetter 0 = .ok (.iload_n 0, 1) := by decide +kernel
theorem dX5_isLetter_1 : decode cX5_isLetter 1 = .ok (.bipush 97, 2) := by decide +kernel
theorem dX5_isLetter_3 : decode cX5_isLetter 3 = .ok (.if_icmp .lt 13, 3) := by decide +kernel
theorem dX5_isLetter_6 : decode cX5_isLetter 6 = .ok (.iload_n 0, 1) := by decide +kernel
theorem dX5_isLetter_7 : decode cX5_isLetter 7 = .ok (.bipush 122, 2) := by decide +kernel
theorem dX5_isLetter_9 : decode cX5_isLetter 9 = .ok (.if_icmp .gt 7, 3) := by decide +kernel
theorem dX5_isLetter_12 : decode cX5_isLetter 12 = .ok (.iconst 1, 1) := by decide +kernel
theorem dX5_isLetter_13 : decode cX5_isLetter 13 = .ok (.goto 4, 3) := by decide +kernel
theorem dX5_isLetter_16 : decode cX5_isLetter 16 = .ok (.iconst 0, 1) := by decide +kernel
theorem dX5_isLetter_17 : decode cX5_isLetter 17 = .ok (.ireturn, 1) := by decide +kernel
theorem dX5_isDigit_0 : decode cX5_isDigit 0 = .ok (.iload_n 0, 1) := by decide +kernel
theorem dX5_isDigit_1 : decode cX5_isDigit 1 = .ok (.bipush 48, 2) := by decide +kernel
theorem dX5_isDigit_3 : decode cX5_isDigit 3 = .ok (.if_icmp .lt 13, 3) := by decide +kernel
theorem dX5_isDigit_6 : decode cX5_isDigit 6 = .ok (.iload_n 0, 1) := by decide +kernel
theorem dX5_isDigit_7 : decode cX5_isDigit 7 = .ok (.bipush 57, 2) := by decide +kernel
theorem dX5_isDigit_9 : decode cX5_isDigit 9 = .ok (.if_icmp .gt 7, 3) := by decide +kernel
theorem dX5_isDigit_12 : decode cX5_isDigit 12 = .ok (.iconst 1, 1) := by decide +kernel
theorem dX5_isDigit_13 : decode cX5_isDigit 13 = .ok (.goto 4, 3) := by decide +kernel
theorem dX5_isDigit_16 : decode cX5_isDigit 16 = .ok (.iconst 0, 1) := by decide +kernel
theorem dX5_isDigit_17 : decode cX5_isDigit 17 = .ok (.ireturn, 1) := by decide +kernel
theorem dX5_fail_0 : decode cX5_fail 0 = .ok (.aload_n 0, 1) := by decide +kernel
theorem dX5_fail_1 : decode cX5_fail 1 = .ok (.iload_n 1, 1) := by decide +kernel
theorem dX5_fail_2 : decode cX5_fail 2 = .ok (.putfield 37, 3) := by decide +kernel
theorem dX5_fail_5 : decode cX5_fail 5 = .ok (.aload_n 0, 1) := by decide +kernel
theorem dX5_fail_6 : decode cX5_fail 6 = .ok (.iload_n 2, 1) := by decide +kernel
theorem dX5_fail_7 : decode cX5_fail 7 = .ok (.putfield 28, 3) := by decide +kernel
theorem dX5_fail_10 : decode cX5_fail 10 = .ok (.iconst 0, 1) := by decide +kernel
theorem dX5_fail_11 : decode cX5_fail 11 = .ok (.ireturn, 1) := by decide +kernel
theorem dX6_init_0 : decode cX6_init 0 = .ok (.aload_n 0, 1) := by decide +kernel
theorem dX6_init_1 : decode cX6_init 1 = .ok (.invokespecial 1, 3) := by decide +kernel
theorem dX6_init_4 : decode cX6_init 4 = .ok (.aload_n 0, 1) := by decide +kernel
theorem dX6_init_5 : decode cX6_init 5 = .ok (.new 7, 3) := by decide +kernel
theorem dX6_init_8 : decode cX6_init 8 = .ok (.dup, 1) := by decide +kernel
theorem dX6_init_9 : decode cX6_init 9 = .ok (.invokespecial 9, 3) := by decide +kernel
theorem dX6_init_12 : decode cX6_init 12 = .ok (.putfield 10, 3) := by decide +kernel
theorem dX6_init_15 : decode cX6_init 15 = .ok (.aload_n 0, 1) := by decide +kernel
theorem dX6_init_16 : decode cX6_init 16 = .ok (.bipush 8, 2) := by decide +kernel
theorem dX6_init_18 : decode cX6_init 18 = .ok (.anewarray 7, 3) := by decide +kernel
theorem dX6_init_21 : decode cX6_init 21 = .ok (.putfield 16, 3) := by decide +kernel
theorem dX6_init_24 : decode cX6_init 24 = .ok (.iconst 0, 1) := by decide +kernel
theorem dX6_init_25 : decode cX6_init 25 = .ok (.istore_n 1, 1) := by decide +kernel
theorem dX6_init_26 : decode cX6_init 26 = .ok (.iload_n 1, 1) := by decide +kernel
theorem dX6_init_27 : decode cX6_init 27 = .ok (.bipush 8, 2) := by decide +kernel
theorem dX6_init_29 : decode cX6_init 29 = .ok (.if_icmp .ge 22, 3) := by decide +kernel
theorem dX6_init_32 : decode cX6_init 32 = .ok (.aload_n 0, 1) := by decide +kernel
theorem dX6_init_33 : decode cX6_init 33 = .ok (.getfield 16, 3) := by decide +kernel
theorem dX6_init_36 : decode cX6_init 36 = .ok (.iload_n 1, 1) := by decide +kernel
theorem dX6_init_37 : decode cX6_init 37 = .ok (.new 7, 3) := by decide +kernel
theorem dX6_init_40 : decode cX6_init 40 = .ok (.dup, 1) := by decide +kernel
theorem dX6_init_41 : decode cX6_init 41 = .ok (.invokespecial 9, 3) := by decide +kernel
theorem dX6_init_44 : decode cX6_init 44 = .ok (.aastore, 1) := by decide +kernel
theorem dX6_init_45 : decode cX6_init 45 = .ok (.iinc 1 1, 3) := by decide +kernel
theorem dX6_init_48 : decode cX6_init 48 = .ok (.goto (-22), 3) := by decide +kernel
theorem dX6_init_51 : decode cX6_init 51 = .ok (.aload_n 0, 1) := by decide +kernel
theorem dX6_init_52 : decode cX6_init 52 = .ok (.iconst 2, 1) := by decide +kernel
theorem dX6_init_53 : decode cX6_init 53 = .ok (.anewarray 7, 3) := by decide +kernel
theorem dX6_init_56 : decode cX6_init 56 = .ok (.putfield 20, 3) := by decide +kernel
theorem dX6_init_59 : decode cX6_init 59 = .ok (.aload_n 0, 1) := by decide +kernel
theorem dX6_init_60 : decode cX6_init 60 = .ok (.new 23, 3) := by decide +kernel
theorem dX6_init_63 : decode cX6_init 63 = .ok (.dup, 1) := by decide +kernel
theorem dX6_init_64 : decode cX6_init 64 = .ok (.invokespecial 25, 3) := by decide +kernel
theorem dX6_init_67 : decode cX6_init 67 = .ok (.putfield 26, 3) := by decide +kernel
theorem dX6_init_70 : decode cX6_init 70 = .ok (.aload_n 0, 1) := by decide +kernel
theorem dX6_init_71 : decode cX6_init 71 = .ok (.bipush 12, 2) := by decide +kernel
theorem dX6_init_73 : decode cX6_init 73 = .ok (.newarray .byte, 2) := by decide +kernel
theorem dX6_init_75 : decode cX6_init 75 = .ok (.putfield 30, 3) := by decide +kernel
theorem dX6_init_78 : decode cX6_init 78 = .ok (.aload_n 0, 1) := by decide +kernel
theorem dX6_init_79 : decode cX6_init 79 = .ok (.iconst 0, 1) := by decide +kernel
theorem dX6_init_80 : decode cX6_init 80 = .ok (.putfield 34, 3) := by decide +kernel
theorem dX6_init_83 : decode cX6_init 83 = .ok (.aload_n 0, 1) := by decide +kernel
theorem dX6_init_84 : decode cX6_init 84 = .ok (.iconst 0, 1) := by decide +kernel
theorem dX6_init_85 : decode cX6_init 85 = .ok (.putfield 38, 3) := by decide +kernel
theorem dX6_init_88 : decode cX6_init 88 = .ok (.return_, 1) := by decide +kernel
theorem dX6_append_0 : decode cX6_append 0 = .ok (.aload_n 0, 1) := by decide +kernel
theorem dX6_append_1 : decode cX6_append 1 = .ok (.getfield 26, 3) := by decide +kernel
theorem dX6_append_4 : decode cX6_append 4 = .ok (.getfield 41, 3) := by decide +kernel
theorem dX6_append_7 : decode cX6_append 7 = .ok (.bipush 20, 2) := by decide +kernel
theorem dX6_append_9 : decode cX6_append 9 = .ok (.iadd, 1) := by decide +kernel
theorem dX6_append_10 : decode cX6_append 10 = .ok (.sipush 300, 3) := by decide +kernel
theorem dX6_append_13 : decode cX6_append 13 = .ok (.if_icmp .le 13, 3) := by decide +kernel
theorem dX6_append_16 : decode cX6_append 16 = .ok (.new 44, 3) := by decide +kernel
theorem dX6_append_19 : decode cX6_append 19 = .ok (.dup, 1) := by decide +kernel
theorem dX6_append_20 : decode cX6_append 20 = .ok (.ldc 46, 2) := by decide +kernel
theorem dX6_append_22 : decode cX6_append 22 = .ok (.invokespecial 48, 3) := by decide +kernel
theorem dX6_append_25 : decode cX6_append 25 = .ok (.athrow, 1) := by decide +kernel
theorem dX6_append_26 : decode cX6_append 26 = .ok (.aload_n 0, 1) := by decide +kernel
theorem dX6_append_27 : decode cX6_append 27 = .ok (.getfield 26, 3) := by decide +kernel
theorem dX6_append_30 : decode cX6_append 30 = .ok (.iload_n 1, 1) := by decide +kernel
theorem dX6_append_31 : decode cX6_append 31 = .ok (.invokevirtual 51, 3) := by decide +kernel
theorem dX6_append_34 : decode cX6_append 34 = .ok (.aload_n 0, 1) := by decide +kernel
theorem dX6_append_35 : decode cX6_append 35 = .ok (.getfield 26, 3) := by decide +kernel
theorem dX6_append_38 : decode cX6_append 38 = .ok (.iload_n 2, 1) := by decide +kernel
theorem dX6_append_39 : decode cX6_append 39 = .ok (.invokevirtual 51, 3) := by decide +kernel
theorem dX6_append_42 : decode cX6_append 42 = .ok (.aload_n 0, 1) := by decide +kernel
theorem dX6_append_43 : decode cX6_append 43 = .ok (.getfield 26, 3) := by decide +kernel
theorem dX6_append_46 : decode cX6_append 46 = .ok (.iload_n 3, 1) := by decide +kernel
theorem dX6_append_47 : decode cX6_append 47 = .ok (.invokevirtual 51, 3) := by decide +kernel
theorem dX6_append_50 : decode cX6_append 50 = .ok (.aload_n 0, 1) := by decide +kernel
theorem dX6_append_51 : decode cX6_append 51 = .ok (.getfield 26, 3) := by decide +kernel
theorem dX6_append_54 : decode cX6_append 54 = .ok (.iload 4, 2) := by decide +kernel
theorem dX6_append_56 : decode cX6_append 56 = .ok (.invokevirtual 51, 3) := by decide +kernel
theorem dX6_append_59 : decode cX6_append 59 = .ok (.aload_n 0, 1) := by decide +kernel
theorem dX6_append_60 : decode cX6_append 60 = .ok (.getfield 26, 3) := by decide +kernel
theorem dX6_append_63 : decode cX6_append 63 = .ok (.iload 5, 2) := by decide +kernel
theorem dX6_append_65 : decode cX6_append 65 = .ok (.invokevirtual 51, 3) := by decide +kernel
theorem dX6_append_68 : decode cX6_append 68 = .ok (.aload_n 0, 1) := by decide +kernel
theorem dX6_append_69 : decode cX6_append 69 = .ok (.getfield 26, 3) := by decide +kernel
theorem dX6_append_72 : decode cX6_append 72 = .ok (.getfield 41, 3) := by decide +kernel
theorem dX6_append_75 : decode cX6_append 75 = .ok (.ireturn, 1) := by decide +kernel
theorem dX6_load_0 : decode cX6_load 0 = .ok (.iload_n 1, 1) := by decide +kernel
theorem dX6_load_1 : decode cX6_load 1 = .ok (.ifCond .lt 14, 3) := by decide +kernel
theorem dX6_load_4 : decode cX6_load 4 = .ok (.iload_n 1, 1) := by decide +kernel
theorem dX6_load_5 : decode cX6_load 5 = .ok (.aload_n 0, 1) := by decide +kernel
theorem dX6_load_6 : decode cX6_load 6 = .ok (.getfield 26, 3) := by decide +kernel
theorem dX6_load_9 : decode cX6_load 9 = .ok (.getfield 41, 3) := by decide +kernel
theorem dX6_load_12 : decode cX6_load 12 = .ok (.if_icmp .le 13, 3) := by decide +kernel
theorem dX6_load_15 : decode cX6_load 15 = .ok (.new 55, 3) := by decide +kernel
theorem dX6_load_18 : decode cX6_load 18 = .ok (.dup, 1) := by decide +kernel
theorem dX6_load_19 : decode cX6_load 19 = .ok (.ldc 57, 2) := by decide +kernel
theorem dX6_load_21 : decode cX6_load 21 = .ok (.invokespecial 59, 3) := by decide +kernel
theorem dX6_load_24 : decode cX6_load 24 = .ok (.athrow, 1) := by decide +kernel
theorem dX6_load_25 : decode cX6_load 25 = .ok (.aload_n 0, 1) := by decide +kernel
theorem dX6_load_26 : decode cX6_load 26 = .ok (.getfield 26, 3) := by decide +kernel
theorem dX6_load_29 : decode cX6_load 29 = .ok (.iload_n 1, 1) := by decide +kernel
theorem dX6_load_30 : decode cX6_load 30 = .ok (.invokevirtual 60, 3) := by decide +kernel
theorem dX6_load_33 : decode cX6_load 33 = .ok (.istore_n 2, 1) := by decide +kernel
theorem dX6_load_34 : decode cX6_load 34 = .ok (.iload_n 2, 1) := by decide +kernel
theorem dX6_load_35 : decode cX6_load 35 = .ok (.ifCond .eq 5, 3) := by decide +kernel
theorem dX6_load_38 : decode cX6_load 38 = .ok (.iload_n 2, 1) := by decide +kernel
theorem dX6_load_39 : decode cX6_load 39 = .ok (.ireturn, 1) := by decide +kernel
theorem dX6_load_40 : decode cX6_load 40 = .ok (.aload_n 0, 1) := by decide +kernel
theorem dX6_load_41 : decode cX6_load 41 = .ok (.invokevirtual 64, 3) := by decide +kernel
theorem dX6_load_44 : decode cX6_load 44 = .ok (.aload_n 0, 1) := by decide +kernel
theorem dX6_load_45 : decode cX6_load 45 = .ok (.getfield 10, 3) := by decide +kernel
theorem dX6_load_48 : decode cX6_load 48 = .ok (.aload_n 0, 1) := by decide +kernel
theorem dX6_load_49 : decode cX6_load 49 = .ok (.getfield 26, 3) := by decide +kernel
theorem dX6_load_52 : decode cX6_load 52 = .ok (.getfield 67, 3) := by decide +kernel
theorem dX6_load_55 : decode cX6_load 55 = .ok (.aload_n 0, 1) := by decide +kernel
theorem dX6_load_56 : decode cX6_load 56 = .ok (.getfield 26, 3) := by decide +kernel
theorem dX6_load_59 : decode cX6_load 59 = .ok (.getfield 71, 3) := by decide +kernel
theorem dX6_load_62 : decode cX6_load 62 = .ok (.aload_n 0, 1) := by decide +kernel
theorem dX6_load_63 : decode cX6_load 63 = .ok (.getfield 26, 3) := by decide +kernel
theorem dX6_load_66 : decode cX6_load 66 = .ok (.getfield 75, 3) := by decide +kernel
theorem dX6_load_69 : decode cX6_load 69 = .ok (.invokevirtual 78, 3) := by decide +kernel
theorem dX6_load_72 : decode cX6_load 72 = .ok (.aload_n 0, 1) := by decide +kernel
theorem dX6_load_73 : decode cX6_load 73 = .ok (.getfield 10, 3) := by decide +kernel
theorem dX6_load_76 : decode cX6_load 76 = .ok (.aload_n 0, 1) := by decide +kernel
theorem dX6_load_77 : decode cX6_load 77 = .ok (.getfield 26, 3) := by decide +kernel
theorem dX6_load_80 : decode cX6_load 80 = .ok (.getfield 82, 3) := by decide +kernel
theorem dX6_load_83 : decode cX6_load 83 = .ok (.putfield 85, 3) := by decide +kernel
theorem dX6_load_86 : decode cX6_load 86 = .ok (.aload_n 0, 1) := by decide +kernel
theorem dX6_load_87 : decode cX6_load 87 = .ok (.getfield 10, 3) := by decide +kernel
theorem dX6_load_90 : decode cX6_load 90 = .ok (.aload_n 0, 1) := by decide +kernel
theorem dX6_load_91 : decode cX6_load 91 = .ok (.getfield 26, 3) := by decide +kernel
theorem dX6_load_94 : decode cX6_load 94 = .ok (.getfield 86, 3) := by decide +kernel
theorem dX6_load_97 : decode cX6_load 97 = .ok (.putfield 89, 3) := by decide +kernel
theorem dX6_load_100 : decode cX6_load 100 = .ok (.aload_n 0, 1) := by decide +kernel
theorem dX6_load_101 : decode cX6_load 101 = .ok (.getfield 10, 3) := by decide +kernel
theorem dX6_load_104 : decode cX6_load 104 = .ok (.aload_n 0, 1) := by decide +kernel
theorem dX6_load_105 : decode cX6_load 105 = .ok (.getfield 26, 3) := by decide +kernel
theorem dX6_load_108 : decode cX6_load 108 = .ok (.getfield 90, 3) := by decide +kernel
theorem dX6_load_111 : decode cX6_load 111 = .ok (.putfield 93, 3) := by decide +kernel
theorem dX6_load_114 : decode cX6_load 114 = .ok (.aload_n 0, 1) := by decide +kernel
theorem dX6_load_115 : decode cX6_load 115 = .ok (.getfield 10, 3) := by decide +kernel
theorem dX6_load_118 : decode cX6_load 118 = .ok (.getfield 94, 3) := by decide +kernel
theorem dX6_load_121 : decode cX6_load 121 = .ok (.invokevirtual 98, 3) := by decide +kernel
theorem dX6_load_124 : decode cX6_load 124 = .ok (.ireturn, 1) := by decide +kernel
theorem dX6_errorPosition_0 : decode cX6_errorPosition 0 = .ok (.aload_n 0, 1) := by decide +kernel
theorem dX6_errorPosition_1 : decode cX6_errorPosition 1 = .ok (.getfield 26, 3) := by decide +kernel
theorem dX6_errorPosition_4 : decode cX6_errorPosition 4 = .ok (.getfield 104, 3) := by decide +kernel
theorem dX6_errorPosition_7 : decode cX6_errorPosition 7 = .ok (.ireturn, 1) := by decide +kernel
theorem dX6_count_0 : decode cX6_count 0 = .ok (.iload_n 1, 1) := by decide +kernel
theorem dX6_count_1 : decode cX6_count 1 = .ok (.tableswitch 183 0 11 #[63, 77, 91, 105, 119, 127, 135, 143, 151, 159, 167, 175], 63) := by decide +kernel
theorem dX6_count_64 : decode cX6_count 64 = .ok (.aload_n 0, 1) := by decide +kernel
theorem dX6_count_65 : decode cX6_count 65 = .ok (.getfield 10, 3) := by decide +kernel
theorem dX6_count_68 : decode cX6_count 68 = .ok (.getfield 94, 3) := by decide +kernel
theorem dX6_count_71 : decode cX6_count 71 = .ok (.getfield 107, 3) := by decide +kernel
theorem dX6_count_74 : decode cX6_count 74 = .ok (.getfield 108, 3) := by decide +kernel
theorem dX6_count_77 : decode cX6_count 77 = .ok (.ireturn, 1) := by decide +kernel
theorem dX6_count_78 : decode cX6_count 78 = .ok (.aload_n 0, 1) := by decide +kernel
theorem dX6_count_79 : decode cX6_count 79 = .ok (.getfield 10, 3) := by decide +kernel
theorem dX6_count_82 : decode cX6_count 82 = .ok (.getfield 94, 3) := by decide +kernel
theorem dX6_count_85 : decode cX6_count 85 = .ok (.getfield 107, 3) := by decide +kernel
theorem dX6_count_88 : decode cX6_count 88 = .ok (.getfield 113, 3) := by decide +kernel
theorem dX6_count_91 : decode cX6_count 91 = .ok (.ireturn, 1) := by decide +kernel
theorem dX6_count_92 : decode cX6_count 92 = .ok (.aload_n 0, 1) := by decide +kernel
theorem dX6_count_93 : decode cX6_count 93 = .ok (.getfield 10, 3) := by decide +kernel
theorem dX6_count_96 : decode cX6_count 96 = .ok (.getfield 94, 3) := by decide +kernel
theorem dX6_count_99 : decode cX6_count 99 = .ok (.getfield 116, 3) := by decide +kernel
theorem dX6_count_102 : decode cX6_count 102 = .ok (.invokestatic 117, 3) := by decide +kernel
theorem dX6_count_105 : decode cX6_count 105 = .ok (.ireturn, 1) := by decide +kernel
theorem dX6_count_106 : decode cX6_count 106 = .ok (.aload_n 0, 1) := by decide +kernel
theorem dX6_count_107 : decode cX6_count 107 = .ok (.getfield 10, 3) := by decide +kernel
theorem dX6_count_110 : decode cX6_count 110 = .ok (.getfield 94, 3) := by decide +kernel
theorem dX6_count_113 : decode cX6_count 113 = .ok (.getfield 123, 3) := by decide +kernel
theorem dX6_count_116 : decode cX6_count 116 = .ok (.invokestatic 117, 3) := by decide +kernel
theorem dX6_count_119 : decode cX6_count 119 = .ok (.ireturn, 1) := by decide +kernel
theorem dX6_count_120 : decode cX6_count 120 = .ok (.aload_n 0, 1) := by decide +kernel
theorem dX6_count_121 : decode cX6_count 121 = .ok (.getfield 10, 3) := by decide +kernel
theorem dX6_count_124 : decode cX6_count 124 = .ok (.getfield 85, 3) := by decide +kernel
theorem dX6_count_127 : decode cX6_count 127 = .ok (.ireturn, 1) := by decide +kernel
theorem dX6_count_128 : decode cX6_count 128 = .ok (.aload_n 0, 1) := by decide +kernel
theorem dX6_count_129 : decode cX6_count 129 = .ok (.getfield 10, 3) := by decide +kernel
theorem dX6_count_132 : decode cX6_count 132 = .ok (.getfield 124, 3) := by decide +kernel
theorem dX6_count_135 : decode cX6_count 135 = .ok (.ireturn, 1) := by decide +kernel
theorem dX6_count_136 : decode cX6_count 136 = .ok (.aload_n 0, 1) := by decide +kernel
theorem dX6_count_137 : decode cX6_count 137 = .ok (.getfield 10, 3) := by decide +kernel
theorem dX6_count_140 : decode cX6_count 140 = .ok (.getfield 127, 3) := by decide +kernel
theorem dX6_count_143 : decode cX6_count 143 = .ok (.ireturn, 1) := by decide +kernel
theorem dX6_count_144 : decode cX6_count 144 = .ok (.aload_n 0, 1) := by decide +kernel
theorem dX6_count_145 : decode cX6_count 145 = .ok (.getfield 10, 3) := by decide +kernel
theorem dX6_count_148 : decode cX6_count 148 = .ok (.getfield 130, 3) := by decide +kernel
theorem dX6_count_151 : decode cX6_count 151 = .ok (.ireturn, 1) := by decide +kernel
theorem dX6_count_152 : decode cX6_count 152 = .ok (.aload_n 0, 1) := by decide +kernel
theorem dX6_count_153 : decode cX6_count 153 = .ok (.getfield 10, 3) := by decide +kernel
theorem dX6_count_156 : decode cX6_count 156 = .ok (.getfield 133, 3) := by decide +kernel
theorem dX6_count_159 : decode cX6_count 159 = .ok (.ireturn, 1) := by decide +kernel
theorem dX6_count_160 : decode cX6_count 160 = .ok (.aload_n 0, 1) := by decide +kernel
theorem dX6_count_161 : decode cX6_count 161 = .ok (.getfield 10, 3) := by decide +kernel
theorem dX6_count_164 : decode cX6_count 164 = .ok (.getfield 136, 3) := by decide +kernel
theorem dX6_count_167 : decode cX6_count 167 = .ok (.ireturn, 1) := by decide +kernel
theorem dX6_count_168 : decode cX6_count 168 = .ok (.aload_n 0, 1) := by decide +kernel
theorem dX6_count_169 : decode cX6_count 169 = .ok (.getfield 10, 3) := by decide +kernel
theorem dX6_count_172 : decode cX6_count 172 = .ok (.getfield 89, 3) := by decide +kernel
theorem dX6_count_175 : decode cX6_count 175 = .ok (.ireturn, 1) := by decide +kernel
theorem dX6_count_176 : decode cX6_count 176 = .ok (.aload_n 0, 1) := by decide +kernel
theorem dX6_count_177 : decode cX6_count 177 = .ok (.getfield 10, 3) := by decide +kernel
theorem dX6_count_180 : decode cX6_count 180 = .ok (.getfield 93, 3) := by decide +kernel
theorem dX6_count_183 : decode cX6_count 183 = .ok (.ireturn, 1) := by decide +kernel
theorem dX6_count_184 : decode cX6_count 184 = .ok (.new 55, 3) := by decide +kernel
theorem dX6_count_187 : decode cX6_count 187 = .ok (.dup, 1) := by decide +kernel
theorem dX6_count_188 : decode cX6_count 188 = .ok (.ldc 139, 2) := by decide +kernel
theorem dX6_count_190 : decode cX6_count 190 = .ok (.invokespecial 59, 3) := by decide +kernel
theorem dX6_count_193 : decode cX6_count 193 = .ok (.athrow, 1) := by decide +kernel
theorem dX6_place_0 : decode cX6_place 0 = .ok (.aload_n 0, 1) := by decide +kernel
theorem dX6_place_1 : decode cX6_place 1 = .ok (.iload_n 1, 1) := by decide +kernel
theorem dX6_place_2 : decode cX6_place 2 = .ok (.invokevirtual 141, 3) := by decide +kernel
theorem dX6_place_5 : decode cX6_place 5 = .ok (.iload_n 2, 1) := by decide +kernel
theorem dX6_place_6 : decode cX6_place 6 = .ok (.ifCond .lt 20, 3) := by decide +kernel
theorem dX6_place_9 : decode cX6_place 9 = .ok (.iload_n 2, 1) := by decide +kernel
theorem dX6_place_10 : decode cX6_place 10 = .ok (.aload_n 0, 1) := by decide +kernel
theorem dX6_place_11 : decode cX6_place 11 = .ok (.getfield 10, 3) := by decide +kernel
theorem dX6_place_14 : decode cX6_place 14 = .ok (.getfield 94, 3) := by decide +kernel
theorem dX6_place_17 : decode cX6_place 17 = .ok (.getfield 107, 3) := by decide +kernel
theorem dX6_place_20 : decode cX6_place 20 = .ok (.getfield 113, 3) := by decide +kernel
theorem dX6_place_23 : decode cX6_place 23 = .ok (.if_icmp .lt 13, 3) := by decide +kernel
theorem dX6_place_26 : decode cX6_place 26 = .ok (.new 144, 3) := by decide +kernel
theorem dX6_place_29 : decode cX6_place 29 = .ok (.dup, 1) := by decide +kernel
theorem dX6_place_30 : decode cX6_place 30 = .ok (.ldc 146, 2) := by decide +kernel
theorem dX6_place_32 : decode cX6_place 32 = .ok (.invokespecial 148, 3) := by decide +kernel
theorem dX6_place_35 : decode cX6_place 35 = .ok (.athrow, 1) := by decide +kernel
theorem dX6_place_36 : decode cX6_place 36 = .ok (.aload_n 0, 1) := by decide +kernel
theorem dX6_place_37 : decode cX6_place 37 = .ok (.getfield 10, 3) := by decide +kernel
theorem dX6_place_40 : decode cX6_place 40 = .ok (.getfield 94, 3) := by decide +kernel
theorem dX6_place_43 : decode cX6_place 43 = .ok (.getfield 107, 3) := by decide +kernel
theorem dX6_place_46 : decode cX6_place 46 = .ok (.getfield 113, 3) := by decide +kernel
theorem dX6_place_49 : decode cX6_place 49 = .ok (.iload_n 1, 1) := by decide +kernel
theorem dX6_place_50 : decode cX6_place 50 = .ok (.imul, 1) := by decide +kernel
theorem dX6_place_51 : decode cX6_place 51 = .ok (.iload_n 2, 1) := by decide +kernel
theorem dX6_place_52 : decode cX6_place 52 = .ok (.iadd, 1) := by decide +kernel
theorem dX6_place_53 : decode cX6_place 53 = .ok (.ireturn, 1) := by decide +kernel
theorem dX6_neighbour_0 : decode cX6_neighbour 0 = .ok (.aload_n 0, 1) := by decide +kernel
theorem dX6_neighbour_1 : decode cX6_neighbour 1 = .ok (.iload_n 1, 1) := by decide +kernel
theorem dX6_neighbour_2 : decode cX6_neighbour 2 = .ok (.invokevirtual 149, 3) := by decide +kernel
theorem dX6_neighbour_5 : decode cX6_neighbour 5 = .ok (.iload_n 2, 1) := by decide +kernel
theorem dX6_neighbour_6 : decode cX6_neighbour 6 = .ok (.iconst 0, 1) := by decide +kernel
theorem dX6_neighbour_7 : decode cX6_neighbour 7 = .ok (.iconst 3, 1) := by decide +kernel
theorem dX6_neighbour_8 : decode cX6_neighbour 8 = .ok (.invokestatic 152, 3) := by decide +kernel
theorem dX6_neighbour_11 : decode cX6_neighbour 11 = .ok (.aload_n 0, 1) := by decide +kernel
theorem dX6_neighbour_12 : decode cX6_neighbour 12 = .ok (.getfield 10, 3) := by decide +kernel
theorem dX6_neighbour_15 : decode cX6_neighbour 15 = .ok (.getfield 94, 3) := by decide +kernel
theorem dX6_neighbour_18 : decode cX6_neighbour 18 = .ok (.getfield 107, 3) := by decide +kernel
theorem dX6_neighbour_21 : decode cX6_neighbour 21 = .ok (.iload_n 1, 1) := by decide +kernel
theorem dX6_neighbour_22 : decode cX6_neighbour 22 = .ok (.iload_n 2, 1) := by decide +kernel
theorem dX6_neighbour_23 : decode cX6_neighbour 23 = .ok (.invokevirtual 156, 3) := by decide +kernel
theorem dX6_neighbour_26 : decode cX6_neighbour 26 = .ok (.ireturn, 1) := by decide +kernel
theorem dX6_stone_0 : decode cX6_stone 0 = .ok (.aload_n 0, 1) := by decide +kernel
theorem dX6_stone_1 : decode cX6_stone 1 = .ok (.iload_n 1, 1) := by decide +kernel
theorem dX6_stone_2 : decode cX6_stone 2 = .ok (.invokevirtual 149, 3) := by decide +kernel
theorem dX6_stone_5 : decode cX6_stone 5 = .ok (.aload_n 0, 1) := by decide +kernel
theorem dX6_stone_6 : decode cX6_stone 6 = .ok (.getfield 10, 3) := by decide +kernel
theorem dX6_stone_9 : decode cX6_stone 9 = .ok (.getfield 94, 3) := by decide +kernel
theorem dX6_stone_12 : decode cX6_stone 12 = .ok (.iload_n 1, 1) := by decide +kernel
theorem dX6_stone_13 : decode cX6_stone 13 = .ok (.invokevirtual 160, 3) := by decide +kernel
theorem dX6_stone_16 : decode cX6_stone 16 = .ok (.ireturn, 1) := by decide +kernel
theorem dX6_chain_0 : decode cX6_chain 0 = .ok (.aload_n 0, 1) := by decide +kernel
theorem dX6_chain_1 : decode cX6_chain 1 = .ok (.iload_n 1, 1) := by decide +kernel
theorem dX6_chain_2 : decode cX6_chain 2 = .ok (.invokevirtual 149, 3) := by decide +kernel
theorem dX6_chain_5 : decode cX6_chain 5 = .ok (.iload_n 2, 1) := by decide +kernel
theorem dX6_chain_6 : decode cX6_chain 6 = .ok (.iconst 0, 1) := by decide +kernel
theorem dX6_chain_7 : decode cX6_chain 7 = .ok (.iconst 4, 1) := by decide +kernel
theorem dX6_chain_8 : decode cX6_chain 8 = .ok (.invokestatic 152, 3) := by decide +kernel
theorem dX6_chain_11 : decode cX6_chain 11 = .ok (.aload_n 0, 1) := by decide +kernel
theorem dX6_chain_12 : decode cX6_chain 12 = .ok (.iload_n 1, 1) := by decide +kernel
theorem dX6_chain_13 : decode cX6_chain 13 = .ok (.invokevirtual 163, 3) := by decide +kernel
theorem dX6_chain_16 : decode cX6_chain 16 = .ok (.aload_n 0, 1) := by decide +kernel
theorem dX6_chain_17 : decode cX6_chain 17 = .ok (.getfield 10, 3) := by decide +kernel
theorem dX6_chain_20 : decode cX6_chain 20 = .ok (.getfield 94, 3) := by decide +kernel
theorem dX6_chain_23 : decode cX6_chain 23 = .ok (.astore_n 3, 1) := by decide +kernel
theorem dX6_chain_24 : decode cX6_chain 24 = .ok (.aload_n 3, 1) := by decide +kernel
theorem dX6_chain_25 : decode cX6_chain 25 = .ok (.iload_n 1, 1) := by decide +kernel
theorem dX6_chain_26 : decode cX6_chain 26 = .ok (.invokevirtual 166, 3) := by decide +kernel
theorem dX6_chain_29 : decode cX6_chain 29 = .ok (.lstore 4, 2) := by decide +kernel
theorem dX6_chain_31 : decode cX6_chain 31 = .ok (.iload_n 2, 1) := by decide +kernel
theorem dX6_chain_32 : decode cX6_chain 32 = .ok (.tableswitch 64 0 3 #[32, 38, 44, 54], 32) := by decide +kernel
theorem dX6_chain_64 : decode cX6_chain 64 = .ok (.lload 4, 2) := by decide +kernel
theorem dX6_chain_66 : decode cX6_chain 66 = .ok (.invokestatic 170, 3) := by decide +kernel
theorem dX6_chain_69 : decode cX6_chain 69 = .ok (.ireturn, 1) := by decide +kernel
theorem dX6_chain_70 : decode cX6_chain 70 = .ok (.lload 4, 2) := by decide +kernel
theorem dX6_chain_72 : decode cX6_chain 72 = .ok (.invokestatic 117, 3) := by decide +kernel
theorem dX6_chain_75 : decode cX6_chain 75 = .ok (.ireturn, 1) := by decide +kernel
theorem dX6_chain_76 : decode cX6_chain 76 = .ok (.aload_n 3, 1) := by decide +kernel
theorem dX6_chain_77 : decode cX6_chain 77 = .ok (.lload 4, 2) := by decide +kernel
theorem dX6_chain_79 : decode cX6_chain 79 = .ok (.invokevirtual 173, 3) := by decide +kernel
theorem dX6_chain_82 : decode cX6_chain 82 = .ok (.invokestatic 117, 3) := by decide +kernel
theorem dX6_chain_85 : decode cX6_chain 85 = .ok (.ireturn, 1) := by decide +kernel
theorem dX6_chain_86 : decode cX6_chain 86 = .ok (.aload_n 3, 1) := by decide +kernel
theorem dX6_chain_87 : decode cX6_chain 87 = .ok (.lload 4, 2) := by decide +kernel
theorem dX6_chain_89 : decode cX6_chain 89 = .ok (.invokevirtual 173, 3) := by decide +kernel
theorem dX6_chain_92 : decode cX6_chain 92 = .ok (.invokestatic 170, 3) := by decide +kernel
theorem dX6_chain_95 : decode cX6_chain 95 = .ok (.ireturn, 1) := by decide +kernel
theorem dX6_chain_96 : decode cX6_chain 96 = .ok (.aload_n 3, 1) := by decide +kernel
theorem dX6_chain_97 : decode cX6_chain 97 = .ok (.lload 4, 2) := by decide +kernel
theorem dX6_chain_99 : decode cX6_chain 99 = .ok (.aload_n 3, 1) := by decide +kernel
theorem dX6_chain_100 : decode cX6_chain 100 = .ok (.aload_n 3, 1) := by decide +kernel
theorem dX6_chain_101 : decode cX6_chain 101 = .ok (.iload_n 1, 1) := by decide +kernel
theorem dX6_chain_102 : decode cX6_chain 102 = .ok (.invokevirtual 160, 3) := by decide +kernel
theorem dX6_chain_105 : decode cX6_chain 105 = .ok (.invokevirtual 177, 3) := by decide +kernel
theorem dX6_chain_108 : decode cX6_chain 108 = .ok (.invokevirtual 180, 3) := by decide +kernel
theorem dX6_chain_111 : decode cX6_chain 111 = .ok (.ireturn, 1) := by decide +kernel
theorem dX6_freedom_0 : decode cX6_freedom 0 = .ok (.aload_n 0, 1) := by decide +kernel
theorem dX6_freedom_1 : decode cX6_freedom 1 = .ok (.iload_n 1, 1) := by decide +kernel
theorem dX6_freedom_2 : decode cX6_freedom 2 = .ok (.invokevirtual 149, 3) := by decide +kernel
theorem dX6_freedom_5 : decode cX6_freedom 5 = .ok (.aload_n 0, 1) := by decide +kernel
theorem dX6_freedom_6 : decode cX6_freedom 6 = .ok (.getfield 10, 3) := by decide +kernel
theorem dX6_freedom_9 : decode cX6_freedom 9 = .ok (.getfield 94, 3) := by decide +kernel
theorem dX6_freedom_12 : decode cX6_freedom 12 = .ok (.aload_n 0, 1) := by decide +kernel
theorem dX6_freedom_13 : decode cX6_freedom 13 = .ok (.getfield 10, 3) := by decide +kernel
theorem dX6_freedom_16 : decode cX6_freedom 16 = .ok (.getfield 94, 3) := by decide +kernel
theorem dX6_freedom_19 : decode cX6_freedom 19 = .ok (.iload_n 1, 1) := by decide +kernel
theorem dX6_freedom_20 : decode cX6_freedom 20 = .ok (.invokevirtual 166, 3) := by decide +kernel
theorem dX6_freedom_23 : decode cX6_freedom 23 = .ok (.invokevirtual 173, 3) := by decide +kernel
theorem dX6_freedom_26 : decode cX6_freedom 26 = .ok (.lstore_n 3, 1) := by decide +kernel
theorem dX6_freedom_27 : decode cX6_freedom 27 = .ok (.iload_n 2, 1) := by decide +kernel
theorem dX6_freedom_28 : decode cX6_freedom 28 = .ok (.ifCond .lt 11, 3) := by decide +kernel
theorem dX6_freedom_31 : decode cX6_freedom 31 = .ok (.iload_n 2, 1) := by decide +kernel
theorem dX6_freedom_32 : decode cX6_freedom 32 = .ok (.lload_n 3, 1) := by decide +kernel
theorem dX6_freedom_33 : decode cX6_freedom 33 = .ok (.invokestatic 117, 3) := by decide +kernel
theorem dX6_freedom_36 : decode cX6_freedom 36 = .ok (.if_icmp .lt 13, 3) := by decide +kernel
theorem dX6_freedom_39 : decode cX6_freedom 39 = .ok (.new 144, 3) := by decide +kernel
theorem dX6_freedom_42 : decode cX6_freedom 42 = .ok (.dup, 1) := by decide +kernel
theorem dX6_freedom_43 : decode cX6_freedom 43 = .ok (.ldc 184, 2) := by decide +kernel
theorem dX6_freedom_45 : decode cX6_freedom 45 = .ok (.invokespecial 148, 3) := by decide +kernel
theorem dX6_freedom_48 : decode cX6_freedom 48 = .ok (.athrow, 1) := by decide +kernel
theorem dX6_freedom_49 : decode cX6_freedom 49 = .ok (.iconst 0, 1) := by decide +kernel
theorem dX6_freedom_50 : decode cX6_freedom 50 = .ok (.istore 5, 2) := by decide +kernel
theorem dX6_freedom_52 : decode cX6_freedom 52 = .ok (.iload 5, 2) := by decide +kernel
theorem dX6_freedom_54 : decode cX6_freedom 54 = .ok (.iload_n 2, 1) := by decide +kernel
theorem dX6_freedom_55 : decode cX6_freedom 55 = .ok (.if_icmp .ge 15, 3) := by decide +kernel
theorem dX6_freedom_58 : decode cX6_freedom 58 = .ok (.lload_n 3, 1) := by decide +kernel
theorem dX6_freedom_59 : decode cX6_freedom 59 = .ok (.lload_n 3, 1) := by decide +kernel
theorem dX6_freedom_60 : decode cX6_freedom 60 = .ok (.lconst 1, 1) := by decide +kernel
theorem dX6_freedom_61 : decode cX6_freedom 61 = .ok (.lsub, 1) := by decide +kernel
theorem dX6_freedom_62 : decode cX6_freedom 62 = .ok (.land, 1) := by decide +kernel
theorem dX6_freedom_63 : decode cX6_freedom 63 = .ok (.lstore_n 3, 1) := by decide +kernel
theorem dX6_freedom_64 : decode cX6_freedom 64 = .ok (.iinc 5 1, 3) := by decide +kernel
theorem dX6_freedom_67 : decode cX6_freedom 67 = .ok (.goto (-15), 3) := by decide +kernel
theorem dX6_freedom_70 : decode cX6_freedom 70 = .ok (.lload_n 3, 1) := by decide +kernel
theorem dX6_freedom_71 : decode cX6_freedom 71 = .ok (.invokestatic 170, 3) := by decide +kernel
theorem dX6_freedom_74 : decode cX6_freedom 74 = .ok (.ireturn, 1) := by decide +kernel
theorem dX6_chains_0 : decode cX6_chains 0 = .ok (.iload_n 1, 1) := by decide +kernel
theorem dX6_chains_1 : decode cX6_chains 1 = .ok (.invokestatic 186, 3) := by decide +kernel
theorem dX6_chains_4 : decode cX6_chains 4 = .ok (.aload_n 0, 1) := by decide +kernel
theorem dX6_chains_5 : decode cX6_chains 5 = .ok (.getfield 10, 3) := by decide +kernel
theorem dX6_chains_8 : decode cX6_chains 8 = .ok (.getfield 94, 3) := by decide +kernel
theorem dX6_chains_11 : decode cX6_chains 11 = .ok (.iload_n 1, 1) := by decide +kernel
theorem dX6_chains_12 : decode cX6_chains 12 = .ok (.iload_n 2, 1) := by decide +kernel
theorem dX6_chains_13 : decode cX6_chains 13 = .ok (.invokevirtual 189, 3) := by decide +kernel
theorem dX6_chains_16 : decode cX6_chains 16 = .ok (.ireturn, 1) := by decide +kernel
theorem dX6_weakest_0 : decode cX6_weakest 0 = .ok (.iload_n 1, 1) := by decide +kernel
theorem dX6_weakest_1 : decode cX6_weakest 1 = .ok (.invokestatic 186, 3) := by decide +kernel
theorem dX6_weakest_4 : decode cX6_weakest 4 = .ok (.aload_n 0, 1) := by decide +kernel
theorem dX6_weakest_5 : decode cX6_weakest 5 = .ok (.getfield 10, 3) := by decide +kernel
theorem dX6_weakest_8 : decode cX6_weakest 8 = .ok (.getfield 94, 3) := by decide +kernel
theorem dX6_weakest_11 : decode cX6_weakest 11 = .ok (.iload_n 1, 1) := by decide +kernel
theorem dX6_weakest_12 : decode cX6_weakest 12 = .ok (.invokevirtual 192, 3) := by decide +kernel
theorem dX6_weakest_15 : decode cX6_weakest 15 = .ok (.lconst 0, 1) := by decide +kernel
theorem dX6_weakest_16 : decode cX6_weakest 16 = .ok (.lcmp, 1) := by decide +kernel
theorem dX6_weakest_17 : decode cX6_weakest 17 = .ok (.ifCond .ne 13, 3) := by decide +kernel
theorem dX6_weakest_20 : decode cX6_weakest 20 = .ok (.new 195, 3) := by decide +kernel
theorem dX6_weakest_23 : decode cX6_weakest 23 = .ok (.dup, 1) := by decide +kernel
theorem dX6_weakest_24 : decode cX6_weakest 24 = .ok (.ldc 197, 2) := by decide +kernel
theorem dX6_weakest_26 : decode cX6_weakest 26 = .ok (.invokespecial 199, 3) := by decide +kernel
theorem dX6_weakest_29 : decode cX6_weakest 29 = .ok (.athrow, 1) := by decide +kernel
theorem dX6_weakest_30 : decode cX6_weakest 30 = .ok (.aload_n 0, 1) := by decide +kernel
theorem dX6_weakest_31 : decode cX6_weakest 31 = .ok (.getfield 10, 3) := by decide +kernel
theorem dX6_weakest_34 : decode cX6_weakest 34 = .ok (.getfield 94, 3) := by decide +kernel
theorem dX6_weakest_37 : decode cX6_weakest 37 = .ok (.iload_n 1, 1) := by decide +kernel
theorem dX6_weakest_38 : decode cX6_weakest 38 = .ok (.invokevirtual 200, 3) := by decide +kernel
theorem dX6_weakest_41 : decode cX6_weakest 41 = .ok (.ireturn, 1) := by decide +kernel
theorem dX6_reason_0 : decode cX6_reason 0 = .ok (.aload_n 0, 1) := by decide +kernel
theorem dX6_reason_1 : decode cX6_reason 1 = .ok (.iload_n 1, 1) := by decide +kernel
theorem dX6_reason_2 : decode cX6_reason 2 = .ok (.invokevirtual 149, 3) := by decide +kernel
theorem dX6_reason_5 : decode cX6_reason 5 = .ok (.iload_n 2, 1) := by decide +kernel
theorem dX6_reason_6 : decode cX6_reason 6 = .ok (.invokestatic 186, 3) := by decide +kernel
theorem dX6_reason_9 : decode cX6_reason 9 = .ok (.aload_n 0, 1) := by decide +kernel
theorem dX6_reason_10 : decode cX6_reason 10 = .ok (.getfield 10, 3) := by decide +kernel
theorem dX6_reason_13 : decode cX6_reason 13 = .ok (.iload_n 1, 1) := by decide +kernel
theorem dX6_reason_14 : decode cX6_reason 14 = .ok (.iload_n 2, 1) := by decide +kernel
theorem dX6_reason_15 : decode cX6_reason 15 = .ok (.invokevirtual 203, 3) := by decide +kernel
theorem dX6_reason_18 : decode cX6_reason 18 = .ok (.ireturn, 1) := by decide +kernel
theorem dX6_play_0 : decode cX6_play 0 = .ok (.aload_n 0, 1) := by decide +kernel
theorem dX6_play_1 : decode cX6_play 1 = .ok (.iload_n 1, 1) := by decide +kernel
theorem dX6_play_2 : decode cX6_play 2 = .ok (.invokevirtual 149, 3) := by decide +kernel
theorem dX6_play_5 : decode cX6_play 5 = .ok (.aload_n 0, 1) := by decide +kernel
theorem dX6_play_6 : decode cX6_play 6 = .ok (.getfield 10, 3) := by decide +kernel
theorem dX6_play_9 : decode cX6_play 9 = .ok (.iload_n 1, 1) := by decide +kernel
theorem dX6_play_10 : decode cX6_play 10 = .ok (.aload_n 0, 1) := by decide +kernel
theorem dX6_play_11 : decode cX6_play 11 = .ok (.getfield 10, 3) := by decide +kernel
theorem dX6_play_14 : decode cX6_play 14 = .ok (.getfield 85, 3) := by decide +kernel
theorem dX6_play_17 : decode cX6_play 17 = .ok (.invokevirtual 203, 3) := by decide +kernel
theorem dX6_play_20 : decode cX6_play 20 = .ok (.ifCond .eq 13, 3) := by decide +kernel
theorem dX6_play_23 : decode cX6_play 23 = .ok (.new 44, 3) := by decide +kernel
theorem dX6_play_26 : decode cX6_play 26 = .ok (.dup, 1) := by decide +kernel
theorem dX6_play_27 : decode cX6_play 27 = .ok (.ldc 206, 2) := by decide +kernel
theorem dX6_play_29 : decode cX6_play 29 = .ok (.invokespecial 48, 3) := by decide +kernel
theorem dX6_play_32 : decode cX6_play 32 = .ok (.athrow, 1) := by decide +kernel
theorem dX6_play_33 : decode cX6_play 33 = .ok (.aload_n 0, 1) := by decide +kernel
theorem dX6_play_34 : decode cX6_play 34 = .ok (.invokevirtual 64, 3) := by decide +kernel
theorem dX6_play_37 : decode cX6_play 37 = .ok (.aload_n 0, 1) := by decide +kernel
theorem dX6_play_38 : decode cX6_play 38 = .ok (.getfield 10, 3) := by decide +kernel
theorem dX6_play_41 : decode cX6_play 41 = .ok (.iload_n 1, 1) := by decide +kernel
theorem dX6_play_42 : decode cX6_play 42 = .ok (.invokevirtual 208, 3) := by decide +kernel
theorem dX6_play_45 : decode cX6_play 45 = .ok (.ireturn, 1) := by decide +kernel
theorem dX6_pass_0 : decode cX6_pass 0 = .ok (.aload_n 0, 1) := by decide +kernel
theorem dX6_pass_1 : decode cX6_pass 1 = .ok (.getfield 10, 3) := by decide +kernel
theorem dX6_pass_4 : decode cX6_pass 4 = .ok (.invokevirtual 211, 3) := by decide +kernel
theorem dX6_pass_7 : decode cX6_pass 7 = .ok (.ifCond .eq 13, 3) := by decide +kernel
theorem dX6_pass_10 : decode cX6_pass 10 = .ok (.new 44, 3) := by decide +kernel
theorem dX6_pass_13 : decode cX6_pass 13 = .ok (.dup, 1) := by decide +kernel
theorem dX6_pass_14 : decode cX6_pass 14 = .ok (.ldc 215, 2) := by decide +kernel
theorem dX6_pass_16 : decode cX6_pass 16 = .ok (.invokespecial 48, 3) := by decide +kernel
theorem dX6_pass_19 : decode cX6_pass 19 = .ok (.athrow, 1) := by decide +kernel
theorem dX6_pass_20 : decode cX6_pass 20 = .ok (.aload_n 0, 1) := by decide +kernel
theorem dX6_pass_21 : decode cX6_pass 21 = .ok (.invokevirtual 64, 3) := by decide +kernel
theorem dX6_pass_24 : decode cX6_pass 24 = .ok (.aload_n 0, 1) := by decide +kernel
theorem dX6_pass_25 : decode cX6_pass 25 = .ok (.getfield 10, 3) := by decide +kernel
theorem dX6_pass_28 : decode cX6_pass 28 = .ok (.invokevirtual 217, 3) := by decide +kernel
theorem dX6_pass_31 : decode cX6_pass 31 = .ok (.ireturn, 1) := by decide +kernel
theorem dX6_move_0 : decode cX6_move 0 = .ok (.aload_n 0, 1) := by decide +kernel
theorem dX6_move_1 : decode cX6_move 1 = .ok (.iload_n 1, 1) := by decide +kernel
theorem dX6_move_2 : decode cX6_move 2 = .ok (.invokevirtual 149, 3) := by decide +kernel
theorem dX6_move_5 : decode cX6_move 5 = .ok (.iload_n 2, 1) := by decide +kernel
theorem dX6_move_6 : decode cX6_move 6 = .ok (.invokestatic 186, 3) := by decide +kernel
theorem dX6_move_9 : decode cX6_move 9 = .ok (.iload_n 3, 1) := by decide +kernel
theorem dX6_move_10 : decode cX6_move 10 = .ok (.iconst 0, 1) := by decide +kernel
theorem dX6_move_11 : decode cX6_move 11 = .ok (.iconst 2, 1) := by decide +kernel
theorem dX6_move_12 : decode cX6_move 12 = .ok (.invokestatic 152, 3) := by decide +kernel
theorem dX6_move_15 : decode cX6_move 15 = .ok (.aload_n 0, 1) := by decide +kernel
theorem dX6_move_16 : decode cX6_move 16 = .ok (.getfield 10, 3) := by decide +kernel
theorem dX6_move_19 : decode cX6_move 19 = .ok (.getfield 94, 3) := by decide +kernel
theorem dX6_move_22 : decode cX6_move 22 = .ok (.astore 4, 2) := by decide +kernel
theorem dX6_move_24 : decode cX6_move 24 = .ok (.aload 4, 2) := by decide +kernel
theorem dX6_move_26 : decode cX6_move 26 = .ok (.iload_n 1, 1) := by decide +kernel
theorem dX6_move_27 : decode cX6_move 27 = .ok (.invokevirtual 160, 3) := by decide +kernel
theorem dX6_move_30 : decode cX6_move 30 = .ok (.ifCond .eq 13, 3) := by decide +kernel
theorem dX6_move_33 : decode cX6_move 33 = .ok (.new 44, 3) := by decide +kernel
theorem dX6_move_36 : decode cX6_move 36 = .ok (.dup, 1) := by decide +kernel
theorem dX6_move_37 : decode cX6_move 37 = .ok (.ldc 220, 2) := by decide +kernel
theorem dX6_move_39 : decode cX6_move 39 = .ok (.invokespecial 48, 3) := by decide +kernel
theorem dX6_move_42 : decode cX6_move 42 = .ok (.athrow, 1) := by decide +kernel
theorem dX6_move_43 : decode cX6_move 43 = .ok (.iload_n 3, 1) := by decide +kernel
theorem dX6_move_44 : decode cX6_move 44 = .ok (.lookupswitch 50 #[(0, 28), (1, 39)], 28) := by decide +kernel
theorem dX6_move_72 : decode cX6_move 72 = .ok (.aload 4, 2) := by decide +kernel
theorem dX6_move_74 : decode cX6_move 74 = .ok (.iload_n 1, 1) := by decide +kernel
theorem dX6_move_75 : decode cX6_move 75 = .ok (.iload_n 2, 1) := by decide +kernel
theorem dX6_move_76 : decode cX6_move 76 = .ok (.invokevirtual 222, 3) := by decide +kernel
theorem dX6_move_79 : decode cX6_move 79 = .ok (.invokestatic 117, 3) := by decide +kernel
theorem dX6_move_82 : decode cX6_move 82 = .ok (.ireturn, 1) := by decide +kernel
theorem dX6_move_83 : decode cX6_move 83 = .ok (.aload 4, 2) := by decide +kernel
theorem dX6_move_85 : decode cX6_move 85 = .ok (.iload_n 1, 1) := by decide +kernel
theorem dX6_move_86 : decode cX6_move 86 = .ok (.iload_n 2, 1) := by decide +kernel
theorem dX6_move_87 : decode cX6_move 87 = .ok (.invokevirtual 226, 3) := by decide +kernel
theorem dX6_move_90 : decode cX6_move 90 = .ok (.invokestatic 117, 3) := by decide +kernel
theorem dX6_move_93 : decode cX6_move 93 = .ok (.ireturn, 1) := by decide +kernel
theorem dX6_move_94 : decode cX6_move 94 = .ok (.aload 4, 2) := by decide +kernel
theorem dX6_move_96 : decode cX6_move 96 = .ok (.iload_n 1, 1) := by decide +kernel
theorem dX6_move_97 : decode cX6_move 97 = .ok (.iload_n 2, 1) := by decide +kernel
theorem dX6_move_98 : decode cX6_move 98 = .ok (.invokevirtual 229, 3) := by decide +kernel
theorem dX6_move_101 : decode cX6_move 101 = .ok (.invokestatic 117, 3) := by decide +kernel
theorem dX6_move_104 : decode cX6_move 104 = .ok (.ireturn, 1) := by decide +kernel
theorem dX6_moves_0 : decode cX6_moves 0 = .ok (.iload_n 1, 1) := by decide +kernel
theorem dX6_moves_1 : decode cX6_moves 1 = .ok (.invokestatic 186, 3) := by decide +kernel
theorem dX6_moves_4 : decode cX6_moves 4 = .ok (.iconst 0, 1) := by decide +kernel
theorem dX6_moves_5 : decode cX6_moves 5 = .ok (.istore_n 2, 1) := by decide +kernel
theorem dX6_moves_6 : decode cX6_moves 6 = .ok (.iconst 0, 1) := by decide +kernel
theorem dX6_moves_7 : decode cX6_moves 7 = .ok (.istore_n 3, 1) := by decide +kernel
theorem dX6_moves_8 : decode cX6_moves 8 = .ok (.iload_n 3, 1) := by decide +kernel
theorem dX6_moves_9 : decode cX6_moves 9 = .ok (.aload_n 0, 1) := by decide +kernel
theorem dX6_moves_10 : decode cX6_moves 10 = .ok (.getfield 10, 3) := by decide +kernel
theorem dX6_moves_13 : decode cX6_moves 13 = .ok (.getfield 94, 3) := by decide +kernel
theorem dX6_moves_16 : decode cX6_moves 16 = .ok (.getfield 107, 3) := by decide +kernel
theorem dX6_moves_19 : decode cX6_moves 19 = .ok (.getfield 232, 3) := by decide +kernel
theorem dX6_moves_22 : decode cX6_moves 22 = .ok (.if_icmp .ge 24, 3) := by decide +kernel
theorem dX6_moves_25 : decode cX6_moves 25 = .ok (.aload_n 0, 1) := by decide +kernel
theorem dX6_moves_26 : decode cX6_moves 26 = .ok (.getfield 10, 3) := by decide +kernel
theorem dX6_moves_29 : decode cX6_moves 29 = .ok (.iload_n 3, 1) := by decide +kernel
theorem dX6_moves_30 : decode cX6_moves 30 = .ok (.iload_n 1, 1) := by decide +kernel
theorem dX6_moves_31 : decode cX6_moves 31 = .ok (.invokevirtual 203, 3) := by decide +kernel
theorem dX6_moves_34 : decode cX6_moves 34 = .ok (.ifCond .ne 6, 3) := by decide +kernel
theorem dX6_moves_37 : decode cX6_moves 37 = .ok (.iinc 2 1, 3) := by decide +kernel
theorem dX6_moves_40 : decode cX6_moves 40 = .ok (.iinc 3 1, 3) := by decide +kernel
theorem dX6_moves_43 : decode cX6_moves 43 = .ok (.goto (-35), 3) := by decide +kernel
theorem dX6_moves_46 : decode cX6_moves 46 = .ok (.iload_n 2, 1) := by decide +kernel
theorem dX6_moves_47 : decode cX6_moves 47 = .ok (.ireturn, 1) := by decide +kernel
theorem dX6_greediest_0 : decode cX6_greediest 0 = .ok (.iload_n 1, 1) := by decide +kernel
theorem dX6_greediest_1 : decode cX6_greediest 1 = .ok (.invokestatic 186, 3) := by decide +kernel
theorem dX6_greediest_4 : decode cX6_greediest 4 = .ok (.iconst (-1), 1) := by decide +kernel
theorem dX6_greediest_5 : decode cX6_greediest 5 = .ok (.istore_n 2, 1) := by decide +kernel
theorem dX6_greediest_6 : decode cX6_greediest 6 = .ok (.iconst (-1), 1) := by decide +kernel
theorem dX6_greediest_7 : decode cX6_greediest 7 = .ok (.istore_n 3, 1) := by decide +kernel
theorem dX6_greediest_8 : decode cX6_greediest 8 = .ok (.iconst 0, 1) := by decide +kernel
theorem dX6_greediest_9 : decode cX6_greediest 9 = .ok (.istore 4, 2) := by decide +kernel
theorem dX6_greediest_11 : decode cX6_greediest 11 = .ok (.iload 4, 2) := by decide +kernel
theorem dX6_greediest_13 : decode cX6_greediest 13 = .ok (.aload_n 0, 1) := by decide +kernel
theorem dX6_greediest_14 : decode cX6_greediest 14 = .ok (.getfield 10, 3) := by decide +kernel
theorem dX6_greediest_17 : decode cX6_greediest 17 = .ok (.getfield 94, 3) := by decide +kernel
theorem dX6_greediest_20 : decode cX6_greediest 20 = .ok (.getfield 107, 3) := by decide +kernel
theorem dX6_greediest_23 : decode cX6_greediest 23 = .ok (.getfield 232, 3) := by decide +kernel
theorem dX6_greediest_26 : decode cX6_greediest 26 = .ok (.if_icmp .ge 52, 3) := by decide +kernel
theorem dX6_greediest_29 : decode cX6_greediest 29 = .ok (.aload_n 0, 1) := by decide +kernel
theorem dX6_greediest_30 : decode cX6_greediest 30 = .ok (.getfield 10, 3) := by decide +kernel
theorem dX6_greediest_33 : decode cX6_greediest 33 = .ok (.iload 4, 2) := by decide +kernel
theorem dX6_greediest_35 : decode cX6_greediest 35 = .ok (.iload_n 1, 1) := by decide +kernel
theorem dX6_greediest_36 : decode cX6_greediest 36 = .ok (.invokevirtual 203, 3) := by decide +kernel
theorem dX6_greediest_39 : decode cX6_greediest 39 = .ok (.ifCond .ne 33, 3) := by decide +kernel
theorem dX6_greediest_42 : decode cX6_greediest 42 = .ok (.aload_n 0, 1) := by decide +kernel
theorem dX6_greediest_43 : decode cX6_greediest 43 = .ok (.getfield 10, 3) := by decide +kernel
theorem dX6_greediest_46 : decode cX6_greediest 46 = .ok (.getfield 94, 3) := by decide +kernel
theorem dX6_greediest_49 : decode cX6_greediest 49 = .ok (.iload 4, 2) := by decide +kernel
theorem dX6_greediest_51 : decode cX6_greediest 51 = .ok (.iload_n 1, 1) := by decide +kernel
theorem dX6_greediest_52 : decode cX6_greediest 52 = .ok (.invokevirtual 222, 3) := by decide +kernel
theorem dX6_greediest_55 : decode cX6_greediest 55 = .ok (.invokestatic 117, 3) := by decide +kernel
theorem dX6_greediest_58 : decode cX6_greediest 58 = .ok (.istore 5, 2) := by decide +kernel
theorem dX6_greediest_60 : decode cX6_greediest 60 = .ok (.iload 5, 2) := by decide +kernel
theorem dX6_greediest_62 : decode cX6_greediest 62 = .ok (.iload_n 3, 1) := by decide +kernel
theorem dX6_greediest_63 : decode cX6_greediest 63 = .ok (.if_icmp .le 9, 3) := by decide +kernel
theorem dX6_greediest_66 : decode cX6_greediest 66 = .ok (.iload 4, 2) := by decide +kernel
theorem dX6_greediest_68 : decode cX6_greediest 68 = .ok (.istore_n 2, 1) := by decide +kernel
theorem dX6_greediest_69 : decode cX6_greediest 69 = .ok (.iload 5, 2) := by decide +kernel
theorem dX6_greediest_71 : decode cX6_greediest 71 = .ok (.istore_n 3, 1) := by decide +kernel
theorem dX6_greediest_72 : decode cX6_greediest 72 = .ok (.iinc 4 1, 3) := by decide +kernel
theorem dX6_greediest_75 : decode cX6_greediest 75 = .ok (.goto (-64), 3) := by decide +kernel
theorem dX6_greediest_78 : decode cX6_greediest 78 = .ok (.iload_n 2, 1) := by decide +kernel
theorem dX6_greediest_79 : decode cX6_greediest 79 = .ok (.iconst (-1), 1) := by decide +kernel
theorem dX6_greediest_80 : decode cX6_greediest 80 = .ok (.if_icmp .ne 13, 3) := by decide +kernel
theorem dX6_greediest_83 : decode cX6_greediest 83 = .ok (.new 195, 3) := by decide +kernel
theorem dX6_greediest_86 : decode cX6_greediest 86 = .ok (.dup, 1) := by decide +kernel
theorem dX6_greediest_87 : decode cX6_greediest 87 = .ok (.ldc 235, 2) := by decide +kernel
theorem dX6_greediest_89 : decode cX6_greediest 89 = .ok (.invokespecial 199, 3) := by decide +kernel
theorem dX6_greediest_92 : decode cX6_greediest 92 = .ok (.athrow, 1) := by decide +kernel
theorem dX6_greediest_93 : decode cX6_greediest 93 = .ok (.iload_n 2, 1) := by decide +kernel
theorem dX6_greediest_94 : decode cX6_greediest 94 = .ok (.ireturn, 1) := by decide +kernel
theorem dX6_setStone_0 : decode cX6_setStone 0 = .ok (.aload_n 0, 1) := by decide +kernel
theorem dX6_setStone_1 : decode cX6_setStone 1 = .ok (.iload_n 1, 1) := by decide +kernel
theorem dX6_setStone_2 : decode cX6_setStone 2 = .ok (.invokevirtual 149, 3) := by decide +kernel
theorem dX6_setStone_5 : decode cX6_setStone 5 = .ok (.iload_n 2, 1) := by decide +kernel
theorem dX6_setStone_6 : decode cX6_setStone 6 = .ok (.iconst 0, 1) := by decide +kernel
theorem dX6_setStone_7 : decode cX6_setStone 7 = .ok (.iconst 2, 1) := by decide +kernel
theorem dX6_setStone_8 : decode cX6_setStone 8 = .ok (.invokestatic 152, 3) := by decide +kernel
theorem dX6_setStone_11 : decode cX6_setStone 11 = .ok (.aload_n 0, 1) := by decide +kernel
theorem dX6_setStone_12 : decode cX6_setStone 12 = .ok (.getfield 10, 3) := by decide +kernel
theorem dX6_setStone_15 : decode cX6_setStone 15 = .ok (.getfield 94, 3) := by decide +kernel
theorem dX6_setStone_18 : decode cX6_setStone 18 = .ok (.astore_n 3, 1) := by decide +kernel
theorem dX6_setStone_19 : decode cX6_setStone 19 = .ok (.lconst 1, 1) := by decide +kernel
theorem dX6_setStone_20 : decode cX6_setStone 20 = .ok (.iload_n 1, 1) := by decide +kernel
theorem dX6_setStone_21 : decode cX6_setStone 21 = .ok (.lshl, 1) := by decide +kernel
theorem dX6_setStone_22 : decode cX6_setStone 22 = .ok (.ldc2_w 237, 3) := by decide +kernel
theorem dX6_setStone_25 : decode cX6_setStone 25 = .ok (.lxor, 1) := by decide +kernel
theorem dX6_setStone_26 : decode cX6_setStone 26 = .ok (.lstore 4, 2) := by decide +kernel
theorem dX6_setStone_28 : decode cX6_setStone 28 = .ok (.aload_n 3, 1) := by decide +kernel
theorem dX6_setStone_29 : decode cX6_setStone 29 = .ok (.getfield 116, 3) := by decide +kernel
theorem dX6_setStone_32 : decode cX6_setStone 32 = .ok (.lload 4, 2) := by decide +kernel
theorem dX6_setStone_34 : decode cX6_setStone 34 = .ok (.land, 1) := by decide +kernel
theorem dX6_setStone_35 : decode cX6_setStone 35 = .ok (.iload_n 2, 1) := by decide +kernel
theorem dX6_setStone_36 : decode cX6_setStone 36 = .ok (.iconst 1, 1) := by decide +kernel
theorem dX6_setStone_37 : decode cX6_setStone 37 = .ok (.if_icmp .ne 7, 3) := by decide +kernel
theorem dX6_setStone_40 : decode cX6_setStone 40 = .ok (.iconst 1, 1) := by decide +kernel
theorem dX6_setStone_41 : decode cX6_setStone 41 = .ok (.goto 4, 3) := by decide +kernel
theorem dX6_setStone_44 : decode cX6_setStone 44 = .ok (.iconst 0, 1) := by decide +kernel
theorem dX6_setStone_45 : decode cX6_setStone 45 = .ok (.iload_n 1, 1) := by decide +kernel
theorem dX6_setStone_46 : decode cX6_setStone 46 = .ok (.invokestatic 239, 3) := by decide +kernel
theorem dX6_setStone_49 : decode cX6_setStone 49 = .ok (.lor, 1) := by decide +kernel
theorem dX6_setStone_50 : decode cX6_setStone 50 = .ok (.lstore 6, 2) := by decide +kernel
theorem dX6_setStone_52 : decode cX6_setStone 52 = .ok (.aload_n 3, 1) := by decide +kernel
theorem dX6_setStone_53 : decode cX6_setStone 53 = .ok (.getfield 123, 3) := by decide +kernel
theorem dX6_setStone_56 : decode cX6_setStone 56 = .ok (.lload 4, 2) := by decide +kernel
theorem dX6_setStone_58 : decode cX6_setStone 58 = .ok (.land, 1) := by decide +kernel
theorem dX6_setStone_59 : decode cX6_setStone 59 = .ok (.iload_n 2, 1) := by decide +kernel
theorem dX6_setStone_60 : decode cX6_setStone 60 = .ok (.iconst 2, 1) := by decide +kernel
theorem dX6_setStone_61 : decode cX6_setStone 61 = .ok (.if_icmp .ne 7, 3) := by decide +kernel
theorem dX6_setStone_64 : decode cX6_setStone 64 = .ok (.iconst 1, 1) := by decide +kernel
theorem dX6_setStone_65 : decode cX6_setStone 65 = .ok (.goto 4, 3) := by decide +kernel
theorem dX6_setStone_68 : decode cX6_setStone 68 = .ok (.iconst 0, 1) := by decide +kernel
theorem dX6_setStone_69 : decode cX6_setStone 69 = .ok (.iload_n 1, 1) := by decide +kernel
theorem dX6_setStone_70 : decode cX6_setStone 70 = .ok (.invokestatic 239, 3) := by decide +kernel
theorem dX6_setStone_73 : decode cX6_setStone 73 = .ok (.lor, 1) := by decide +kernel
theorem dX6_setStone_74 : decode cX6_setStone 74 = .ok (.lstore 8, 2) := by decide +kernel
theorem dX6_setStone_76 : decode cX6_setStone 76 = .ok (.aload_n 3, 1) := by decide +kernel
theorem dX6_setStone_77 : decode cX6_setStone 77 = .ok (.getfield 107, 3) := by decide +kernel
theorem dX6_setStone_80 : decode cX6_setStone 80 = .ok (.lload 6, 2) := by decide +kernel
theorem dX6_setStone_82 : decode cX6_setStone 82 = .ok (.lload 8, 2) := by decide +kernel
theorem dX6_setStone_84 : decode cX6_setStone 84 = .ok (.invokevirtual 243, 3) := by decide +kernel
theorem dX6_setStone_87 : decode cX6_setStone 87 = .ok (.ifCond .eq 13, 3) := by decide +kernel
theorem dX6_setStone_90 : decode cX6_setStone 90 = .ok (.new 44, 3) := by decide +kernel
theorem dX6_setStone_93 : decode cX6_setStone 93 = .ok (.dup, 1) := by decide +kernel
theorem dX6_setStone_94 : decode cX6_setStone 94 = .ok (.ldc 247, 2) := by decide +kernel
theorem dX6_setStone_96 : decode cX6_setStone 96 = .ok (.invokespecial 48, 3) := by decide +kernel
theorem dX6_setStone_99 : decode cX6_setStone 99 = .ok (.athrow, 1) := by decide +kernel
theorem dX6_setStone_100 : decode cX6_setStone 100 = .ok (.aload_n 3, 1) := by decide +kernel
theorem dX6_setStone_101 : decode cX6_setStone 101 = .ok (.iload_n 1, 1) := by decide +kernel
theorem dX6_setStone_102 : decode cX6_setStone 102 = .ok (.invokevirtual 160, 3) := by decide +kernel
theorem dX6_setStone_105 : decode cX6_setStone 105 = .ok (.istore 10, 2) := by decide +kernel
theorem dX6_setStone_107 : decode cX6_setStone 107 = .ok (.aload_n 0, 1) := by decide +kernel
theorem dX6_setStone_108 : decode cX6_setStone 108 = .ok (.invokevirtual 64, 3) := by decide +kernel
theorem dX6_setStone_111 : decode cX6_setStone 111 = .ok (.aload_n 0, 1) := by decide +kernel
theorem dX6_setStone_112 : decode cX6_setStone 112 = .ok (.getfield 10, 3) := by decide +kernel
theorem dX6_setStone_115 : decode cX6_setStone 115 = .ok (.lload 6, 2) := by decide +kernel
theorem dX6_setStone_117 : decode cX6_setStone 117 = .ok (.lload 8, 2) := by decide +kernel
theorem dX6_setStone_119 : decode cX6_setStone 119 = .ok (.invokevirtual 249, 3) := by decide +kernel
theorem dX6_setStone_122 : decode cX6_setStone 122 = .ok (.iload 10, 2) := by decide +kernel
theorem dX6_setStone_124 : decode cX6_setStone 124 = .ok (.ireturn, 1) := by decide +kernel
theorem dX6_setTurn_0 : decode cX6_setTurn 0 = .ok (.iload_n 1, 1) := by decide +kernel
theorem dX6_setTurn_1 : decode cX6_setTurn 1 = .ok (.invokestatic 186, 3) := by decide +kernel
theorem dX6_setTurn_4 : decode cX6_setTurn 4 = .ok (.aload_n 0, 1) := by decide +kernel
theorem dX6_setTurn_5 : decode cX6_setTurn 5 = .ok (.getfield 10, 3) := by decide +kernel
theorem dX6_setTurn_8 : decode cX6_setTurn 8 = .ok (.getfield 85, 3) := by decide +kernel
theorem dX6_setTurn_11 : decode cX6_setTurn 11 = .ok (.istore_n 2, 1) := by decide +kernel
theorem dX6_setTurn_12 : decode cX6_setTurn 12 = .ok (.aload_n 0, 1) := by decide +kernel
theorem dX6_setTurn_13 : decode cX6_setTurn 13 = .ok (.invokevirtual 64, 3) := by decide +kernel
theorem dX6_setTurn_16 : decode cX6_setTurn 16 = .ok (.aload_n 0, 1) := by decide +kernel
theorem dX6_setTurn_17 : decode cX6_setTurn 17 = .ok (.getfield 10, 3) := by decide +kernel
theorem dX6_setTurn_20 : decode cX6_setTurn 20 = .ok (.iload_n 1, 1) := by decide +kernel
theorem dX6_setTurn_21 : decode cX6_setTurn 21 = .ok (.putfield 85, 3) := by decide +kernel
theorem dX6_setTurn_24 : decode cX6_setTurn 24 = .ok (.aload_n 0, 1) := by decide +kernel
theorem dX6_setTurn_25 : decode cX6_setTurn 25 = .ok (.getfield 10, 3) := by decide +kernel
theorem dX6_setTurn_28 : decode cX6_setTurn 28 = .ok (.iconst (-1), 1) := by decide +kernel
theorem dX6_setTurn_29 : decode cX6_setTurn 29 = .ok (.putfield 136, 3) := by decide +kernel
theorem dX6_setTurn_32 : decode cX6_setTurn 32 = .ok (.aload_n 0, 1) := by decide +kernel
theorem dX6_setTurn_33 : decode cX6_setTurn 33 = .ok (.getfield 10, 3) := by decide +kernel
theorem dX6_setTurn_36 : decode cX6_setTurn 36 = .ok (.iconst 0, 1) := by decide +kernel
theorem dX6_setTurn_37 : decode cX6_setTurn 37 = .ok (.putfield 127, 3) := by decide +kernel
theorem dX6_setTurn_40 : decode cX6_setTurn 40 = .ok (.iload_n 2, 1) := by decide +kernel
theorem dX6_setTurn_41 : decode cX6_setTurn 41 = .ok (.ireturn, 1) := by decide +kernel
theorem dX6_setRule_0 : decode cX6_setRule 0 = .ok (.iload_n 1, 1) := by decide +kernel
theorem dX6_setRule_1 : decode cX6_setRule 1 = .ok (.iconst 0, 1) := by decide +kernel
theorem dX6_setRule_2 : decode cX6_setRule 2 = .ok (.iconst 1, 1) := by decide +kernel
theorem dX6_setRule_3 : decode cX6_setRule 3 = .ok (.invokestatic 152, 3) := by decide +kernel
theorem dX6_setRule_6 : decode cX6_setRule 6 = .ok (.aload_n 0, 1) := by decide +kernel
theorem dX6_setRule_7 : decode cX6_setRule 7 = .ok (.getfield 10, 3) := by decide +kernel
theorem dX6_setRule_10 : decode cX6_setRule 10 = .ok (.getfield 89, 3) := by decide +kernel
theorem dX6_setRule_13 : decode cX6_setRule 13 = .ok (.istore_n 2, 1) := by decide +kernel
theorem dX6_setRule_14 : decode cX6_setRule 14 = .ok (.aload_n 0, 1) := by decide +kernel
theorem dX6_setRule_15 : decode cX6_setRule 15 = .ok (.invokevirtual 64, 3) := by decide +kernel
theorem dX6_setRule_18 : decode cX6_setRule 18 = .ok (.aload_n 0, 1) := by decide +kernel
theorem dX6_setRule_19 : decode cX6_setRule 19 = .ok (.getfield 10, 3) := by decide +kernel
theorem dX6_setRule_22 : decode cX6_setRule 22 = .ok (.iload_n 1, 1) := by decide +kernel
theorem dX6_setRule_23 : decode cX6_setRule 23 = .ok (.putfield 89, 3) := by decide +kernel
theorem dX6_setRule_26 : decode cX6_setRule 26 = .ok (.aload_n 0, 1) := by decide +kernel
theorem dX6_setRule_27 : decode cX6_setRule 27 = .ok (.getfield 10, 3) := by decide +kernel
theorem dX6_setRule_30 : decode cX6_setRule 30 = .ok (.getfield 253, 3) := by decide +kernel
theorem dX6_setRule_33 : decode cX6_setRule 33 = .ok (.aload_n 0, 1) := by decide +kernel
theorem dX6_setRule_34 : decode cX6_setRule 34 = .ok (.getfield 10, 3) := by decide +kernel
theorem dX6_setRule_37 : decode cX6_setRule 37 = .ok (.getfield 94, 3) := by decide +kernel
theorem dX6_setRule_40 : decode cX6_setRule 40 = .ok (.getfield 116, 3) := by decide +kernel
theorem dX6_setRule_43 : decode cX6_setRule 43 = .ok (.aload_n 0, 1) := by decide +kernel
theorem dX6_setRule_44 : decode cX6_setRule 44 = .ok (.getfield 10, 3) := by decide +kernel
theorem dX6_setRule_47 : decode cX6_setRule 47 = .ok (.getfield 94, 3) := by decide +kernel
theorem dX6_setRule_50 : decode cX6_setRule 50 = .ok (.getfield 123, 3) := by decide +kernel
theorem dX6_setRule_53 : decode cX6_setRule 53 = .ok (.invokevirtual 257, 3) := by decide +kernel
theorem dX6_setRule_56 : decode cX6_setRule 56 = .ok (.iload_n 2, 1) := by decide +kernel
theorem dX6_setRule_57 : decode cX6_setRule 57 = .ok (.ireturn, 1) := by decide +kernel
theorem dX6_setBonus_0 : decode cX6_setBonus 0 = .ok (.iload_n 1, 1) := by decide +kernel
theorem dX6_setBonus_1 : decode cX6_setBonus 1 = .ok (.bipush (-99), 2) := by decide +kernel
theorem dX6_setBonus_3 : decode cX6_setBonus 3 = .ok (.bipush 99, 2) := by decide +kernel
theorem dX6_setBonus_5 : decode cX6_setBonus 5 = .ok (.invokestatic 152, 3) := by decide +kernel
theorem dX6_setBonus_8 : decode cX6_setBonus 8 = .ok (.aload_n 0, 1) := by decide +kernel
theorem dX6_setBonus_9 : decode cX6_setBonus 9 = .ok (.getfield 10, 3) := by decide +kernel
theorem dX6_setBonus_12 : decode cX6_setBonus 12 = .ok (.getfield 93, 3) := by decide +kernel
theorem dX6_setBonus_15 : decode cX6_setBonus 15 = .ok (.istore_n 2, 1) := by decide +kernel
theorem dX6_setBonus_16 : decode cX6_setBonus 16 = .ok (.aload_n 0, 1) := by decide +kernel
theorem dX6_setBonus_17 : decode cX6_setBonus 17 = .ok (.invokevirtual 64, 3) := by decide +kernel
theorem dX6_setBonus_20 : decode cX6_setBonus 20 = .ok (.aload_n 0, 1) := by decide +kernel
theorem dX6_setBonus_21 : decode cX6_setBonus 21 = .ok (.getfield 10, 3) := by decide +kernel
theorem dX6_setBonus_24 : decode cX6_setBonus 24 = .ok (.iload_n 1, 1) := by decide +kernel
theorem dX6_setBonus_25 : decode cX6_setBonus 25 = .ok (.putfield 93, 3) := by decide +kernel
theorem dX6_setBonus_28 : decode cX6_setBonus 28 = .ok (.iload_n 2, 1) := by decide +kernel
theorem dX6_setBonus_29 : decode cX6_setBonus 29 = .ok (.ireturn, 1) := by decide +kernel
theorem dX6_pools_0 : decode cX6_pools 0 = .ok (.iload_n 1, 1) := by decide +kernel
theorem dX6_pools_1 : decode cX6_pools 1 = .ok (.iconst (-1), 1) := by decide +kernel
theorem dX6_pools_2 : decode cX6_pools 2 = .ok (.iconst 3, 1) := by decide +kernel
theorem dX6_pools_3 : decode cX6_pools 3 = .ok (.invokestatic 152, 3) := by decide +kernel
theorem dX6_pools_6 : decode cX6_pools 6 = .ok (.aload_n 0, 1) := by decide +kernel
theorem dX6_pools_7 : decode cX6_pools 7 = .ok (.getfield 10, 3) := by decide +kernel
theorem dX6_pools_10 : decode cX6_pools 10 = .ok (.getfield 94, 3) := by decide +kernel
theorem dX6_pools_13 : decode cX6_pools 13 = .ok (.astore_n 2, 1) := by decide +kernel
theorem dX6_pools_14 : decode cX6_pools 14 = .ok (.iload_n 1, 1) := by decide +kernel
theorem dX6_pools_15 : decode cX6_pools 15 = .ok (.iconst (-1), 1) := by decide +kernel
theorem dX6_pools_16 : decode cX6_pools 16 = .ok (.if_icmp .ne 10, 3) := by decide +kernel
theorem dX6_pools_19 : decode cX6_pools 19 = .ok (.aload_n 2, 1) := by decide +kernel
theorem dX6_pools_20 : decode cX6_pools 20 = .ok (.invokevirtual 262, 3) := by decide +kernel
theorem dX6_pools_23 : decode cX6_pools 23 = .ok (.goto 8, 3) := by decide +kernel
theorem dX6_pools_26 : decode cX6_pools 26 = .ok (.aload_n 2, 1) := by decide +kernel
theorem dX6_pools_27 : decode cX6_pools 27 = .ok (.iload_n 1, 1) := by decide +kernel
theorem dX6_pools_28 : decode cX6_pools 28 = .ok (.invokevirtual 266, 3) := by decide +kernel
theorem dX6_pools_31 : decode cX6_pools 31 = .ok (.lstore_n 3, 1) := by decide +kernel
theorem dX6_pools_32 : decode cX6_pools 32 = .ok (.aload_n 2, 1) := by decide +kernel
theorem dX6_pools_33 : decode cX6_pools 33 = .ok (.getfield 107, 3) := by decide +kernel
theorem dX6_pools_36 : decode cX6_pools 36 = .ok (.lload_n 3, 1) := by decide +kernel
theorem dX6_pools_37 : decode cX6_pools 37 = .ok (.aload_n 2, 1) := by decide +kernel
theorem dX6_pools_38 : decode cX6_pools 38 = .ok (.invokevirtual 262, 3) := by decide +kernel
theorem dX6_pools_41 : decode cX6_pools 41 = .ok (.invokevirtual 269, 3) := by decide +kernel
theorem dX6_pools_44 : decode cX6_pools 44 = .ok (.ireturn, 1) := by decide +kernel
theorem dX6_pool_0 : decode cX6_pool 0 = .ok (.aload_n 0, 1) := by decide +kernel
theorem dX6_pool_1 : decode cX6_pool 1 = .ok (.iload_n 1, 1) := by decide +kernel
theorem dX6_pool_2 : decode cX6_pool 2 = .ok (.invokevirtual 149, 3) := by decide +kernel
theorem dX6_pool_5 : decode cX6_pool 5 = .ok (.iload_n 2, 1) := by decide +kernel
theorem dX6_pool_6 : decode cX6_pool 6 = .ok (.iconst 0, 1) := by decide +kernel
theorem dX6_pool_7 : decode cX6_pool 7 = .ok (.iconst 4, 1) := by decide +kernel
theorem dX6_pool_8 : decode cX6_pool 8 = .ok (.invokestatic 152, 3) := by decide +kernel
theorem dX6_pool_11 : decode cX6_pool 11 = .ok (.aload_n 0, 1) := by decide +kernel
theorem dX6_pool_12 : decode cX6_pool 12 = .ok (.getfield 10, 3) := by decide +kernel
theorem dX6_pool_15 : decode cX6_pool 15 = .ok (.getfield 94, 3) := by decide +kernel
theorem dX6_pool_18 : decode cX6_pool 18 = .ok (.astore_n 3, 1) := by decide +kernel
theorem dX6_pool_19 : decode cX6_pool 19 = .ok (.aload_n 3, 1) := by decide +kernel
theorem dX6_pool_20 : decode cX6_pool 20 = .ok (.iload_n 1, 1) := by decide +kernel
theorem dX6_pool_21 : decode cX6_pool 21 = .ok (.invokevirtual 272, 3) := by decide +kernel
theorem dX6_pool_24 : decode cX6_pool 24 = .ok (.lstore 4, 2) := by decide +kernel
theorem dX6_pool_26 : decode cX6_pool 26 = .ok (.lload 4, 2) := by decide +kernel
theorem dX6_pool_28 : decode cX6_pool 28 = .ok (.lconst 0, 1) := by decide +kernel
theorem dX6_pool_29 : decode cX6_pool 29 = .ok (.lcmp, 1) := by decide +kernel
theorem dX6_pool_30 : decode cX6_pool 30 = .ok (.ifCond .ne 13, 3) := by decide +kernel
theorem dX6_pool_33 : decode cX6_pool 33 = .ok (.new 195, 3) := by decide +kernel
theorem dX6_pool_36 : decode cX6_pool 36 = .ok (.dup, 1) := by decide +kernel
theorem dX6_pool_37 : decode cX6_pool 37 = .ok (.ldc 220, 2) := by decide +kernel
theorem dX6_pool_39 : decode cX6_pool 39 = .ok (.invokespecial 199, 3) := by decide +kernel
theorem dX6_pool_42 : decode cX6_pool 42 = .ok (.athrow, 1) := by decide +kernel
theorem dX6_pool_43 : decode cX6_pool 43 = .ok (.iload_n 2, 1) := by decide +kernel
theorem dX6_pool_44 : decode cX6_pool 44 = .ok (.tableswitch 59 0 3 #[32, 38, 44, 51], 32) := by decide +kernel
theorem dX6_pool_76 : decode cX6_pool 76 = .ok (.lload 4, 2) := by decide +kernel
theorem dX6_pool_78 : decode cX6_pool 78 = .ok (.invokestatic 170, 3) := by decide +kernel
theorem dX6_pool_81 : decode cX6_pool 81 = .ok (.ireturn, 1) := by decide +kernel
theorem dX6_pool_82 : decode cX6_pool 82 = .ok (.lload 4, 2) := by decide +kernel
theorem dX6_pool_84 : decode cX6_pool 84 = .ok (.invokestatic 117, 3) := by decide +kernel
theorem dX6_pool_87 : decode cX6_pool 87 = .ok (.ireturn, 1) := by decide +kernel
theorem dX6_pool_88 : decode cX6_pool 88 = .ok (.aload_n 3, 1) := by decide +kernel
theorem dX6_pool_89 : decode cX6_pool 89 = .ok (.lload 4, 2) := by decide +kernel
theorem dX6_pool_91 : decode cX6_pool 91 = .ok (.invokevirtual 275, 3) := by decide +kernel
theorem dX6_pool_94 : decode cX6_pool 94 = .ok (.ireturn, 1) := by decide +kernel
theorem dX6_pool_95 : decode cX6_pool 95 = .ok (.aload_n 3, 1) := by decide +kernel
theorem dX6_pool_96 : decode cX6_pool 96 = .ok (.lload 4, 2) := by decide +kernel
theorem dX6_pool_98 : decode cX6_pool 98 = .ok (.iconst 1, 1) := by decide +kernel
theorem dX6_pool_99 : decode cX6_pool 99 = .ok (.invokevirtual 278, 3) := by decide +kernel
theorem dX6_pool_102 : decode cX6_pool 102 = .ok (.ireturn, 1) := by decide +kernel
theorem dX6_pool_103 : decode cX6_pool 103 = .ok (.aload_n 3, 1) := by decide +kernel
theorem dX6_pool_104 : decode cX6_pool 104 = .ok (.lload 4, 2) := by decide +kernel
theorem dX6_pool_106 : decode cX6_pool 106 = .ok (.iconst 2, 1) := by decide +kernel
theorem dX6_pool_107 : decode cX6_pool 107 = .ok (.invokevirtual 278, 3) := by decide +kernel
theorem dX6_pool_110 : decode cX6_pool 110 = .ok (.ireturn, 1) := by decide +kernel
theorem dX6_isSharedEye_0 : decode cX6_isSharedEye 0 = .ok (.aload_n 0, 1) := by decide +kernel
theorem dX6_isSharedEye_1 : decode cX6_isSharedEye 1 = .ok (.iload_n 1, 1) := by decide +kernel
theorem dX6_isSharedEye_2 : decode cX6_isSharedEye 2 = .ok (.invokevirtual 149, 3) := by decide +kernel
theorem dX6_isSharedEye_5 : decode cX6_isSharedEye 5 = .ok (.aload_n 0, 1) := by decide +kernel
theorem dX6_isSharedEye_6 : decode cX6_isSharedEye 6 = .ok (.getfield 10, 3) := by decide +kernel
theorem dX6_isSharedEye_9 : decode cX6_isSharedEye 9 = .ok (.getfield 94, 3) := by decide +kernel
theorem dX6_isSharedEye_12 : decode cX6_isSharedEye 12 = .ok (.aload_n 0, 1) := by decide +kernel
theorem dX6_isSharedEye_13 : decode cX6_isSharedEye 13 = .ok (.getfield 10, 3) := by decide +kernel
theorem dX6_isSharedEye_16 : decode cX6_isSharedEye 16 = .ok (.getfield 94, 3) := by decide +kernel
theorem dX6_isSharedEye_19 : decode cX6_isSharedEye 19 = .ok (.iload_n 1, 1) := by decide +kernel
theorem dX6_isSharedEye_20 : decode cX6_isSharedEye 20 = .ok (.invokevirtual 272, 3) := by decide +kernel
theorem dX6_isSharedEye_23 : decode cX6_isSharedEye 23 = .ok (.invokevirtual 282, 3) := by decide +kernel
theorem dX6_isSharedEye_26 : decode cX6_isSharedEye 26 = .ok (.ireturn, 1) := by decide +kernel
theorem dX6_isStandoff_0 : decode cX6_isStandoff 0 = .ok (.aload_n 0, 1) := by decide +kernel
theorem dX6_isStandoff_1 : decode cX6_isStandoff 1 = .ok (.iload_n 1, 1) := by decide +kernel
theorem dX6_isStandoff_2 : decode cX6_isStandoff 2 = .ok (.invokevirtual 149, 3) := by decide +kernel
theorem dX6_isStandoff_5 : decode cX6_isStandoff 5 = .ok (.aload_n 0, 1) := by decide +kernel
theorem dX6_isStandoff_6 : decode cX6_isStandoff 6 = .ok (.getfield 10, 3) := by decide +kernel
theorem dX6_isStandoff_9 : decode cX6_isStandoff 9 = .ok (.getfield 94, 3) := by decide +kernel
theorem dX6_isStandoff_12 : decode cX6_isStandoff 12 = .ok (.aload_n 0, 1) := by decide +kernel
theorem dX6_isStandoff_13 : decode cX6_isStandoff 13 = .ok (.getfield 10, 3) := by decide +kernel
theorem dX6_isStandoff_16 : decode cX6_isStandoff 16 = .ok (.getfield 94, 3) := by decide +kernel
theorem dX6_isStandoff_19 : decode cX6_isStandoff 19 = .ok (.iload_n 1, 1) := by decide +kernel
theorem dX6_isStandoff_20 : decode cX6_isStandoff 20 = .ok (.invokevirtual 272, 3) := by decide +kernel
theorem dX6_isStandoff_23 : decode cX6_isStandoff 23 = .ok (.invokevirtual 286, 3) := by decide +kernel
theorem dX6_isStandoff_26 : decode cX6_isStandoff 26 = .ok (.ireturn, 1) := by decide +kernel
theorem dX6_isAlive_0 : decode cX6_isAlive 0 = .ok (.aload_n 0, 1) := by decide +kernel
theorem dX6_isAlive_1 : decode cX6_isAlive 1 = .ok (.iload_n 1, 1) := by decide +kernel
theorem dX6_isAlive_2 : decode cX6_isAlive 2 = .ok (.invokevirtual 149, 3) := by decide +kernel
theorem dX6_isAlive_5 : decode cX6_isAlive 5 = .ok (.aload_n 0, 1) := by decide +kernel
theorem dX6_isAlive_6 : decode cX6_isAlive 6 = .ok (.getfield 10, 3) := by decide +kernel
theorem dX6_isAlive_9 : decode cX6_isAlive 9 = .ok (.getfield 94, 3) := by decide +kernel
theorem dX6_isAlive_12 : decode cX6_isAlive 12 = .ok (.iload_n 1, 1) := by decide +kernel
theorem dX6_isAlive_13 : decode cX6_isAlive 13 = .ok (.invokevirtual 160, 3) := by decide +kernel
theorem dX6_isAlive_16 : decode cX6_isAlive 16 = .ok (.istore_n 2, 1) := by decide +kernel
theorem dX6_isAlive_17 : decode cX6_isAlive 17 = .ok (.iload_n 2, 1) := by decide +kernel
theorem dX6_isAlive_18 : decode cX6_isAlive 18 = .ok (.ifCond .eq 27, 3) := by decide +kernel
theorem dX6_isAlive_21 : decode cX6_isAlive 21 = .ok (.aload_n 0, 1) := by decide +kernel
theorem dX6_isAlive_22 : decode cX6_isAlive 22 = .ok (.getfield 10, 3) := by decide +kernel
theorem dX6_isAlive_25 : decode cX6_isAlive 25 = .ok (.getfield 94, 3) := by decide +kernel
theorem dX6_isAlive_28 : decode cX6_isAlive 28 = .ok (.iload_n 2, 1) := by decide +kernel
theorem dX6_isAlive_29 : decode cX6_isAlive 29 = .ok (.invokevirtual 289, 3) := by decide +kernel
theorem dX6_isAlive_32 : decode cX6_isAlive 32 = .ok (.lconst 1, 1) := by decide +kernel
theorem dX6_isAlive_33 : decode cX6_isAlive 33 = .ok (.iload_n 1, 1) := by decide +kernel
theorem dX6_isAlive_34 : decode cX6_isAlive 34 = .ok (.lshl, 1) := by decide +kernel
theorem dX6_isAlive_35 : decode cX6_isAlive 35 = .ok (.land, 1) := by decide +kernel
theorem dX6_isAlive_36 : decode cX6_isAlive 36 = .ok (.lconst 0, 1) := by decide +kernel
theorem dX6_isAlive_37 : decode cX6_isAlive 37 = .ok (.lcmp, 1) := by decide +kernel
theorem dX6_isAlive_38 : decode cX6_isAlive 38 = .ok (.ifCond .eq 7, 3) := by decide +kernel
theorem dX6_isAlive_41 : decode cX6_isAlive 41 = .ok (.iconst 1, 1) := by decide +kernel
theorem dX6_isAlive_42 : decode cX6_isAlive 42 = .ok (.goto 4, 3) := by decide +kernel
theorem dX6_isAlive_45 : decode cX6_isAlive 45 = .ok (.iconst 0, 1) := by decide +kernel
theorem dX6_isAlive_46 : decode cX6_isAlive 46 = .ok (.ireturn, 1) := by decide +kernel
theorem dX6_alive_0 : decode cX6_alive 0 = .ok (.iload_n 1, 1) := by decide +kernel
theorem dX6_alive_1 : decode cX6_alive 1 = .ok (.invokestatic 186, 3) := by decide +kernel
theorem dX6_alive_4 : decode cX6_alive 4 = .ok (.aload_n 0, 1) := by decide +kernel
theorem dX6_alive_5 : decode cX6_alive 5 = .ok (.getfield 10, 3) := by decide +kernel
theorem dX6_alive_8 : decode cX6_alive 8 = .ok (.getfield 94, 3) := by decide +kernel
theorem dX6_alive_11 : decode cX6_alive 11 = .ok (.iload_n 1, 1) := by decide +kernel
theorem dX6_alive_12 : decode cX6_alive 12 = .ok (.invokevirtual 289, 3) := by decide +kernel
theorem dX6_alive_15 : decode cX6_alive 15 = .ok (.invokestatic 117, 3) := by decide +kernel
theorem dX6_alive_18 : decode cX6_alive 18 = .ok (.ireturn, 1) := by decide +kernel
theorem dX6_caughtBy_0 : decode cX6_caughtBy 0 = .ok (.aload_n 0, 1) := by decide +kernel
theorem dX6_caughtBy_1 : decode cX6_caughtBy 1 = .ok (.iload_n 1, 1) := by decide +kernel
theorem dX6_caughtBy_2 : decode cX6_caughtBy 2 = .ok (.invokevirtual 149, 3) := by decide +kernel
theorem dX6_caughtBy_5 : decode cX6_caughtBy 5 = .ok (.aload_n 0, 1) := by decide +kernel
theorem dX6_caughtBy_6 : decode cX6_caughtBy 6 = .ok (.iload_n 1, 1) := by decide +kernel
theorem dX6_caughtBy_7 : decode cX6_caughtBy 7 = .ok (.invokevirtual 163, 3) := by decide +kernel
theorem dX6_caughtBy_10 : decode cX6_caughtBy 10 = .ok (.aload_n 0, 1) := by decide +kernel
theorem dX6_caughtBy_11 : decode cX6_caughtBy 11 = .ok (.getfield 10, 3) := by decide +kernel
theorem dX6_caughtBy_14 : decode cX6_caughtBy 14 = .ok (.getfield 94, 3) := by decide +kernel
theorem dX6_caughtBy_17 : decode cX6_caughtBy 17 = .ok (.iload_n 1, 1) := by decide +kernel
theorem dX6_caughtBy_18 : decode cX6_caughtBy 18 = .ok (.invokestatic 292, 3) := by decide +kernel
theorem dX6_caughtBy_21 : decode cX6_caughtBy 21 = .ok (.ireturn, 1) := by decide +kernel
theorem dX6_area_0 : decode cX6_area 0 = .ok (.iload_n 1, 1) := by decide +kernel
theorem dX6_area_1 : decode cX6_area 1 = .ok (.invokestatic 186, 3) := by decide +kernel
theorem dX6_area_4 : decode cX6_area 4 = .ok (.aload_n 0, 1) := by decide +kernel
theorem dX6_area_5 : decode cX6_area 5 = .ok (.getfield 10, 3) := by decide +kernel
theorem dX6_area_8 : decode cX6_area 8 = .ok (.getfield 94, 3) := by decide +kernel
